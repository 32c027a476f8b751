/-! The model: reading a day (written by wip/whole/mod39.py) -/
theorem uu12 {K : xK} {h0 h : xH} {Y : Nat} {m : Nat → Int32} {rd : Value} {ru ot : Nat} {u : Nat → Nat → Int32} {v : Nat → Int64} {a b : xs} (W : xMw K h0 h Y m rd ru ot (uu (uu u 12 a) 12 b) v) : xMw K h0 h Y m rd ru ot (uu u 12 b) v := by
  rw [uu_uu] at W
  exact W
theorem in3 {x : Int32} : (¬ mIn x (nI 49) (nI 49 + nI 3 - 1) = 0) ↔ ¬ msb 115 x = 0 := by
  have e : nI 49 + nI 3 - 1 = 51 := by decide
  rw [e]
  exact Iff.rfl
theorem in10 {c x : Int32} (h : ¬ c = 115) : (¬ mIn x (nI 48) (nI 48 + nI 10 - 1) = 0) ↔ ¬ msb c x = 0 := by
  have e : nI 48 + nI 10 - 1 = 57 := by decide
  rw [e]
  unfold msb
  rw [if_neg h]
  exact Iff.rfl
set_option maxRecDepth 20000 in
theorem r_act {K : xK} {B : Nat} {l : Launch} {h0 h : xH} {Y : Nat} {m : Nat → Int32} {ru ot L T p : Nat} {u : Nat → Nat → Int32} {v : Nat → Int64} {a tf : xs} (Z : rQ m 2 L T) (T60 : T ≤ 60) (bp : p ≤ 80) (T0 : ∀ j, j < L → u 2 j &&& 255 = tf j ∧ byt (u 2 j)) (W : xMw K h0 h Y (rdm m p (-1)) (.ref (Y + 2)) ru ot (uu u 12 a) v) {n : Nat} (hn : n ≤ 70) : xV K B l 3 mX12_readAct 0 0 (Y) [.int (nI (3 * n))] h (xPv (fun g => (∃ (b p' : Nat) (a' : xs), p' ≤ 80 ∧ ((dgb (hrV (u 2) p L T) = -1 ∧ b = p) ∨ (1 ≤ dn (hrV (u 2) p L T) ∧ msb (hrV (u 2) p L T) (hrV (u 2) (p + 1) L T) = 0 ∧ b = p + 1) ∨ (dn (hrV (u 2) p L T) = 2 ∧ ¬ msb (hrV (u 2) p L T) (hrV (u 2) (p + 1) L T) = 0 ∧ msb (hrV (u 2) p L T) (hrV (u 2) (p + 2) L T) = 0 ∧ b = p + 2)) ∧ xMw K h0 g Y (rdm m p' (nI b)) (.ref (Y + 2)) ru ot (uu u 12 a') v) ∨ (∃ a' : xs, ¬ dgb (hrV (u 2) p L T) = -1 ∧ a' (3 * n) = hrV (u 2) p L T ∧ (1 ≤ dn (hrV (u 2) p L T) → ¬ msb (hrV (u 2) p L T) (hrV (u 2) (p + 1) L T) = 0 ∧ a' (3 * n + 1) = hrV (u 2) (p + 1) L T - 48) ∧ (dn (hrV (u 2) p L T) = 2 → ¬ msb (hrV (u 2) p L T) (hrV (u 2) (p + 2) L T) = 0 ∧ a' (3 * n + 2) = hrV (u 2) (p + 2) L T - 48) ∧ (∀ j, j < 3 * n → a' j = a j) ∧ xMw K h0 g Y (rdm m (p + (1 + dn (hrV (u 2) p L T))) (-1)) (.ref (Y + 2)) ru ot (uu u 12 a') v))) := by
  refine ⟨⟨_, _, _, _, W.o, rfl⟩, qX12_readAct, ?_⟩
  refine xS.intro RX12 false ⟨rfl, rfl, by decide, by decide, Nat.le_of_ble_eq_true rfl⟩ (ls := [some (.ref Y), some (.int (nI (3 * n))), none]) rfl ?_
  refine xr_al0 dX12_readAct_0 ?_
  refine xr_Vpi0 (r_here Z bp W) kX12_119 (by decide) (Nat.le_of_ble_eq_true rfl) (Nat.zero_add _) (Nat.zero_add _) dX12_readAct_1 (fun zv1 zh1 zq1 => ?_)
  obtain ⟨rfl, W⟩ := zq1
  refine xr_is2 dX12_readAct_4 (by decide) rfl ?_
  refine xr_il2 dX12_readAct_5 ?_
  refine xr_bipush (v := 42) dX12_readAct_6 (by decide) ?_
  refine xr_icmpeq (tgt := 56) dX12_readAct_8 (by decide) (fun zc8 => ?_) (fun zc8 => ?_)
  · skip
    have hx : hrV (u 2) p L T = 42 := zc8
    have pl : p < L ∧ p < T := Decidable.not_not.mp (fun q => by
      rw [hr_out q] at hx
      exact absurd hx (by decide))
    have dg : dgb (hrV (u 2) p L T) = nI 0 := by
      rw [hx]
      rfl
    have dn' : dn (hrV (u 2) p L T) = 0 := by
      unfold dn
      rw [dg]
      rfl
    have gm : ¬ dgb (hrV (u 2) p L T) = -1 := by
      rw [dg]
      decide
    refine xr_al0 dX12_readAct_56 ?_
    refine xr_dup dX12_readAct_57 rfl ?_
    refine xr_get W.o fX12_105 rfl dX12_readAct_58 ?_
    refine xr_eqi (y := nI p) rfl ?_
    refine xr_ic1 dX12_readAct_61 ?_
    refine xr_iadd dX12_readAct_62 ?_
    refine xr_eqi (y := nI (p + 1)) (nI_1 p) ?_
    refine xr_put W.o fX12_105 (Nat.le_of_ble_eq_true rfl) rfl rfl dX12_readAct_63 ?_
    refine xT.nm (fun zh1 zg1 => ?_)
    have W := W.f9 zg1
    rw [rdm_p] at W
    refine xr_al0 dX12_readAct_66 ?_
    refine xr_get W.o fX12_45 rfl dX12_readAct_67 ?_
    refine xr_il1 dX12_readAct_70 ?_
    refine xr_il2 dX12_readAct_71 ?_
    refine xr_iast W.a12 (xix_nI (n := 240) (j := 3 * n) (by omega) (by decide)) dX12_readAct_72 ?_
    refine xT.nm (fun zh2 zg2 => ?_)
    have W := uu12 (W.p12 zg2)
    refine xr_il2 dX12_readAct_73 ?_
    refine xr_bipush (v := 42) dX12_readAct_74 (by decide) ?_
    refine xr_icmpne (tgt := 80) dX12_readAct_76 (by decide) (fun zc76 => ?_) (fun zc76 => ?_)
    · skip
      exact absurd zc8 zc76
    · skip
      refine xr_vret dX12_readAct_79 rfl ?_
      refine ⟨rfl, Or.inr ⟨upd a (3 * n) (hrV (u 2) p L T), gm, ?_, ?_, ?_, ?_, ?_⟩⟩
      · exact pk_us
      · intro q
        rw [dn'] at q
        omega
      · intro q
        rw [dn'] at q
        omega
      · intro j hj
        exact upd_hi _ _ (by omega)
      · rw [dn']
        exact W
  · skip
    refine xr_il2 dX12_readAct_11 ?_
    refine xr_bipush (v := 110) dX12_readAct_12 (by decide) ?_
    refine xr_icmpeq (tgt := 56) dX12_readAct_14 (by decide) (fun zc14 => ?_) (fun zc14 => ?_)
    · skip
      have hx : hrV (u 2) p L T = 110 := zc14
      have pl : p < L ∧ p < T := Decidable.not_not.mp (fun q => by
        rw [hr_out q] at hx
        exact absurd hx (by decide))
      have dg : dgb (hrV (u 2) p L T) = nI 1 := by
        rw [hx]
        rfl
      have dn' : dn (hrV (u 2) p L T) = 1 := by
        unfold dn
        rw [dg]
        rfl
      have gm : ¬ dgb (hrV (u 2) p L T) = -1 := by
        rw [dg]
        decide
      refine xr_al0 dX12_readAct_56 ?_
      refine xr_dup dX12_readAct_57 rfl ?_
      refine xr_get W.o fX12_105 rfl dX12_readAct_58 ?_
      refine xr_eqi (y := nI p) rfl ?_
      refine xr_ic1 dX12_readAct_61 ?_
      refine xr_iadd dX12_readAct_62 ?_
      refine xr_eqi (y := nI (p + 1)) (nI_1 p) ?_
      refine xr_put W.o fX12_105 (Nat.le_of_ble_eq_true rfl) rfl rfl dX12_readAct_63 ?_
      refine xT.nm (fun zh1 zg1 => ?_)
      have W := W.f9 zg1
      rw [rdm_p] at W
      refine xr_al0 dX12_readAct_66 ?_
      refine xr_get W.o fX12_45 rfl dX12_readAct_67 ?_
      refine xr_il1 dX12_readAct_70 ?_
      refine xr_il2 dX12_readAct_71 ?_
      refine xr_iast W.a12 (xix_nI (n := 240) (j := 3 * n) (by omega) (by decide)) dX12_readAct_72 ?_
      refine xT.nm (fun zh2 zg2 => ?_)
      have W := uu12 (W.p12 zg2)
      refine xr_il2 dX12_readAct_73 ?_
      refine xr_bipush (v := 42) dX12_readAct_74 (by decide) ?_
      refine xr_icmpne (tgt := 80) dX12_readAct_76 (by decide) (fun zc76 => ?_) (fun zc76 => ?_)
      · skip
        refine xr_al0 dX12_readAct_80 ?_
        refine xr_get W.o fX12_45 rfl dX12_readAct_81 ?_
        refine xr_il1 dX12_readAct_84 ?_
        refine xr_ic1 dX12_readAct_85 ?_
        refine xr_iadd dX12_readAct_86 ?_
        refine xr_eqi (y := nI (3 * n + 1)) (nI_1 _) ?_
        refine xr_il2 dX12_readAct_87 ?_
        refine xr_bipush (v := 115) dX12_readAct_88 (by decide) ?_
        refine xr_icmpne (tgt := 105) dX12_readAct_90 (by decide) (fun zc90 => ?_) (fun zc90 => ?_)
        · skip
          refine xr_al0 dX12_readAct_105 ?_
          refine xr_bipush (v := 48) dX12_readAct_106 (by decide) ?_
          refine xr_bipush (v := 10) dX12_readAct_108 (by decide) ?_
          refine xr_Vpi2 (r_one Z (by omega) W (fun j hj => (T0 j hj).2) (a := 48) (b := 10) (by decide) (by decide)) kX12_131 (by decide) (Nat.le_of_ble_eq_true rfl) (Nat.zero_add _) (Nat.zero_add _) dX12_readAct_110 (fun zv110 zh3 zq3 => ?_)
          rcases zq3 with ⟨y, -⟩ | ⟨-, y1, rfl, W⟩ | ⟨-, y1, rfl, W⟩
          · exact absurd rfl y
          · skip
            have y1 : msb 110 (hrV (u 2) (p + 1) L T) = 0 := Decidable.not_not.mp (fun q => y1 ((in10 (c := 110) (by decide)).mpr q))
            refine xr_iast W.a12 (xix_nI (n := 240) (j := 3 * n + 1) (by omega) (by decide)) dX12_readAct_113 ?_
            refine xT.nm (fun zh1 zg1 => ?_)
            have W := uu12 (W.p12 zg1)
            refine xr_il2 dX12_readAct_114 ?_
            refine xr_bipush (v := 108) dX12_readAct_115 (by decide) ?_
            refine xr_icmpeq (tgt := 132) dX12_readAct_117 (by decide) (fun zc117 => ?_) (fun zc117 => ?_)
            · skip
              exact absurd (zc14.symm.trans zc117) (by decide)
            · skip
              refine xr_il2 dX12_readAct_120 ?_
              refine xr_bipush (v := 120) dX12_readAct_121 (by decide) ?_
              refine xr_icmpeq (tgt := 132) dX12_readAct_123 (by decide) (fun zc123 => ?_) (fun zc123 => ?_)
              · skip
                exact absurd (zc14.symm.trans zc123) (by decide)
              · skip
                refine xr_il2 dX12_readAct_126 ?_
                refine xr_bipush (v := 111) dX12_readAct_127 (by decide) ?_
                refine xr_icmpne (tgt := 148) dX12_readAct_129 (by decide) (fun zc129 => ?_) (fun zc129 => ?_)
                · skip
                  refine xr_vret dX12_readAct_148 rfl ?_
                  exact ⟨rfl, Or.inl ⟨p + 1, p + 1, _, by omega, Or.inr (Or.inl ⟨by omega, by rw [hx]; exact y1, rfl⟩), W⟩⟩
                · skip
                  exact absurd (zc14.symm.trans zc129) (by decide)
          have y1 : ¬ msb 110 (hrV (u 2) (p + 1) L T) = 0 := (in10 (c := 110) (by decide)).mp y1
          refine xr_iast W.a12 (xix_nI (n := 240) (j := 3 * n + 1) (by omega) (by decide)) dX12_readAct_113 ?_
          refine xT.nm (fun zh4 zg4 => ?_)
          have W := uu12 (W.p12 zg4)
          refine xr_il2 dX12_readAct_114 ?_
          refine xr_bipush (v := 108) dX12_readAct_115 (by decide) ?_
          refine xr_icmpeq (tgt := 132) dX12_readAct_117 (by decide) (fun zc117 => ?_) (fun zc117 => ?_)
          · skip
            exact absurd (zc14.symm.trans zc117) (by decide)
          · skip
            refine xr_il2 dX12_readAct_120 ?_
            refine xr_bipush (v := 120) dX12_readAct_121 (by decide) ?_
            refine xr_icmpeq (tgt := 132) dX12_readAct_123 (by decide) (fun zc123 => ?_) (fun zc123 => ?_)
            · skip
              exact absurd (zc14.symm.trans zc123) (by decide)
            · skip
              refine xr_il2 dX12_readAct_126 ?_
              refine xr_bipush (v := 111) dX12_readAct_127 (by decide) ?_
              refine xr_icmpne (tgt := 148) dX12_readAct_129 (by decide) (fun zc129 => ?_) (fun zc129 => ?_)
              · skip
                refine xr_vret dX12_readAct_148 rfl ?_
                refine ⟨rfl, Or.inr ⟨upd (upd a (3 * n) (hrV (u 2) p L T)) (3 * n + 1) (hrV (u 2) (p + 1) L T - nI 48), gm, ?_, ?_, ?_, ?_, ?_⟩⟩
                · rw [upd_hi _ _ (by omega)]
                  exact pk_us
                · intro _
                  rw [hx]
                  exact ⟨y1, pk_us⟩
                · intro q
                  rw [dn'] at q
                  omega
                · intro j hj
                  rw [upd_hi _ _ (by omega)]
                  exact upd_hi _ _ (by omega)
                · rw [dn']
                  exact W
              · skip
                exact absurd (zc14.symm.trans zc129) (by decide)
        · skip
          exact absurd (zc14.symm.trans zc90) (by decide)
      · skip
        exact absurd (zc14.symm.trans zc76) (by decide)
    · skip
      refine xr_il2 dX12_readAct_17 ?_
      refine xr_bipush (v := 103) dX12_readAct_18 (by decide) ?_
      refine xr_icmpeq (tgt := 56) dX12_readAct_20 (by decide) (fun zc20 => ?_) (fun zc20 => ?_)
      · skip
        have hx : hrV (u 2) p L T = 103 := zc20
        have pl : p < L ∧ p < T := Decidable.not_not.mp (fun q => by
          rw [hr_out q] at hx
          exact absurd hx (by decide))
        have dg : dgb (hrV (u 2) p L T) = nI 1 := by
          rw [hx]
          rfl
        have dn' : dn (hrV (u 2) p L T) = 1 := by
          unfold dn
          rw [dg]
          rfl
        have gm : ¬ dgb (hrV (u 2) p L T) = -1 := by
          rw [dg]
          decide
        refine xr_al0 dX12_readAct_56 ?_
        refine xr_dup dX12_readAct_57 rfl ?_
        refine xr_get W.o fX12_105 rfl dX12_readAct_58 ?_
        refine xr_eqi (y := nI p) rfl ?_
        refine xr_ic1 dX12_readAct_61 ?_
        refine xr_iadd dX12_readAct_62 ?_
        refine xr_eqi (y := nI (p + 1)) (nI_1 p) ?_
        refine xr_put W.o fX12_105 (Nat.le_of_ble_eq_true rfl) rfl rfl dX12_readAct_63 ?_
        refine xT.nm (fun zh1 zg1 => ?_)
        have W := W.f9 zg1
        rw [rdm_p] at W
        refine xr_al0 dX12_readAct_66 ?_
        refine xr_get W.o fX12_45 rfl dX12_readAct_67 ?_
        refine xr_il1 dX12_readAct_70 ?_
        refine xr_il2 dX12_readAct_71 ?_
        refine xr_iast W.a12 (xix_nI (n := 240) (j := 3 * n) (by omega) (by decide)) dX12_readAct_72 ?_
        refine xT.nm (fun zh2 zg2 => ?_)
        have W := uu12 (W.p12 zg2)
        refine xr_il2 dX12_readAct_73 ?_
        refine xr_bipush (v := 42) dX12_readAct_74 (by decide) ?_
        refine xr_icmpne (tgt := 80) dX12_readAct_76 (by decide) (fun zc76 => ?_) (fun zc76 => ?_)
        · skip
          refine xr_al0 dX12_readAct_80 ?_
          refine xr_get W.o fX12_45 rfl dX12_readAct_81 ?_
          refine xr_il1 dX12_readAct_84 ?_
          refine xr_ic1 dX12_readAct_85 ?_
          refine xr_iadd dX12_readAct_86 ?_
          refine xr_eqi (y := nI (3 * n + 1)) (nI_1 _) ?_
          refine xr_il2 dX12_readAct_87 ?_
          refine xr_bipush (v := 115) dX12_readAct_88 (by decide) ?_
          refine xr_icmpne (tgt := 105) dX12_readAct_90 (by decide) (fun zc90 => ?_) (fun zc90 => ?_)
          · skip
            refine xr_al0 dX12_readAct_105 ?_
            refine xr_bipush (v := 48) dX12_readAct_106 (by decide) ?_
            refine xr_bipush (v := 10) dX12_readAct_108 (by decide) ?_
            refine xr_Vpi2 (r_one Z (by omega) W (fun j hj => (T0 j hj).2) (a := 48) (b := 10) (by decide) (by decide)) kX12_131 (by decide) (Nat.le_of_ble_eq_true rfl) (Nat.zero_add _) (Nat.zero_add _) dX12_readAct_110 (fun zv110 zh3 zq3 => ?_)
            rcases zq3 with ⟨y, -⟩ | ⟨-, y1, rfl, W⟩ | ⟨-, y1, rfl, W⟩
            · exact absurd rfl y
            · skip
              have y1 : msb 103 (hrV (u 2) (p + 1) L T) = 0 := Decidable.not_not.mp (fun q => y1 ((in10 (c := 103) (by decide)).mpr q))
              refine xr_iast W.a12 (xix_nI (n := 240) (j := 3 * n + 1) (by omega) (by decide)) dX12_readAct_113 ?_
              refine xT.nm (fun zh1 zg1 => ?_)
              have W := uu12 (W.p12 zg1)
              refine xr_il2 dX12_readAct_114 ?_
              refine xr_bipush (v := 108) dX12_readAct_115 (by decide) ?_
              refine xr_icmpeq (tgt := 132) dX12_readAct_117 (by decide) (fun zc117 => ?_) (fun zc117 => ?_)
              · skip
                exact absurd (zc20.symm.trans zc117) (by decide)
              · skip
                refine xr_il2 dX12_readAct_120 ?_
                refine xr_bipush (v := 120) dX12_readAct_121 (by decide) ?_
                refine xr_icmpeq (tgt := 132) dX12_readAct_123 (by decide) (fun zc123 => ?_) (fun zc123 => ?_)
                · skip
                  exact absurd (zc20.symm.trans zc123) (by decide)
                · skip
                  refine xr_il2 dX12_readAct_126 ?_
                  refine xr_bipush (v := 111) dX12_readAct_127 (by decide) ?_
                  refine xr_icmpne (tgt := 148) dX12_readAct_129 (by decide) (fun zc129 => ?_) (fun zc129 => ?_)
                  · skip
                    refine xr_vret dX12_readAct_148 rfl ?_
                    exact ⟨rfl, Or.inl ⟨p + 1, p + 1, _, by omega, Or.inr (Or.inl ⟨by omega, by rw [hx]; exact y1, rfl⟩), W⟩⟩
                  · skip
                    exact absurd (zc20.symm.trans zc129) (by decide)
            have y1 : ¬ msb 103 (hrV (u 2) (p + 1) L T) = 0 := (in10 (c := 103) (by decide)).mp y1
            refine xr_iast W.a12 (xix_nI (n := 240) (j := 3 * n + 1) (by omega) (by decide)) dX12_readAct_113 ?_
            refine xT.nm (fun zh4 zg4 => ?_)
            have W := uu12 (W.p12 zg4)
            refine xr_il2 dX12_readAct_114 ?_
            refine xr_bipush (v := 108) dX12_readAct_115 (by decide) ?_
            refine xr_icmpeq (tgt := 132) dX12_readAct_117 (by decide) (fun zc117 => ?_) (fun zc117 => ?_)
            · skip
              exact absurd (zc20.symm.trans zc117) (by decide)
            · skip
              refine xr_il2 dX12_readAct_120 ?_
              refine xr_bipush (v := 120) dX12_readAct_121 (by decide) ?_
              refine xr_icmpeq (tgt := 132) dX12_readAct_123 (by decide) (fun zc123 => ?_) (fun zc123 => ?_)
              · skip
                exact absurd (zc20.symm.trans zc123) (by decide)
              · skip
                refine xr_il2 dX12_readAct_126 ?_
                refine xr_bipush (v := 111) dX12_readAct_127 (by decide) ?_
                refine xr_icmpne (tgt := 148) dX12_readAct_129 (by decide) (fun zc129 => ?_) (fun zc129 => ?_)
                · skip
                  refine xr_vret dX12_readAct_148 rfl ?_
                  refine ⟨rfl, Or.inr ⟨upd (upd a (3 * n) (hrV (u 2) p L T)) (3 * n + 1) (hrV (u 2) (p + 1) L T - nI 48), gm, ?_, ?_, ?_, ?_, ?_⟩⟩
                  · rw [upd_hi _ _ (by omega)]
                    exact pk_us
                  · intro _
                    rw [hx]
                    exact ⟨y1, pk_us⟩
                  · intro q
                    rw [dn'] at q
                    omega
                  · intro j hj
                    rw [upd_hi _ _ (by omega)]
                    exact upd_hi _ _ (by omega)
                  · rw [dn']
                    exact W
                · skip
                  exact absurd (zc20.symm.trans zc129) (by decide)
          · skip
            exact absurd (zc20.symm.trans zc90) (by decide)
        · skip
          exact absurd (zc20.symm.trans zc76) (by decide)
      · skip
        refine xr_il2 dX12_readAct_23 ?_
        refine xr_bipush (v := 115) dX12_readAct_24 (by decide) ?_
        refine xr_icmpeq (tgt := 56) dX12_readAct_26 (by decide) (fun zc26 => ?_) (fun zc26 => ?_)
        · skip
          have hx : hrV (u 2) p L T = 115 := zc26
          have pl : p < L ∧ p < T := Decidable.not_not.mp (fun q => by
            rw [hr_out q] at hx
            exact absurd hx (by decide))
          have dg : dgb (hrV (u 2) p L T) = nI 1 := by
            rw [hx]
            rfl
          have dn' : dn (hrV (u 2) p L T) = 1 := by
            unfold dn
            rw [dg]
            rfl
          have gm : ¬ dgb (hrV (u 2) p L T) = -1 := by
            rw [dg]
            decide
          refine xr_al0 dX12_readAct_56 ?_
          refine xr_dup dX12_readAct_57 rfl ?_
          refine xr_get W.o fX12_105 rfl dX12_readAct_58 ?_
          refine xr_eqi (y := nI p) rfl ?_
          refine xr_ic1 dX12_readAct_61 ?_
          refine xr_iadd dX12_readAct_62 ?_
          refine xr_eqi (y := nI (p + 1)) (nI_1 p) ?_
          refine xr_put W.o fX12_105 (Nat.le_of_ble_eq_true rfl) rfl rfl dX12_readAct_63 ?_
          refine xT.nm (fun zh1 zg1 => ?_)
          have W := W.f9 zg1
          rw [rdm_p] at W
          refine xr_al0 dX12_readAct_66 ?_
          refine xr_get W.o fX12_45 rfl dX12_readAct_67 ?_
          refine xr_il1 dX12_readAct_70 ?_
          refine xr_il2 dX12_readAct_71 ?_
          refine xr_iast W.a12 (xix_nI (n := 240) (j := 3 * n) (by omega) (by decide)) dX12_readAct_72 ?_
          refine xT.nm (fun zh2 zg2 => ?_)
          have W := uu12 (W.p12 zg2)
          refine xr_il2 dX12_readAct_73 ?_
          refine xr_bipush (v := 42) dX12_readAct_74 (by decide) ?_
          refine xr_icmpne (tgt := 80) dX12_readAct_76 (by decide) (fun zc76 => ?_) (fun zc76 => ?_)
          · skip
            refine xr_al0 dX12_readAct_80 ?_
            refine xr_get W.o fX12_45 rfl dX12_readAct_81 ?_
            refine xr_il1 dX12_readAct_84 ?_
            refine xr_ic1 dX12_readAct_85 ?_
            refine xr_iadd dX12_readAct_86 ?_
            refine xr_eqi (y := nI (3 * n + 1)) (nI_1 _) ?_
            refine xr_il2 dX12_readAct_87 ?_
            refine xr_bipush (v := 115) dX12_readAct_88 (by decide) ?_
            refine xr_icmpne (tgt := 105) dX12_readAct_90 (by decide) (fun zc90 => ?_) (fun zc90 => ?_)
            · skip
              exact absurd zc26 zc90
            · skip
              refine xr_al0 dX12_readAct_93 ?_
              refine xr_bipush (v := 49) dX12_readAct_94 (by decide) ?_
              refine xr_ic3 dX12_readAct_96 ?_
              refine xr_Vpi2 (r_one Z (by omega) W (fun j hj => (T0 j hj).2) (a := 49) (b := 3) (by decide) (by decide)) kX12_131 (by decide) (Nat.le_of_ble_eq_true rfl) (Nat.zero_add _) (Nat.zero_add _) dX12_readAct_97 (fun zv97 zh3 zq3 => ?_)
              rcases zq3 with ⟨y, -⟩ | ⟨-, y1, rfl, W⟩ | ⟨-, y1, rfl, W⟩
              · exact absurd rfl y
              · skip
                have y1 : msb 115 (hrV (u 2) (p + 1) L T) = 0 := Decidable.not_not.mp (fun q => y1 (in3.mpr q))
                refine xr_ic1 dX12_readAct_100 ?_
                refine xr_iadd dX12_readAct_101 ?_
                refine xr_goto (tgt := 113) dX12_readAct_102 (by decide) ?_
                refine xr_iast W.a12 (xix_nI (n := 240) (j := 3 * n + 1) (by omega) (by decide)) dX12_readAct_113 ?_
                refine xT.nm (fun zh1 zg1 => ?_)
                have W := uu12 (W.p12 zg1)
                refine xr_il2 dX12_readAct_114 ?_
                refine xr_bipush (v := 108) dX12_readAct_115 (by decide) ?_
                refine xr_icmpeq (tgt := 132) dX12_readAct_117 (by decide) (fun zc117 => ?_) (fun zc117 => ?_)
                · skip
                  exact absurd (zc26.symm.trans zc117) (by decide)
                · skip
                  refine xr_il2 dX12_readAct_120 ?_
                  refine xr_bipush (v := 120) dX12_readAct_121 (by decide) ?_
                  refine xr_icmpeq (tgt := 132) dX12_readAct_123 (by decide) (fun zc123 => ?_) (fun zc123 => ?_)
                  · skip
                    exact absurd (zc26.symm.trans zc123) (by decide)
                  · skip
                    refine xr_il2 dX12_readAct_126 ?_
                    refine xr_bipush (v := 111) dX12_readAct_127 (by decide) ?_
                    refine xr_icmpne (tgt := 148) dX12_readAct_129 (by decide) (fun zc129 => ?_) (fun zc129 => ?_)
                    · skip
                      refine xr_vret dX12_readAct_148 rfl ?_
                      exact ⟨rfl, Or.inl ⟨p + 1, p + 1, _, by omega, Or.inr (Or.inl ⟨by omega, by rw [hx]; exact y1, rfl⟩), W⟩⟩
                    · skip
                      exact absurd (zc26.symm.trans zc129) (by decide)
              have y1 : ¬ msb 115 (hrV (u 2) (p + 1) L T) = 0 := in3.mp y1
              refine xr_ic1 dX12_readAct_100 ?_
              refine xr_iadd dX12_readAct_101 ?_
              refine xr_goto (tgt := 113) dX12_readAct_102 (by decide) ?_
              refine xr_iast W.a12 (xix_nI (n := 240) (j := 3 * n + 1) (by omega) (by decide)) dX12_readAct_113 ?_
              refine xT.nm (fun zh4 zg4 => ?_)
              have W := uu12 (W.p12 zg4)
              refine xr_il2 dX12_readAct_114 ?_
              refine xr_bipush (v := 108) dX12_readAct_115 (by decide) ?_
              refine xr_icmpeq (tgt := 132) dX12_readAct_117 (by decide) (fun zc117 => ?_) (fun zc117 => ?_)
              · skip
                exact absurd (zc26.symm.trans zc117) (by decide)
              · skip
                refine xr_il2 dX12_readAct_120 ?_
                refine xr_bipush (v := 120) dX12_readAct_121 (by decide) ?_
                refine xr_icmpeq (tgt := 132) dX12_readAct_123 (by decide) (fun zc123 => ?_) (fun zc123 => ?_)
                · skip
                  exact absurd (zc26.symm.trans zc123) (by decide)
                · skip
                  refine xr_il2 dX12_readAct_126 ?_
                  refine xr_bipush (v := 111) dX12_readAct_127 (by decide) ?_
                  refine xr_icmpne (tgt := 148) dX12_readAct_129 (by decide) (fun zc129 => ?_) (fun zc129 => ?_)
                  · skip
                    refine xr_vret dX12_readAct_148 rfl ?_
                    refine ⟨rfl, Or.inr ⟨upd (upd a (3 * n) (hrV (u 2) p L T)) (3 * n + 1) (hrV (u 2) (p + 1) L T - nI 49 + 1), gm, ?_, ?_, ?_, ?_, ?_⟩⟩
                    · rw [upd_hi _ _ (by omega)]
                      exact pk_us
                    · intro _
                      rw [hx]
                      exact ⟨y1, pk_us.trans (m49 _)⟩
                    · intro q
                      rw [dn'] at q
                      omega
                    · intro j hj
                      rw [upd_hi _ _ (by omega)]
                      exact upd_hi _ _ (by omega)
                    · rw [dn']
                      exact W
                  · skip
                    exact absurd (zc26.symm.trans zc129) (by decide)
          · skip
            exact absurd (zc26.symm.trans zc76) (by decide)
        · skip
          refine xr_il2 dX12_readAct_29 ?_
          refine xr_bipush (v := 108) dX12_readAct_30 (by decide) ?_
          refine xr_icmpeq (tgt := 56) dX12_readAct_32 (by decide) (fun zc32 => ?_) (fun zc32 => ?_)
          · skip
            have hx : hrV (u 2) p L T = 108 := zc32
            have pl : p < L ∧ p < T := Decidable.not_not.mp (fun q => by
              rw [hr_out q] at hx
              exact absurd hx (by decide))
            have dg : dgb (hrV (u 2) p L T) = nI 2 := by
              rw [hx]
              rfl
            have dn' : dn (hrV (u 2) p L T) = 2 := by
              unfold dn
              rw [dg]
              rfl
            have gm : ¬ dgb (hrV (u 2) p L T) = -1 := by
              rw [dg]
              decide
            refine xr_al0 dX12_readAct_56 ?_
            refine xr_dup dX12_readAct_57 rfl ?_
            refine xr_get W.o fX12_105 rfl dX12_readAct_58 ?_
            refine xr_eqi (y := nI p) rfl ?_
            refine xr_ic1 dX12_readAct_61 ?_
            refine xr_iadd dX12_readAct_62 ?_
            refine xr_eqi (y := nI (p + 1)) (nI_1 p) ?_
            refine xr_put W.o fX12_105 (Nat.le_of_ble_eq_true rfl) rfl rfl dX12_readAct_63 ?_
            refine xT.nm (fun zh1 zg1 => ?_)
            have W := W.f9 zg1
            rw [rdm_p] at W
            refine xr_al0 dX12_readAct_66 ?_
            refine xr_get W.o fX12_45 rfl dX12_readAct_67 ?_
            refine xr_il1 dX12_readAct_70 ?_
            refine xr_il2 dX12_readAct_71 ?_
            refine xr_iast W.a12 (xix_nI (n := 240) (j := 3 * n) (by omega) (by decide)) dX12_readAct_72 ?_
            refine xT.nm (fun zh2 zg2 => ?_)
            have W := uu12 (W.p12 zg2)
            refine xr_il2 dX12_readAct_73 ?_
            refine xr_bipush (v := 42) dX12_readAct_74 (by decide) ?_
            refine xr_icmpne (tgt := 80) dX12_readAct_76 (by decide) (fun zc76 => ?_) (fun zc76 => ?_)
            · skip
              refine xr_al0 dX12_readAct_80 ?_
              refine xr_get W.o fX12_45 rfl dX12_readAct_81 ?_
              refine xr_il1 dX12_readAct_84 ?_
              refine xr_ic1 dX12_readAct_85 ?_
              refine xr_iadd dX12_readAct_86 ?_
              refine xr_eqi (y := nI (3 * n + 1)) (nI_1 _) ?_
              refine xr_il2 dX12_readAct_87 ?_
              refine xr_bipush (v := 115) dX12_readAct_88 (by decide) ?_
              refine xr_icmpne (tgt := 105) dX12_readAct_90 (by decide) (fun zc90 => ?_) (fun zc90 => ?_)
              · skip
                refine xr_al0 dX12_readAct_105 ?_
                refine xr_bipush (v := 48) dX12_readAct_106 (by decide) ?_
                refine xr_bipush (v := 10) dX12_readAct_108 (by decide) ?_
                refine xr_Vpi2 (r_one Z (by omega) W (fun j hj => (T0 j hj).2) (a := 48) (b := 10) (by decide) (by decide)) kX12_131 (by decide) (Nat.le_of_ble_eq_true rfl) (Nat.zero_add _) (Nat.zero_add _) dX12_readAct_110 (fun zv110 zh3 zq3 => ?_)
                rcases zq3 with ⟨y, -⟩ | ⟨-, y1, rfl, W⟩ | ⟨-, y1, rfl, W⟩
                · exact absurd rfl y
                · skip
                  have y1 : msb 108 (hrV (u 2) (p + 1) L T) = 0 := Decidable.not_not.mp (fun q => y1 ((in10 (c := 108) (by decide)).mpr q))
                  refine xr_iast W.a12 (xix_nI (n := 240) (j := 3 * n + 1) (by omega) (by decide)) dX12_readAct_113 ?_
                  refine xT.nm (fun zh1 zg1 => ?_)
                  have W := uu12 (W.p12 zg1)
                  refine xr_il2 dX12_readAct_114 ?_
                  refine xr_bipush (v := 108) dX12_readAct_115 (by decide) ?_
                  refine xr_icmpeq (tgt := 132) dX12_readAct_117 (by decide) (fun zc117 => ?_) (fun zc117 => ?_)
                  · skip
                    refine xr_al0 dX12_readAct_132 ?_
                    refine xr_get W.o fX12_45 rfl dX12_readAct_133 ?_
                    refine xr_il1 dX12_readAct_136 ?_
                    refine xr_ic2 dX12_readAct_137 ?_
                    refine xr_iadd dX12_readAct_138 ?_
                    refine xr_eqi (y := nI (3 * n + 2)) (nI_add _ 2) ?_
                    refine xr_al0 dX12_readAct_139 ?_
                    refine xr_bipush (v := 48) dX12_readAct_140 (by decide) ?_
                    refine xr_bipush (v := 10) dX12_readAct_142 (by decide) ?_
                    refine xr_Vpi2 (r_one Z (by omega) W (fun j hj => (T0 j hj).2) (a := 48) (b := 10) (by decide) (by decide)) kX12_131 (by decide) (Nat.le_of_ble_eq_true rfl) (Nat.zero_add _) (Nat.zero_add _) dX12_readAct_144 (fun zv144 zh2 zq2 => ?_)
                    rcases zq2 with ⟨-, rfl, W⟩ | ⟨y, -⟩ | ⟨y, -⟩
                    rotate_left
                    · exact absurd y (nI_m1 (by omega))
                    · exact absurd y (nI_m1 (by omega))
                    refine xr_iast W.a12 (xix_nI (n := 240) (j := 3 * n + 2) (by omega) (by decide)) dX12_readAct_147 ?_
                    refine xT.nm (fun zh3 zg3 => ?_)
                    have W := uu12 (W.p12 zg3)
                    refine xr_vret dX12_readAct_148 rfl ?_
                    exact ⟨rfl, Or.inl ⟨p + 1, p + 1, _, by omega, Or.inr (Or.inl ⟨by omega, by rw [hx]; exact y1, rfl⟩), W⟩⟩
                  · skip
                    exact absurd zc32 zc117
                have y1 : ¬ msb 108 (hrV (u 2) (p + 1) L T) = 0 := (in10 (c := 108) (by decide)).mp y1
                refine xr_iast W.a12 (xix_nI (n := 240) (j := 3 * n + 1) (by omega) (by decide)) dX12_readAct_113 ?_
                refine xT.nm (fun zh4 zg4 => ?_)
                have W := uu12 (W.p12 zg4)
                refine xr_il2 dX12_readAct_114 ?_
                refine xr_bipush (v := 108) dX12_readAct_115 (by decide) ?_
                refine xr_icmpeq (tgt := 132) dX12_readAct_117 (by decide) (fun zc117 => ?_) (fun zc117 => ?_)
                · skip
                  refine xr_al0 dX12_readAct_132 ?_
                  refine xr_get W.o fX12_45 rfl dX12_readAct_133 ?_
                  refine xr_il1 dX12_readAct_136 ?_
                  refine xr_ic2 dX12_readAct_137 ?_
                  refine xr_iadd dX12_readAct_138 ?_
                  refine xr_eqi (y := nI (3 * n + 2)) (nI_add _ 2) ?_
                  refine xr_al0 dX12_readAct_139 ?_
                  refine xr_bipush (v := 48) dX12_readAct_140 (by decide) ?_
                  refine xr_bipush (v := 10) dX12_readAct_142 (by decide) ?_
                  refine xr_Vpi2 (r_one Z (by omega) W (fun j hj => (T0 j hj).2) (a := 48) (b := 10) (by decide) (by decide)) kX12_131 (by decide) (Nat.le_of_ble_eq_true rfl) (Nat.zero_add _) (Nat.zero_add _) dX12_readAct_144 (fun zv144 zh5 zq5 => ?_)
                  rcases zq5 with ⟨y, -⟩ | ⟨-, y2, rfl, W⟩ | ⟨-, y2, rfl, W⟩
                  · exact absurd rfl y
                  · skip
                    have y2 : msb 108 (hrV (u 2) (p + 2) L T) = 0 := Decidable.not_not.mp (fun q => y2 ((in10 (c := 108) (by decide)).mpr q))
                    refine xr_iast W.a12 (xix_nI (n := 240) (j := 3 * n + 2) (by omega) (by decide)) dX12_readAct_147 ?_
                    refine xT.nm (fun zh1 zg1 => ?_)
                    have W := uu12 (W.p12 zg1)
                    refine xr_vret dX12_readAct_148 rfl ?_
                    exact ⟨rfl, Or.inl ⟨p + 2, p + 2, _, by omega, Or.inr (Or.inr ⟨dn', by rw [hx]; exact y1, by rw [hx]; exact y2, rfl⟩), W⟩⟩
                  have y2 : ¬ msb 108 (hrV (u 2) (p + 2) L T) = 0 := (in10 (c := 108) (by decide)).mp y2
                  refine xr_iast W.a12 (xix_nI (n := 240) (j := 3 * n + 2) (by omega) (by decide)) dX12_readAct_147 ?_
                  refine xT.nm (fun zh6 zg6 => ?_)
                  have W := uu12 (W.p12 zg6)
                  refine xr_vret dX12_readAct_148 rfl ?_
                  refine ⟨rfl, Or.inr ⟨upd (upd (upd a (3 * n) (hrV (u 2) p L T)) (3 * n + 1) (hrV (u 2) (p + 1) L T - nI 48)) (3 * n + 2) (hrV (u 2) (p + 2) L T - nI 48), gm, ?_, ?_, ?_, ?_, ?_⟩⟩
                  · rw [upd_hi _ _ (by omega), upd_hi _ _ (by omega)]
                    exact pk_us
                  · intro _
                    rw [hx]
                    refine ⟨y1, ?_⟩
                    rw [upd_hi _ _ (by omega)]
                    exact pk_us
                  · intro _
                    rw [hx]
                    exact ⟨y2, pk_us⟩
                  · intro j hj
                    rw [upd_hi _ _ (by omega), upd_hi _ _ (by omega)]
                    exact upd_hi _ _ (by omega)
                  · rw [dn']
                    exact W
                · skip
                  exact absurd zc32 zc117
              · skip
                exact absurd (zc32.symm.trans zc90) (by decide)
            · skip
              exact absurd (zc32.symm.trans zc76) (by decide)
          · skip
            refine xr_il2 dX12_readAct_35 ?_
            refine xr_bipush (v := 120) dX12_readAct_36 (by decide) ?_
            refine xr_icmpeq (tgt := 56) dX12_readAct_38 (by decide) (fun zc38 => ?_) (fun zc38 => ?_)
            · skip
              have hx : hrV (u 2) p L T = 120 := zc38
              have pl : p < L ∧ p < T := Decidable.not_not.mp (fun q => by
                rw [hr_out q] at hx
                exact absurd hx (by decide))
              have dg : dgb (hrV (u 2) p L T) = nI 2 := by
                rw [hx]
                rfl
              have dn' : dn (hrV (u 2) p L T) = 2 := by
                unfold dn
                rw [dg]
                rfl
              have gm : ¬ dgb (hrV (u 2) p L T) = -1 := by
                rw [dg]
                decide
              refine xr_al0 dX12_readAct_56 ?_
              refine xr_dup dX12_readAct_57 rfl ?_
              refine xr_get W.o fX12_105 rfl dX12_readAct_58 ?_
              refine xr_eqi (y := nI p) rfl ?_
              refine xr_ic1 dX12_readAct_61 ?_
              refine xr_iadd dX12_readAct_62 ?_
              refine xr_eqi (y := nI (p + 1)) (nI_1 p) ?_
              refine xr_put W.o fX12_105 (Nat.le_of_ble_eq_true rfl) rfl rfl dX12_readAct_63 ?_
              refine xT.nm (fun zh1 zg1 => ?_)
              have W := W.f9 zg1
              rw [rdm_p] at W
              refine xr_al0 dX12_readAct_66 ?_
              refine xr_get W.o fX12_45 rfl dX12_readAct_67 ?_
              refine xr_il1 dX12_readAct_70 ?_
              refine xr_il2 dX12_readAct_71 ?_
              refine xr_iast W.a12 (xix_nI (n := 240) (j := 3 * n) (by omega) (by decide)) dX12_readAct_72 ?_
              refine xT.nm (fun zh2 zg2 => ?_)
              have W := uu12 (W.p12 zg2)
              refine xr_il2 dX12_readAct_73 ?_
              refine xr_bipush (v := 42) dX12_readAct_74 (by decide) ?_
              refine xr_icmpne (tgt := 80) dX12_readAct_76 (by decide) (fun zc76 => ?_) (fun zc76 => ?_)
              · skip
                refine xr_al0 dX12_readAct_80 ?_
                refine xr_get W.o fX12_45 rfl dX12_readAct_81 ?_
                refine xr_il1 dX12_readAct_84 ?_
                refine xr_ic1 dX12_readAct_85 ?_
                refine xr_iadd dX12_readAct_86 ?_
                refine xr_eqi (y := nI (3 * n + 1)) (nI_1 _) ?_
                refine xr_il2 dX12_readAct_87 ?_
                refine xr_bipush (v := 115) dX12_readAct_88 (by decide) ?_
                refine xr_icmpne (tgt := 105) dX12_readAct_90 (by decide) (fun zc90 => ?_) (fun zc90 => ?_)
                · skip
                  refine xr_al0 dX12_readAct_105 ?_
                  refine xr_bipush (v := 48) dX12_readAct_106 (by decide) ?_
                  refine xr_bipush (v := 10) dX12_readAct_108 (by decide) ?_
                  refine xr_Vpi2 (r_one Z (by omega) W (fun j hj => (T0 j hj).2) (a := 48) (b := 10) (by decide) (by decide)) kX12_131 (by decide) (Nat.le_of_ble_eq_true rfl) (Nat.zero_add _) (Nat.zero_add _) dX12_readAct_110 (fun zv110 zh3 zq3 => ?_)
                  rcases zq3 with ⟨y, -⟩ | ⟨-, y1, rfl, W⟩ | ⟨-, y1, rfl, W⟩
                  · exact absurd rfl y
                  · skip
                    have y1 : msb 120 (hrV (u 2) (p + 1) L T) = 0 := Decidable.not_not.mp (fun q => y1 ((in10 (c := 120) (by decide)).mpr q))
                    refine xr_iast W.a12 (xix_nI (n := 240) (j := 3 * n + 1) (by omega) (by decide)) dX12_readAct_113 ?_
                    refine xT.nm (fun zh1 zg1 => ?_)
                    have W := uu12 (W.p12 zg1)
                    refine xr_il2 dX12_readAct_114 ?_
                    refine xr_bipush (v := 108) dX12_readAct_115 (by decide) ?_
                    refine xr_icmpeq (tgt := 132) dX12_readAct_117 (by decide) (fun zc117 => ?_) (fun zc117 => ?_)
                    · skip
                      exact absurd (zc38.symm.trans zc117) (by decide)
                    · skip
                      refine xr_il2 dX12_readAct_120 ?_
                      refine xr_bipush (v := 120) dX12_readAct_121 (by decide) ?_
                      refine xr_icmpeq (tgt := 132) dX12_readAct_123 (by decide) (fun zc123 => ?_) (fun zc123 => ?_)
                      · skip
                        refine xr_al0 dX12_readAct_132 ?_
                        refine xr_get W.o fX12_45 rfl dX12_readAct_133 ?_
                        refine xr_il1 dX12_readAct_136 ?_
                        refine xr_ic2 dX12_readAct_137 ?_
                        refine xr_iadd dX12_readAct_138 ?_
                        refine xr_eqi (y := nI (3 * n + 2)) (nI_add _ 2) ?_
                        refine xr_al0 dX12_readAct_139 ?_
                        refine xr_bipush (v := 48) dX12_readAct_140 (by decide) ?_
                        refine xr_bipush (v := 10) dX12_readAct_142 (by decide) ?_
                        refine xr_Vpi2 (r_one Z (by omega) W (fun j hj => (T0 j hj).2) (a := 48) (b := 10) (by decide) (by decide)) kX12_131 (by decide) (Nat.le_of_ble_eq_true rfl) (Nat.zero_add _) (Nat.zero_add _) dX12_readAct_144 (fun zv144 zh2 zq2 => ?_)
                        rcases zq2 with ⟨-, rfl, W⟩ | ⟨y, -⟩ | ⟨y, -⟩
                        rotate_left
                        · exact absurd y (nI_m1 (by omega))
                        · exact absurd y (nI_m1 (by omega))
                        refine xr_iast W.a12 (xix_nI (n := 240) (j := 3 * n + 2) (by omega) (by decide)) dX12_readAct_147 ?_
                        refine xT.nm (fun zh3 zg3 => ?_)
                        have W := uu12 (W.p12 zg3)
                        refine xr_vret dX12_readAct_148 rfl ?_
                        exact ⟨rfl, Or.inl ⟨p + 1, p + 1, _, by omega, Or.inr (Or.inl ⟨by omega, by rw [hx]; exact y1, rfl⟩), W⟩⟩
                      · skip
                        exact absurd zc38 zc123
                  have y1 : ¬ msb 120 (hrV (u 2) (p + 1) L T) = 0 := (in10 (c := 120) (by decide)).mp y1
                  refine xr_iast W.a12 (xix_nI (n := 240) (j := 3 * n + 1) (by omega) (by decide)) dX12_readAct_113 ?_
                  refine xT.nm (fun zh4 zg4 => ?_)
                  have W := uu12 (W.p12 zg4)
                  refine xr_il2 dX12_readAct_114 ?_
                  refine xr_bipush (v := 108) dX12_readAct_115 (by decide) ?_
                  refine xr_icmpeq (tgt := 132) dX12_readAct_117 (by decide) (fun zc117 => ?_) (fun zc117 => ?_)
                  · skip
                    exact absurd (zc38.symm.trans zc117) (by decide)
                  · skip
                    refine xr_il2 dX12_readAct_120 ?_
                    refine xr_bipush (v := 120) dX12_readAct_121 (by decide) ?_
                    refine xr_icmpeq (tgt := 132) dX12_readAct_123 (by decide) (fun zc123 => ?_) (fun zc123 => ?_)
                    · skip
                      refine xr_al0 dX12_readAct_132 ?_
                      refine xr_get W.o fX12_45 rfl dX12_readAct_133 ?_
                      refine xr_il1 dX12_readAct_136 ?_
                      refine xr_ic2 dX12_readAct_137 ?_
                      refine xr_iadd dX12_readAct_138 ?_
                      refine xr_eqi (y := nI (3 * n + 2)) (nI_add _ 2) ?_
                      refine xr_al0 dX12_readAct_139 ?_
                      refine xr_bipush (v := 48) dX12_readAct_140 (by decide) ?_
                      refine xr_bipush (v := 10) dX12_readAct_142 (by decide) ?_
                      refine xr_Vpi2 (r_one Z (by omega) W (fun j hj => (T0 j hj).2) (a := 48) (b := 10) (by decide) (by decide)) kX12_131 (by decide) (Nat.le_of_ble_eq_true rfl) (Nat.zero_add _) (Nat.zero_add _) dX12_readAct_144 (fun zv144 zh5 zq5 => ?_)
                      rcases zq5 with ⟨y, -⟩ | ⟨-, y2, rfl, W⟩ | ⟨-, y2, rfl, W⟩
                      · exact absurd rfl y
                      · skip
                        have y2 : msb 120 (hrV (u 2) (p + 2) L T) = 0 := Decidable.not_not.mp (fun q => y2 ((in10 (c := 120) (by decide)).mpr q))
                        refine xr_iast W.a12 (xix_nI (n := 240) (j := 3 * n + 2) (by omega) (by decide)) dX12_readAct_147 ?_
                        refine xT.nm (fun zh1 zg1 => ?_)
                        have W := uu12 (W.p12 zg1)
                        refine xr_vret dX12_readAct_148 rfl ?_
                        exact ⟨rfl, Or.inl ⟨p + 2, p + 2, _, by omega, Or.inr (Or.inr ⟨dn', by rw [hx]; exact y1, by rw [hx]; exact y2, rfl⟩), W⟩⟩
                      have y2 : ¬ msb 120 (hrV (u 2) (p + 2) L T) = 0 := (in10 (c := 120) (by decide)).mp y2
                      refine xr_iast W.a12 (xix_nI (n := 240) (j := 3 * n + 2) (by omega) (by decide)) dX12_readAct_147 ?_
                      refine xT.nm (fun zh6 zg6 => ?_)
                      have W := uu12 (W.p12 zg6)
                      refine xr_vret dX12_readAct_148 rfl ?_
                      refine ⟨rfl, Or.inr ⟨upd (upd (upd a (3 * n) (hrV (u 2) p L T)) (3 * n + 1) (hrV (u 2) (p + 1) L T - nI 48)) (3 * n + 2) (hrV (u 2) (p + 2) L T - nI 48), gm, ?_, ?_, ?_, ?_, ?_⟩⟩
                      · rw [upd_hi _ _ (by omega), upd_hi _ _ (by omega)]
                        exact pk_us
                      · intro _
                        rw [hx]
                        refine ⟨y1, ?_⟩
                        rw [upd_hi _ _ (by omega)]
                        exact pk_us
                      · intro _
                        rw [hx]
                        exact ⟨y2, pk_us⟩
                      · intro j hj
                        rw [upd_hi _ _ (by omega), upd_hi _ _ (by omega)]
                        exact upd_hi _ _ (by omega)
                      · rw [dn']
                        exact W
                    · skip
                      exact absurd zc38 zc123
                · skip
                  exact absurd (zc38.symm.trans zc90) (by decide)
              · skip
                exact absurd (zc38.symm.trans zc76) (by decide)
            · skip
              refine xr_il2 dX12_readAct_41 ?_
              refine xr_bipush (v := 111) dX12_readAct_42 (by decide) ?_
              refine xr_icmpeq (tgt := 56) dX12_readAct_44 (by decide) (fun zc44 => ?_) (fun zc44 => ?_)
              · skip
                have hx : hrV (u 2) p L T = 111 := zc44
                have pl : p < L ∧ p < T := Decidable.not_not.mp (fun q => by
                  rw [hr_out q] at hx
                  exact absurd hx (by decide))
                have dg : dgb (hrV (u 2) p L T) = nI 2 := by
                  rw [hx]
                  rfl
                have dn' : dn (hrV (u 2) p L T) = 2 := by
                  unfold dn
                  rw [dg]
                  rfl
                have gm : ¬ dgb (hrV (u 2) p L T) = -1 := by
                  rw [dg]
                  decide
                refine xr_al0 dX12_readAct_56 ?_
                refine xr_dup dX12_readAct_57 rfl ?_
                refine xr_get W.o fX12_105 rfl dX12_readAct_58 ?_
                refine xr_eqi (y := nI p) rfl ?_
                refine xr_ic1 dX12_readAct_61 ?_
                refine xr_iadd dX12_readAct_62 ?_
                refine xr_eqi (y := nI (p + 1)) (nI_1 p) ?_
                refine xr_put W.o fX12_105 (Nat.le_of_ble_eq_true rfl) rfl rfl dX12_readAct_63 ?_
                refine xT.nm (fun zh1 zg1 => ?_)
                have W := W.f9 zg1
                rw [rdm_p] at W
                refine xr_al0 dX12_readAct_66 ?_
                refine xr_get W.o fX12_45 rfl dX12_readAct_67 ?_
                refine xr_il1 dX12_readAct_70 ?_
                refine xr_il2 dX12_readAct_71 ?_
                refine xr_iast W.a12 (xix_nI (n := 240) (j := 3 * n) (by omega) (by decide)) dX12_readAct_72 ?_
                refine xT.nm (fun zh2 zg2 => ?_)
                have W := uu12 (W.p12 zg2)
                refine xr_il2 dX12_readAct_73 ?_
                refine xr_bipush (v := 42) dX12_readAct_74 (by decide) ?_
                refine xr_icmpne (tgt := 80) dX12_readAct_76 (by decide) (fun zc76 => ?_) (fun zc76 => ?_)
                · skip
                  refine xr_al0 dX12_readAct_80 ?_
                  refine xr_get W.o fX12_45 rfl dX12_readAct_81 ?_
                  refine xr_il1 dX12_readAct_84 ?_
                  refine xr_ic1 dX12_readAct_85 ?_
                  refine xr_iadd dX12_readAct_86 ?_
                  refine xr_eqi (y := nI (3 * n + 1)) (nI_1 _) ?_
                  refine xr_il2 dX12_readAct_87 ?_
                  refine xr_bipush (v := 115) dX12_readAct_88 (by decide) ?_
                  refine xr_icmpne (tgt := 105) dX12_readAct_90 (by decide) (fun zc90 => ?_) (fun zc90 => ?_)
                  · skip
                    refine xr_al0 dX12_readAct_105 ?_
                    refine xr_bipush (v := 48) dX12_readAct_106 (by decide) ?_
                    refine xr_bipush (v := 10) dX12_readAct_108 (by decide) ?_
                    refine xr_Vpi2 (r_one Z (by omega) W (fun j hj => (T0 j hj).2) (a := 48) (b := 10) (by decide) (by decide)) kX12_131 (by decide) (Nat.le_of_ble_eq_true rfl) (Nat.zero_add _) (Nat.zero_add _) dX12_readAct_110 (fun zv110 zh3 zq3 => ?_)
                    rcases zq3 with ⟨y, -⟩ | ⟨-, y1, rfl, W⟩ | ⟨-, y1, rfl, W⟩
                    · exact absurd rfl y
                    · skip
                      have y1 : msb 111 (hrV (u 2) (p + 1) L T) = 0 := Decidable.not_not.mp (fun q => y1 ((in10 (c := 111) (by decide)).mpr q))
                      refine xr_iast W.a12 (xix_nI (n := 240) (j := 3 * n + 1) (by omega) (by decide)) dX12_readAct_113 ?_
                      refine xT.nm (fun zh1 zg1 => ?_)
                      have W := uu12 (W.p12 zg1)
                      refine xr_il2 dX12_readAct_114 ?_
                      refine xr_bipush (v := 108) dX12_readAct_115 (by decide) ?_
                      refine xr_icmpeq (tgt := 132) dX12_readAct_117 (by decide) (fun zc117 => ?_) (fun zc117 => ?_)
                      · skip
                        exact absurd (zc44.symm.trans zc117) (by decide)
                      · skip
                        refine xr_il2 dX12_readAct_120 ?_
                        refine xr_bipush (v := 120) dX12_readAct_121 (by decide) ?_
                        refine xr_icmpeq (tgt := 132) dX12_readAct_123 (by decide) (fun zc123 => ?_) (fun zc123 => ?_)
                        · skip
                          exact absurd (zc44.symm.trans zc123) (by decide)
                        · skip
                          refine xr_il2 dX12_readAct_126 ?_
                          refine xr_bipush (v := 111) dX12_readAct_127 (by decide) ?_
                          refine xr_icmpne (tgt := 148) dX12_readAct_129 (by decide) (fun zc129 => ?_) (fun zc129 => ?_)
                          · skip
                            exact absurd zc44 zc129
                          · skip
                            refine xr_al0 dX12_readAct_132 ?_
                            refine xr_get W.o fX12_45 rfl dX12_readAct_133 ?_
                            refine xr_il1 dX12_readAct_136 ?_
                            refine xr_ic2 dX12_readAct_137 ?_
                            refine xr_iadd dX12_readAct_138 ?_
                            refine xr_eqi (y := nI (3 * n + 2)) (nI_add _ 2) ?_
                            refine xr_al0 dX12_readAct_139 ?_
                            refine xr_bipush (v := 48) dX12_readAct_140 (by decide) ?_
                            refine xr_bipush (v := 10) dX12_readAct_142 (by decide) ?_
                            refine xr_Vpi2 (r_one Z (by omega) W (fun j hj => (T0 j hj).2) (a := 48) (b := 10) (by decide) (by decide)) kX12_131 (by decide) (Nat.le_of_ble_eq_true rfl) (Nat.zero_add _) (Nat.zero_add _) dX12_readAct_144 (fun zv144 zh2 zq2 => ?_)
                            rcases zq2 with ⟨-, rfl, W⟩ | ⟨y, -⟩ | ⟨y, -⟩
                            rotate_left
                            · exact absurd y (nI_m1 (by omega))
                            · exact absurd y (nI_m1 (by omega))
                            refine xr_iast W.a12 (xix_nI (n := 240) (j := 3 * n + 2) (by omega) (by decide)) dX12_readAct_147 ?_
                            refine xT.nm (fun zh3 zg3 => ?_)
                            have W := uu12 (W.p12 zg3)
                            refine xr_vret dX12_readAct_148 rfl ?_
                            exact ⟨rfl, Or.inl ⟨p + 1, p + 1, _, by omega, Or.inr (Or.inl ⟨by omega, by rw [hx]; exact y1, rfl⟩), W⟩⟩
                    have y1 : ¬ msb 111 (hrV (u 2) (p + 1) L T) = 0 := (in10 (c := 111) (by decide)).mp y1
                    refine xr_iast W.a12 (xix_nI (n := 240) (j := 3 * n + 1) (by omega) (by decide)) dX12_readAct_113 ?_
                    refine xT.nm (fun zh4 zg4 => ?_)
                    have W := uu12 (W.p12 zg4)
                    refine xr_il2 dX12_readAct_114 ?_
                    refine xr_bipush (v := 108) dX12_readAct_115 (by decide) ?_
                    refine xr_icmpeq (tgt := 132) dX12_readAct_117 (by decide) (fun zc117 => ?_) (fun zc117 => ?_)
                    · skip
                      exact absurd (zc44.symm.trans zc117) (by decide)
                    · skip
                      refine xr_il2 dX12_readAct_120 ?_
                      refine xr_bipush (v := 120) dX12_readAct_121 (by decide) ?_
                      refine xr_icmpeq (tgt := 132) dX12_readAct_123 (by decide) (fun zc123 => ?_) (fun zc123 => ?_)
                      · skip
                        exact absurd (zc44.symm.trans zc123) (by decide)
                      · skip
                        refine xr_il2 dX12_readAct_126 ?_
                        refine xr_bipush (v := 111) dX12_readAct_127 (by decide) ?_
                        refine xr_icmpne (tgt := 148) dX12_readAct_129 (by decide) (fun zc129 => ?_) (fun zc129 => ?_)
                        · skip
                          exact absurd zc44 zc129
                        · skip
                          refine xr_al0 dX12_readAct_132 ?_
                          refine xr_get W.o fX12_45 rfl dX12_readAct_133 ?_
                          refine xr_il1 dX12_readAct_136 ?_
                          refine xr_ic2 dX12_readAct_137 ?_
                          refine xr_iadd dX12_readAct_138 ?_
                          refine xr_eqi (y := nI (3 * n + 2)) (nI_add _ 2) ?_
                          refine xr_al0 dX12_readAct_139 ?_
                          refine xr_bipush (v := 48) dX12_readAct_140 (by decide) ?_
                          refine xr_bipush (v := 10) dX12_readAct_142 (by decide) ?_
                          refine xr_Vpi2 (r_one Z (by omega) W (fun j hj => (T0 j hj).2) (a := 48) (b := 10) (by decide) (by decide)) kX12_131 (by decide) (Nat.le_of_ble_eq_true rfl) (Nat.zero_add _) (Nat.zero_add _) dX12_readAct_144 (fun zv144 zh5 zq5 => ?_)
                          rcases zq5 with ⟨y, -⟩ | ⟨-, y2, rfl, W⟩ | ⟨-, y2, rfl, W⟩
                          · exact absurd rfl y
                          · skip
                            have y2 : msb 111 (hrV (u 2) (p + 2) L T) = 0 := Decidable.not_not.mp (fun q => y2 ((in10 (c := 111) (by decide)).mpr q))
                            refine xr_iast W.a12 (xix_nI (n := 240) (j := 3 * n + 2) (by omega) (by decide)) dX12_readAct_147 ?_
                            refine xT.nm (fun zh1 zg1 => ?_)
                            have W := uu12 (W.p12 zg1)
                            refine xr_vret dX12_readAct_148 rfl ?_
                            exact ⟨rfl, Or.inl ⟨p + 2, p + 2, _, by omega, Or.inr (Or.inr ⟨dn', by rw [hx]; exact y1, by rw [hx]; exact y2, rfl⟩), W⟩⟩
                          have y2 : ¬ msb 111 (hrV (u 2) (p + 2) L T) = 0 := (in10 (c := 111) (by decide)).mp y2
                          refine xr_iast W.a12 (xix_nI (n := 240) (j := 3 * n + 2) (by omega) (by decide)) dX12_readAct_147 ?_
                          refine xT.nm (fun zh6 zg6 => ?_)
                          have W := uu12 (W.p12 zg6)
                          refine xr_vret dX12_readAct_148 rfl ?_
                          refine ⟨rfl, Or.inr ⟨upd (upd (upd a (3 * n) (hrV (u 2) p L T)) (3 * n + 1) (hrV (u 2) (p + 1) L T - nI 48)) (3 * n + 2) (hrV (u 2) (p + 2) L T - nI 48), gm, ?_, ?_, ?_, ?_, ?_⟩⟩
                          · rw [upd_hi _ _ (by omega), upd_hi _ _ (by omega)]
                            exact pk_us
                          · intro _
                            rw [hx]
                            refine ⟨y1, ?_⟩
                            rw [upd_hi _ _ (by omega)]
                            exact pk_us
                          · intro _
                            rw [hx]
                            exact ⟨y2, pk_us⟩
                          · intro j hj
                            rw [upd_hi _ _ (by omega), upd_hi _ _ (by omega)]
                            exact upd_hi _ _ (by omega)
                          · rw [dn']
                            exact W
                  · skip
                    exact absurd (zc44.symm.trans zc90) (by decide)
                · skip
                  exact absurd (zc44.symm.trans zc76) (by decide)
              · skip
                refine xr_al0 dX12_readAct_47 ?_
                refine xr_al0 dX12_readAct_48 ?_
                refine xr_get W.o fX12_105 rfl dX12_readAct_49 ?_
                refine xr_eqi (y := nI p) rfl ?_
                refine xr_Vpv1 (r_fault W _) kX12_127 (by decide) (Nat.le_of_ble_eq_true rfl) (Nat.zero_add _) (Nat.zero_add _) dX12_readAct_52 (fun zh2 zq2 => ?_)
                have W := zq2
                rw [if_pos rfl] at W
                refine xr_vret dX12_readAct_55 rfl ?_
                refine ⟨rfl, Or.inl ⟨p, p, _, bp, Or.inl ⟨?_, rfl⟩, W⟩⟩
                show dgb (hrV (uu u 12 a 2) p L T) = -1
                unfold dgb
                rw [if_neg zc8, if_neg zc20, if_neg zc32, if_neg zc14, if_neg zc44, if_neg zc26, if_neg zc38]
