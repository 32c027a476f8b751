/-! The model: again, row, saw, laws (written by wip/whole/mod9.py) -/
set_option maxRecDepth 20000 in
theorem lp_mAgain {K : xK} {B : Nat} {l : Launch} {h0 : xH} {Y : Nat} {m : Nat → Int32} {rd : Value} {ru ot : Nat} {u : Nat → Nat → Int32} {v : Nat → Int64} {s : Nat} (hs : s < 2) : ∀ (r i : Nat) {h : xH} (W : xMw K h0 h Y m rd ru ot (uu u 1 (unK (u 1) (u 22) (19 * s) i)) v), i + r = 19 → xT K B l 1 RX12 false cX12_again 3 (some .boolean) 0 0 0 0 (xPi (fun zr g => zr = 1 ∧ xMw K h0 g Y (upd m 19 0) rd ru ot (uu u 1 (unK (u 1) (u 22) (19 * s) 19)) v)) 27 [some (.ref Y), some (.int (nI s)), some (.int (nI i))] [] h := by
  intro r
  induction r with
  | zero =>
    intro i h W hr
    refine xr_il2 dX12_again_27 ?_
    refine xr_bipush (v := 19) dX12_again_28 (by decide) ?_
    refine xr_icmpge (tgt := 56) dX12_again_30 (by decide) (fun zc30 => ?_) (fun zc30 => ?_)
    · skip
      refine xr_al0 dX12_again_56 ?_
      refine xr_ic0 dX12_again_57 ?_
      refine xr_put W.o fX12_147 (Nat.le_of_ble_eq_true rfl) rfl rfl dX12_again_58 ?_
      refine xT.nm (fun zh1 zg1 => ?_)
      have W := W.f19 zg1
      refine xr_ic1 dX12_again_61 ?_
      refine xr_zret dX12_again_62 rfl (by first | rfl | decide | assumption) ?_
      have e : i = 19 := hr
      subst e
      exact ⟨_, rfl, rfl, W⟩
    · skip
      exact absurd (nI_le (a := 19) (by omega) (by omega)) zc30
  | succ r ih =>
    intro i h W hr
    refine xr_il2 dX12_again_27 ?_
    refine xr_bipush (v := 19) dX12_again_28 (by decide) ?_
    refine xr_icmpge (tgt := 56) dX12_again_30 (by decide) (fun zc30 => ?_) (fun zc30 => ?_)
    · skip
      exact absurd zc30 (nI_ge (b := 19) (by omega) (by decide))
    · skip
      refine xr_al0 dX12_again_33 ?_
      refine xr_get W.o fX12_9 rfl dX12_again_34 ?_
      refine xr_il2 dX12_again_37 ?_
      refine xr_al0 dX12_again_38 ?_
      refine xr_get W.o fX12_76 rfl dX12_again_39 ?_
      refine xr_bipush (v := 19) dX12_again_42 (by decide) ?_
      refine xr_il1 dX12_again_44 ?_
      refine xr_imul dX12_again_45 ?_
      refine xr_eqi (y := nI (19 * s)) (pk_mul 19 s) ?_
      refine xr_il2 dX12_again_46 ?_
      refine xr_iadd dX12_again_47 ?_
      refine xr_eqi (y := nI (19 * s + i)) (nI_add _ _) ?_
      refine xr_iald W.a22 (xix_nI (n := 38) (j := 19 * s + i) (by omega) (by decide)) dX12_again_48 ?_
      refine xr_eqi (y := u 22 (19 * s + i)) rfl ?_
      refine xr_iast W.a1 (xix_nI (n := 19) (j := i) (by omega) (by decide)) dX12_again_49 ?_
      refine xT.nm (fun zh1 zg1 => ?_)
      have W := W.p1 zg1
      refine xr_inc2 dX12_again_50 (nI_inc i) (by decide) rfl ?_
      refine xr_goto (tgt := 27) dX12_again_53 (by decide) ?_
      rw [un_step] at W
      exact ih (i + 1) W (by omega)
set_option maxRecDepth 20000 in
theorem s_mAgain {K : xK} {B : Nat} {l : Launch} {h0 h : xH} {Y : Nat} {m : Nat → Int32} {rd : Value} {ru ot : Nat} {u : Nat → Nat → Int32} {v : Nat → Int64} (W : xMw K h0 h Y m rd ru ot u v) (x : Int32) : xV K B l 1 mX12_again 0 0 (Y) [.int x] h (xPi (fun zr g => ((mIn x 0 1 = 0 ∨ u 23 x.toNatClampNeg = 0) ∧ zr = 0 ∧ xMw K h0 g Y (upd m 5 0) rd ru ot u v) ∨ (¬ (mIn x 0 1 = 0 ∨ u 23 x.toNatClampNeg = 0) ∧ zr = 1 ∧ xMw K h0 g Y (upd (upd m 5 0) 19 0) rd ru ot (uu u 1 (unK (u 1) (u 22) (19 * x.toNatClampNeg) 19)) v))) := by
  refine ⟨⟨_, _, _, _, W.o, rfl⟩, qX12_again, ?_⟩
  refine xS.intro RX12 false ⟨rfl, rfl, by decide, by decide, Nat.le_of_ble_eq_true rfl⟩ (ls := [some (.ref Y), some (.int x), none]) rfl ?_
  refine xr_al0 dX12_again_0 ?_
  refine xr_ic0 dX12_again_1 ?_
  refine xr_put W.o fX12_82 (Nat.le_of_ble_eq_true rfl) rfl rfl dX12_again_2 ?_
  refine xT.nm (fun zh1 zg1 => ?_)
  have W := W.f5 zg1
  refine xr_il1 dX12_again_5 ?_
  refine xr_ic0 dX12_again_6 ?_
  refine xr_ic1 dX12_again_7 ?_
  refine xr_Si3 (s_mIn _ _ _) kX12_89 (by decide) (Nat.le_of_ble_eq_true rfl) (Nat.zero_add _) (Nat.zero_add _) dX12_again_8 ?_
  refine xr_ifeq (tgt := 23) dX12_again_11 (by decide) (fun zc11 => ?_) (fun zc11 => ?_)
  · skip
    refine xr_ic0 dX12_again_23 ?_
    refine xr_zret dX12_again_24 rfl (by first | rfl | decide | assumption) ?_
    exact ⟨_, rfl, Or.inl ⟨Or.inl zc11, rfl, W⟩⟩
  · skip
    obtain ⟨s, hs, rfl⟩ := mIn_01 zc11
    refine xr_al0 dX12_again_14 ?_
    refine xr_get W.o fX12_79 rfl dX12_again_15 ?_
    refine xr_il1 dX12_again_18 ?_
    refine xr_zald W.a23 (xix_nI (n := 2) (j := s) hs (by decide)) dX12_again_19 ?_
    refine xr_ifne (tgt := 25) dX12_again_20 (by decide) (fun zc20 => ?_) (fun zc20 => ?_)
    · skip
      refine xr_ic0 dX12_again_25 ?_
      refine xr_is2 dX12_again_26 (by decide) rfl ?_
      refine xT.post (fun r g q => ?_) (lp_mAgain hs 19 0 (by rw [unK_0, uu_id]; exact W) (by omega))
      obtain ⟨v, q1, q2, q3⟩ := q
      refine ⟨v, q1, Or.inr ⟨?_, q2, ?_⟩⟩
      · rw [nI_clamp (by omega)]
        exact fun q => q.elim zc11 zc20
      · rw [nI_clamp (by omega)]
        exact q3
    · skip
      refine xr_ic0 dX12_again_23 ?_
      refine xr_zret dX12_again_24 rfl (by first | rfl | decide | assumption) ?_
      exact ⟨_, rfl, Or.inl ⟨Or.inr (by rw [nI_clamp (by omega)]; exact zc20), rfl, W⟩⟩
set_option maxRecDepth 20000 in
theorem s_mRow {K : xK} {B : Nat} {l : Launch} {h0 h : xH} {Y : Nat} {m : Nat → Int32} {rd : Value} {ru ot : Nat} {u : Nat → Nat → Int32} {v : Nat → Int64} (W : xMw K h0 h Y m rd ru ot u v) {k : Nat} (hk : m 4 = nI k) (hk2 : k ≤ 16) (x : Int32) : xV K B l 1 mX12_row 0 0 (Y) [.int x] h (xPl (fun zr g => (mIn x 0 (nI k - 1) = 0 ∧ zr = 0 ∧ xMw K h0 g Y (upd (upd m 5 0) 5 1) rd ru ot u v) ∨ (¬ mIn x 0 (nI k - 1) = 0 ∧ zr = v x.toNatClampNeg ∧ xMw K h0 g Y (upd m 5 0) rd ru ot u v))) := by
  refine ⟨⟨_, _, _, _, W.o, rfl⟩, qX12_row, ?_⟩
  refine xS.intro RX12 false ⟨rfl, rfl, by decide, by decide, Nat.le_of_ble_eq_true rfl⟩ (ls := [some (.ref Y), some (.int x)]) rfl ?_
  refine xr_al0 dX12_row_0 ?_
  refine xr_ic0 dX12_row_1 ?_
  refine xr_put W.o fX12_82 (Nat.le_of_ble_eq_true rfl) rfl rfl dX12_row_2 ?_
  refine xT.nm (fun zh1 zg1 => ?_)
  have W := W.f5 zg1
  refine xr_il1 dX12_row_5 ?_
  refine xr_ic0 dX12_row_6 ?_
  refine xr_al0 dX12_row_7 ?_
  refine xr_get W.o fX12_86 rfl dX12_row_8 ?_
  refine xr_eqi (y := nI k) hk ?_
  refine xr_ic1 dX12_row_11 ?_
  refine xr_isub dX12_row_12 ?_
  refine xr_Si3 (s_mIn _ _ _) kX12_89 (by decide) (Nat.le_of_ble_eq_true rfl) (Nat.zero_add _) (Nat.zero_add _) dX12_row_13 ?_
  refine xr_ifeq (tgt := 28) dX12_row_16 (by decide) (fun zc16 => ?_) (fun zc16 => ?_)
  · skip
    refine xr_al0 dX12_row_28 ?_
    refine xr_Vpi0 (s_mLost W) kX12_207 (by decide) (Nat.le_of_ble_eq_true rfl) (Nat.zero_add _) (Nat.zero_add _) dX12_row_29 (fun zv29 zh2 zq2 => ?_)
    obtain ⟨rfl, W⟩ := zq2
    refine xr_i2l dX12_row_32 ?_
    refine xr_lret dX12_row_33 rfl ?_
    exact ⟨_, rfl, Or.inl ⟨zc16, rfl, W⟩⟩
  · skip
    obtain ⟨z1, z2⟩ := mIn_y zc16
    obtain ⟨j, hj, rfl⟩ : ∃ j, j < 16 ∧ x = nI j := by
      rcases pk_ix x (n := 16) (by decide) with z | z | z
      · exact absurd z z1
      · exfalso
        rcases Nat.eq_zero_or_pos k with q | q
        · rw [q] at z2
          exact z1 (Int32.lt_of_le_of_lt (Int32.not_lt.mp z2) (by decide))
        · rw [show nI k - 1 = nI (k - 1) from nI_sub (a := k) (b := 1) q] at z2
          have z3 := (nI_leI (a := 16) (by decide) (by omega)).mp (Int32.le_trans z (Int32.not_lt.mp z2))
          omega
      · exact z
    refine xr_al0 dX12_row_19 ?_
    refine xr_get W.o fX12_17 rfl dX12_row_20 ?_
    refine xr_il1 dX12_row_23 ?_
    refine xr_lald W.a3 (xix_nI (n := 16) (j := j) hj (by decide)) dX12_row_24 ?_
    refine xr_goto (tgt := 33) dX12_row_25 (by decide) ?_
    refine xr_lret dX12_row_33 rfl ?_
    refine ⟨_, rfl, Or.inr ⟨zc16, ?_, W⟩⟩
    rw [nI_clamp (by omega)]
