/-! The model: saw, laws one by one (written by wip/whole/mod10.py) -/
set_option maxRecDepth 20000 in
theorem s_mSaw {K : xK} {B : Nat} {l : Launch} {h0 h : xH} {Y : Nat} {m : Nat → Int32} {rd : Value} {ru ot : Nat} {u : Nat → Nat → Int32} {v : Nat → Int64} (W : xMw K h0 h Y m rd ru ot u v) {n : Nat} (hn : m 35 = nI n) (h10 : n ≤ 10) (x y z : Int32) : xV K B l 1 mX12_saw 0 0 (Y) [.int x, .int y, .int z] h (xPi (fun zr g => (¬ (¬ mIn x 0 30 = 0 ∧ ¬ mIn y 0 30 = 0 ∧ ¬ mIn z 0 1 = 0 ∧ ¬ n = 10) ∧ zr = -1 ∧ xMw K h0 g Y (upd m 5 0) rd ru ot u v) ∨ ((¬ mIn x 0 30 = 0 ∧ ¬ mIn y 0 30 = 0 ∧ ¬ mIn z 0 1 = 0 ∧ ¬ n = 10) ∧ zr = nI (n + 1) ∧ xMw K h0 g Y (upd (upd m 5 0) 35 (nI (n + 1))) rd ru ot (uu (uu u 19 (upd (u 19) n (x - y))) 20 (upd (u 20) n z)) v))) := by
  refine ⟨⟨_, _, _, _, W.o, rfl⟩, qX12_saw, ?_⟩
  refine xS.intro RX12 false ⟨rfl, rfl, by decide, by decide, Nat.le_of_ble_eq_true rfl⟩ (ls := [some (.ref Y), some (.int x), some (.int y), some (.int z)]) rfl ?_
  refine xr_al0 dX12_saw_0 ?_
  refine xr_ic0 dX12_saw_1 ?_
  refine xr_put W.o fX12_82 (Nat.le_of_ble_eq_true rfl) rfl rfl dX12_saw_2 ?_
  refine xT.nm (fun zh1 zg1 => ?_)
  have W := W.f5 zg1
  refine xr_il1 dX12_saw_5 ?_
  refine xr_ic0 dX12_saw_6 ?_
  refine xr_bipush (v := 30) dX12_saw_7 (by decide) ?_
  refine xr_Si3 (s_mIn _ _ _) kX12_89 (by decide) (Nat.le_of_ble_eq_true rfl) (Nat.zero_add _) (Nat.zero_add _) dX12_saw_9 ?_
  refine xr_ifeq (tgt := 43) dX12_saw_12 (by decide) (fun zc12 => ?_) (fun zc12 => ?_)
  · skip
    refine xr_icm1 dX12_saw_43 ?_
    refine xr_iret dX12_saw_44 rfl ?_
    exact ⟨_, rfl, Or.inl ⟨fun q => q.1 zc12, rfl, W⟩⟩
  · skip
    refine xr_il2 dX12_saw_15 ?_
    refine xr_ic0 dX12_saw_16 ?_
    refine xr_bipush (v := 30) dX12_saw_17 (by decide) ?_
    refine xr_Si3 (s_mIn _ _ _) kX12_89 (by decide) (Nat.le_of_ble_eq_true rfl) (Nat.zero_add _) (Nat.zero_add _) dX12_saw_19 ?_
    refine xr_ifeq (tgt := 43) dX12_saw_22 (by decide) (fun zc22 => ?_) (fun zc22 => ?_)
    · skip
      refine xr_icm1 dX12_saw_43 ?_
      refine xr_iret dX12_saw_44 rfl ?_
      exact ⟨_, rfl, Or.inl ⟨fun q => q.2.1 zc22, rfl, W⟩⟩
    · skip
      refine xr_il3 dX12_saw_25 ?_
      refine xr_ic0 dX12_saw_26 ?_
      refine xr_ic1 dX12_saw_27 ?_
      refine xr_Si3 (s_mIn _ _ _) kX12_89 (by decide) (Nat.le_of_ble_eq_true rfl) (Nat.zero_add _) (Nat.zero_add _) dX12_saw_28 ?_
      refine xr_ifeq (tgt := 43) dX12_saw_31 (by decide) (fun zc31 => ?_) (fun zc31 => ?_)
      · skip
        refine xr_icm1 dX12_saw_43 ?_
        refine xr_iret dX12_saw_44 rfl ?_
        exact ⟨_, rfl, Or.inl ⟨fun q => q.2.2.1 zc31, rfl, W⟩⟩
      · skip
        have hn10 : nI n = 10 ↔ n = 10 := zI_eq (b := 10) (by omega) (by decide)
        refine xr_al0 dX12_saw_34 ?_
        refine xr_get W.o fX12_354 rfl dX12_saw_35 ?_
        refine xr_eqi (y := nI n) hn ?_
        refine xr_bipush (v := 10) dX12_saw_38 (by decide) ?_
        refine xr_icmpne (tgt := 45) dX12_saw_40 (by decide) (fun zc40 => ?_) (fun zc40 => ?_)
        · skip
          have n10 : n < 10 := Nat.lt_of_le_of_ne h10 (fun q => zc40 (hn10.mpr q))
          refine xr_al0 dX12_saw_45 ?_
          refine xr_get W.o fX12_66 rfl dX12_saw_46 ?_
          refine xr_al0 dX12_saw_49 ?_
          refine xr_get W.o fX12_354 rfl dX12_saw_50 ?_
          refine xr_eqi (y := nI n) hn ?_
          refine xr_il1 dX12_saw_53 ?_
          refine xr_il2 dX12_saw_54 ?_
          refine xr_isub dX12_saw_55 ?_
          refine xr_iast W.a19 (xix_nI n10 (by decide)) dX12_saw_56 ?_
          refine xT.nm (fun zh2 zg2 => ?_)
          have W := W.p19 zg2
          refine xr_al0 dX12_saw_57 ?_
          refine xr_get W.o fX12_69 rfl dX12_saw_58 ?_
          refine xr_al0 dX12_saw_61 ?_
          refine xr_get W.o fX12_354 rfl dX12_saw_62 ?_
          refine xr_eqi (y := nI n) hn ?_
          refine xr_il3 dX12_saw_65 ?_
          refine xr_iast W.a20 (xix_nI n10 (by decide)) dX12_saw_66 ?_
          refine xT.nm (fun zh3 zg3 => ?_)
          have W := W.p20 zg3
          refine xr_al0 dX12_saw_67 ?_
          refine xr_dup dX12_saw_68 rfl ?_
          refine xr_get W.o fX12_354 rfl dX12_saw_69 ?_
          refine xr_eqi (y := nI n) hn ?_
          refine xr_ic1 dX12_saw_72 ?_
          refine xr_iadd dX12_saw_73 ?_
          refine xr_eqi (nI_1 n) ?_
          refine xr_put W.o fX12_354 (Nat.le_of_ble_eq_true rfl) rfl rfl dX12_saw_74 ?_
          refine xT.nm (fun zh4 zg4 => ?_)
          have W := W.f35 zg4
          refine xr_al0 dX12_saw_77 ?_
          refine xr_get W.o fX12_354 rfl dX12_saw_78 ?_
          refine xr_eqi (y := nI (n + 1)) rfl ?_
          refine xr_iret dX12_saw_81 rfl ?_
          exact ⟨_, rfl, Or.inr ⟨⟨zc12, zc22, zc31, fun q => absurd q (by omega)⟩, rfl, W⟩⟩
        · skip
          refine xr_icm1 dX12_saw_43 ?_
          refine xr_iret dX12_saw_44 rfl ?_
          exact ⟨_, rfl, Or.inl ⟨fun q => q.2.2.2 (hn10.mp zc40), rfl, W⟩⟩
def ilN (w a : xs) (x : Int32) : Nat → Nat → Int32
  | 0, _ => 1
  | r + 1, k => if mIn (w k) (x / 8) (5 + remI x 8) = bI (a k = 1) then ilN w a x r (k + 1) else 0
theorem ilN_s (w a : xs) (x : Int32) (r k : Nat) : ilN w a x (r + 1) k = if mIn (w k) (x / 8) (5 + remI x 8) = bI (a k = 1) then ilN w a x r (k + 1) else 0 := rfl
set_option maxRecDepth 20000 in
theorem lp_mIsLaw {K : xK} {B : Nat} {l : Launch} {h0 : xH} {Y : Nat} {m : Nat → Int32} {rd : Value} {ru ot : Nat} {u : Nat → Nat → Int32} {v : Nat → Int64} {n : Nat} (hn : m 35 = nI n) (h10 : n ≤ 10) (x : Int32) : ∀ (r k : Nat) {h : xH} (W : xMw K h0 h Y m rd ru ot u v), k + r = n → xT K B l 2 RX12 false cX12_isLaw 3 (some .boolean) 0 0 0 0 (xPi (fun zr g => zr = ilN (u 19) (u 20) x r k ∧ xMw K h0 g Y m rd ru ot u v)) 2 [some (.ref Y), some (.int x), some (.int (nI k))] [] h := by
  intro r
  induction r with
  | zero =>
    intro k h W hk
    refine xr_il2 dX12_isLaw_2 ?_
    refine xr_al0 dX12_isLaw_3 ?_
    refine xr_get W.o fX12_354 rfl dX12_isLaw_4 ?_
    refine xr_eqi (y := nI n) hn ?_
    refine xr_icmpge (tgt := 46) dX12_isLaw_7 (by decide) (fun zc7 => ?_) (fun zc7 => ?_)
    · skip
      refine xr_ic1 dX12_isLaw_46 ?_
      refine xr_zret dX12_isLaw_47 rfl (by first | rfl | decide | assumption) ?_
      exact ⟨_, rfl, rfl, W⟩
    · skip
      exact absurd (nI_le (a := n) (by omega) (by omega)) zc7
  | succ r ih =>
    intro k h W hk
    refine xr_il2 dX12_isLaw_2 ?_
    refine xr_al0 dX12_isLaw_3 ?_
    refine xr_get W.o fX12_354 rfl dX12_isLaw_4 ?_
    refine xr_eqi (y := nI n) hn ?_
    refine xr_icmpge (tgt := 46) dX12_isLaw_7 (by decide) (fun zc7 => ?_) (fun zc7 => ?_)
    · skip
      exact absurd zc7 (nI_ge (by omega) (by omega))
    · skip
      refine xr_il1 dX12_isLaw_10 ?_
      refine xr_al0 dX12_isLaw_11 ?_
      refine xr_get W.o fX12_66 rfl dX12_isLaw_12 ?_
      refine xr_il2 dX12_isLaw_15 ?_
      refine xr_iald W.a19 (xix_nI (n := 10) (j := k) (by omega) (by decide)) dX12_isLaw_16 ?_
      refine xr_Si2 (s_mRunsBy _ _) kX12_357 (by decide) (Nat.le_of_ble_eq_true rfl) (Nat.zero_add _) (Nat.zero_add _) dX12_isLaw_17 ?_
      refine xr_al0 dX12_isLaw_20 ?_
      refine xr_get W.o fX12_69 rfl dX12_isLaw_21 ?_
      refine xr_il2 dX12_isLaw_24 ?_
      refine xr_iald W.a20 (xix_nI (n := 10) (j := k) (by omega) (by decide)) dX12_isLaw_25 ?_
      refine xr_ic1 dX12_isLaw_26 ?_
      refine xr_icmpne (tgt := 34) dX12_isLaw_27 (by decide) (fun zc27 => ?_) (fun zc27 => ?_)
      · skip
        refine xr_ic0 dX12_isLaw_34 ?_
        refine xr_icmpeq (tgt := 40) dX12_isLaw_35 (by decide) (fun zc35 => ?_) (fun zc35 => ?_)
        · skip
          refine xr_inc2 dX12_isLaw_40 (nI_inc k) (by decide) rfl ?_
          refine xr_goto (tgt := 2) dX12_isLaw_43 (by decide) ?_
          have eb : bI (u 20 k = 1) = _ := bI_f zc27
          rw [ilN_s, eb, if_pos zc35]
          exact ih (k + 1) W (by omega)
        · skip
          refine xr_ic0 dX12_isLaw_38 ?_
          refine xr_zret dX12_isLaw_39 rfl (by first | rfl | decide | assumption) ?_
          have eb : bI (u 20 k = 1) = _ := bI_f zc27
          refine ⟨_, rfl, ?_, W⟩
          rw [ilN_s, eb, if_neg zc35]
      · skip
        refine xr_ic1 dX12_isLaw_30 ?_
        refine xr_goto (tgt := 35) dX12_isLaw_31 (by decide) ?_
        refine xr_icmpeq (tgt := 40) dX12_isLaw_35 (by decide) (fun zc35 => ?_) (fun zc35 => ?_)
        · skip
          refine xr_inc2 dX12_isLaw_40 (nI_inc k) (by decide) rfl ?_
          refine xr_goto (tgt := 2) dX12_isLaw_43 (by decide) ?_
          have eb : bI (u 20 k = 1) = _ := bI_t zc27
          rw [ilN_s, eb, if_pos zc35]
          exact ih (k + 1) W (by omega)
        · skip
          refine xr_ic0 dX12_isLaw_38 ?_
          refine xr_zret dX12_isLaw_39 rfl (by first | rfl | decide | assumption) ?_
          have eb : bI (u 20 k = 1) = _ := bI_t zc27
          refine ⟨_, rfl, ?_, W⟩
          rw [ilN_s, eb, if_neg zc35]
set_option maxRecDepth 20000 in
theorem s_mIsLaw {K : xK} {B : Nat} {l : Launch} {h0 h : xH} {Y : Nat} {m : Nat → Int32} {rd : Value} {ru ot : Nat} {u : Nat → Nat → Int32} {v : Nat → Int64} (W : xMw K h0 h Y m rd ru ot u v) {n : Nat} (hn : m 35 = nI n) (h10 : n ≤ 10) (x : Int32) : xV K B l 2 mX12_isLaw 0 0 (Y) [.int x] h (xPi (fun zr g => zr = ilN (u 19) (u 20) x n 0 ∧ xMw K h0 g Y m rd ru ot u v)) := by
  refine ⟨⟨_, _, _, _, W.o, rfl⟩, qX12_isLaw, ?_⟩
  refine xS.intro RX12 false ⟨rfl, rfl, by decide, by decide, Nat.le_of_ble_eq_true rfl⟩ (ls := [some (.ref Y), some (.int x), none]) rfl ?_
  refine xr_ic0 dX12_isLaw_0 ?_
  refine xr_is2 dX12_isLaw_1 (by decide) rfl ?_
  exact lp_mIsLaw hn h10 x n 0 W (by omega)
