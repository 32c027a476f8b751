/-! The model: acts (written by wip/whole/mod6.py) -/
set_option maxRecDepth 20000 in
theorem s_mGrips {K : xK} {B : Nat} {l : Launch} {h0 h : xH} {Y : Nat} {m : Nat → Int32} {rd : Value} {ru ot : Nat} {u : Nat → Nat → Int32} {v : Nat → Int64} (W : xMw K h0 h Y m rd ru ot u v) {n : Nat} (hn : m 19 = nI n) (h12 : n ≤ 12) (x : Int32) : xV K B l 2 mX12_grips 0 0 (Y) [.int x] h (xPi (fun zr g => (mRG (u 1) x < 0 ∧ zr = mRG (u 1) x ∧ xMw K h0 g Y (upd m 5 0) rd ru ot u v) ∨ (¬ mRG (u 1) x < 0 ∧ zr = 10 + u 1 13 ∧ xMw K h0 g Y (upd (upd m 5 0) 19 (nI (psn n))) rd ru ot (uu (uu u 9 (mUn (u 9) (u 1) n)) 1 (upd (u 1) 13 x)) v))) := by
  refine ⟨⟨_, _, _, _, W.o, rfl⟩, qX12_grips, ?_⟩
  refine xS.intro RX12 false ⟨rfl, rfl, by decide, by decide, Nat.le_of_ble_eq_true rfl⟩ (ls := [some (.ref Y), some (.int x), none, none]) rfl ?_
  refine xr_al0 dX12_grips_0 ?_
  refine xr_ic0 dX12_grips_1 ?_
  refine xr_put W.o fX12_82 (Nat.le_of_ble_eq_true rfl) rfl rfl dX12_grips_2 ?_
  refine xT.nm (fun zh1 zg1 => ?_)
  have W := W.f5 zg1
  refine xr_al0 dX12_grips_5 ?_
  refine xr_il1 dX12_grips_6 ?_
  refine xr_Vpi1 (s_mRG W _) kX12_279 (by decide) (Nat.le_of_ble_eq_true rfl) (Nat.zero_add _) (Nat.zero_add _) dX12_grips_7 (fun zv7 zh2 zq2 => ?_)
  obtain ⟨rfl, W⟩ := zq2
  refine xr_is2 dX12_grips_10 (by decide) rfl ?_
  refine xr_il2 dX12_grips_11 ?_
  refine xr_ifge (tgt := 17) dX12_grips_12 (by decide) (fun zc12 => ?_) (fun zc12 => ?_)
  · skip
    refine xr_al0 dX12_grips_17 ?_
    refine xr_al0 dX12_grips_18 ?_
    refine xr_get W.o fX12_9 rfl dX12_grips_19 ?_
    refine xr_Vpv1 (s_mRemN W (n := n) (show upd m 5 0 19 = nI n from hn) h12) kX12_260 (by decide) (Nat.le_of_ble_eq_true rfl) (Nat.zero_add _) (Nat.zero_add _) dX12_grips_22 (fun zh3 zq3 => ?_)
    have W := zq3
    refine xr_al0 dX12_grips_25 ?_
    refine xr_get W.o fX12_9 rfl dX12_grips_26 ?_
    refine xr_bipush (v := 13) dX12_grips_29 (by decide) ?_
    refine xr_iald W.a1 (xix_lit (j := 13) (by decide)) dX12_grips_31 ?_
    refine xr_eqi (y := u 1 13) rfl ?_
    refine xr_is3 dX12_grips_32 (by decide) rfl ?_
    refine xr_al0 dX12_grips_33 ?_
    refine xr_get W.o fX12_9 rfl dX12_grips_34 ?_
    refine xr_bipush (v := 13) dX12_grips_37 (by decide) ?_
    refine xr_il1 dX12_grips_39 ?_
    refine xr_iast W.a1 (xix_lit (j := 13) (by decide)) dX12_grips_40 ?_
    refine xT.nm (fun zh4 zg4 => ?_)
    have W := W.p1 zg4
    refine xr_bipush (v := 10) dX12_grips_41 (by decide) ?_
    refine xr_il3 dX12_grips_43 ?_
    refine xr_iadd dX12_grips_44 ?_
    refine xr_iret dX12_grips_45 rfl ?_
    exact ⟨_, rfl, Or.inr ⟨Int32.not_lt.mpr zc12, rfl, W⟩⟩
  · skip
    refine xr_il2 dX12_grips_15 ?_
    refine xr_iret dX12_grips_16 rfl ?_
    exact ⟨_, rfl, Or.inl ⟨Int32.not_le.mp zc12, rfl, W⟩⟩
set_option maxRecDepth 20000 in
theorem s_mSeats {K : xK} {B : Nat} {l : Launch} {h0 h : xH} {Y : Nat} {m : Nat → Int32} {rd : Value} {ru ot : Nat} {u : Nat → Nat → Int32} {v : Nat → Int64} (W : xMw K h0 h Y m rd ru ot u v) {n : Nat} (hn : m 19 = nI n) (h12 : n ≤ 12) (x : Int32) : xV K B l 2 mX12_seats 0 0 (Y) [.int x] h (xPi (fun zr g => (mRS (u 1) x < 0 ∧ zr = mRS (u 1) x ∧ xMw K h0 g Y (upd m 5 0) rd ru ot u v) ∨ (¬ mRS (u 1) x < 0 ∧ zr = 10 + u 1 12 ∧ xMw K h0 g Y (upd (upd m 5 0) 19 (nI (psn n))) rd ru ot (uu (uu u 9 (mUn (u 9) (u 1) n)) 1 (upd (u 1) 12 x)) v))) := by
  refine ⟨⟨_, _, _, _, W.o, rfl⟩, qX12_seats, ?_⟩
  refine xS.intro RX12 false ⟨rfl, rfl, by decide, by decide, Nat.le_of_ble_eq_true rfl⟩ (ls := [some (.ref Y), some (.int x), none, none]) rfl ?_
  refine xr_al0 dX12_seats_0 ?_
  refine xr_ic0 dX12_seats_1 ?_
  refine xr_put W.o fX12_82 (Nat.le_of_ble_eq_true rfl) rfl rfl dX12_seats_2 ?_
  refine xT.nm (fun zh1 zg1 => ?_)
  have W := W.f5 zg1
  refine xr_al0 dX12_seats_5 ?_
  refine xr_il1 dX12_seats_6 ?_
  refine xr_Vpi1 (s_mRS W _) kX12_282 (by decide) (Nat.le_of_ble_eq_true rfl) (Nat.zero_add _) (Nat.zero_add _) dX12_seats_7 (fun zv7 zh2 zq2 => ?_)
  obtain ⟨rfl, W⟩ := zq2
  refine xr_is2 dX12_seats_10 (by decide) rfl ?_
  refine xr_il2 dX12_seats_11 ?_
  refine xr_ifge (tgt := 17) dX12_seats_12 (by decide) (fun zc12 => ?_) (fun zc12 => ?_)
  · skip
    refine xr_al0 dX12_seats_17 ?_
    refine xr_al0 dX12_seats_18 ?_
    refine xr_get W.o fX12_9 rfl dX12_seats_19 ?_
    refine xr_Vpv1 (s_mRemN W (n := n) (show upd m 5 0 19 = nI n from hn) h12) kX12_260 (by decide) (Nat.le_of_ble_eq_true rfl) (Nat.zero_add _) (Nat.zero_add _) dX12_seats_22 (fun zh3 zq3 => ?_)
    have W := zq3
    refine xr_al0 dX12_seats_25 ?_
    refine xr_get W.o fX12_9 rfl dX12_seats_26 ?_
    refine xr_bipush (v := 12) dX12_seats_29 (by decide) ?_
    refine xr_iald W.a1 (xix_lit (j := 12) (by decide)) dX12_seats_31 ?_
    refine xr_eqi (y := u 1 12) rfl ?_
    refine xr_is3 dX12_seats_32 (by decide) rfl ?_
    refine xr_al0 dX12_seats_33 ?_
    refine xr_get W.o fX12_9 rfl dX12_seats_34 ?_
    refine xr_bipush (v := 12) dX12_seats_37 (by decide) ?_
    refine xr_il1 dX12_seats_39 ?_
    refine xr_iast W.a1 (xix_lit (j := 12) (by decide)) dX12_seats_40 ?_
    refine xT.nm (fun zh4 zg4 => ?_)
    have W := W.p1 zg4
    refine xr_bipush (v := 10) dX12_seats_41 (by decide) ?_
    refine xr_il3 dX12_seats_43 ?_
    refine xr_iadd dX12_seats_44 ?_
    refine xr_iret dX12_seats_45 rfl ?_
    exact ⟨_, rfl, Or.inr ⟨Int32.not_lt.mpr zc12, rfl, W⟩⟩
  · skip
    refine xr_il2 dX12_seats_15 ?_
    refine xr_iret dX12_seats_16 rfl ?_
    exact ⟨_, rfl, Or.inl ⟨Int32.not_le.mp zc12, rfl, W⟩⟩
set_option maxRecDepth 20000 in
theorem s_mDrains {K : xK} {B : Nat} {l : Launch} {h0 h : xH} {Y : Nat} {m : Nat → Int32} {rd : Value} {ru ot : Nat} {u : Nat → Nat → Int32} {v : Nat → Int64} (W : xMw K h0 h Y m rd ru ot u v) {n : Nat} (hn : m 19 = nI n) (h12 : n ≤ 12) (x : Int32) : xV K B l 2 mX12_drains 0 0 (Y) [.int x] h (xPi (fun zr g => (mRD (u 1) x < 0 ∧ zr = mRD (u 1) x ∧ xMw K h0 g Y (upd m 5 0) rd ru ot u v) ∨ (¬ mRD (u 1) x < 0 ∧ zr = u 1 14 - x ∧ xMw K h0 g Y (upd (upd m 5 0) 19 (nI (psn n))) rd ru ot (uu (uu u 9 (mUn (u 9) (u 1) n)) 1 (upd (u 1) 14 (u 1 14 - x))) v))) := by
  refine ⟨⟨_, _, _, _, W.o, rfl⟩, qX12_drains, ?_⟩
  refine xS.intro RX12 false ⟨rfl, rfl, by decide, by decide, Nat.le_of_ble_eq_true rfl⟩ (ls := [some (.ref Y), some (.int x), none]) rfl ?_
  refine xr_al0 dX12_drains_0 ?_
  refine xr_ic0 dX12_drains_1 ?_
  refine xr_put W.o fX12_82 (Nat.le_of_ble_eq_true rfl) rfl rfl dX12_drains_2 ?_
  refine xT.nm (fun zh1 zg1 => ?_)
  have W := W.f5 zg1
  refine xr_al0 dX12_drains_5 ?_
  refine xr_il1 dX12_drains_6 ?_
  refine xr_Vpi1 (s_mRD W _) kX12_291 (by decide) (Nat.le_of_ble_eq_true rfl) (Nat.zero_add _) (Nat.zero_add _) dX12_drains_7 (fun zv7 zh2 zq2 => ?_)
  obtain ⟨rfl, W⟩ := zq2
  refine xr_is2 dX12_drains_10 (by decide) rfl ?_
  refine xr_il2 dX12_drains_11 ?_
  refine xr_ifge (tgt := 17) dX12_drains_12 (by decide) (fun zc12 => ?_) (fun zc12 => ?_)
  · skip
    refine xr_al0 dX12_drains_17 ?_
    refine xr_al0 dX12_drains_18 ?_
    refine xr_get W.o fX12_9 rfl dX12_drains_19 ?_
    refine xr_Vpv1 (s_mRemN W (n := n) (show upd m 5 0 19 = nI n from hn) h12) kX12_260 (by decide) (Nat.le_of_ble_eq_true rfl) (Nat.zero_add _) (Nat.zero_add _) dX12_drains_22 (fun zh3 zq3 => ?_)
    have W := zq3
    refine xr_al0 dX12_drains_25 ?_
    refine xr_get W.o fX12_9 rfl dX12_drains_26 ?_
    refine xr_bipush (v := 14) dX12_drains_29 (by decide) ?_
    refine xr_dup2 dX12_drains_31 rfl rfl ?_
    refine xr_iald W.a1 (xix_lit (j := 14) (by decide)) dX12_drains_32 ?_
    refine xr_eqi (y := u 1 14) rfl ?_
    refine xr_il1 dX12_drains_33 ?_
    refine xr_isub dX12_drains_34 ?_
    refine xr_iast W.a1 (xix_lit (j := 14) (by decide)) dX12_drains_35 ?_
    refine xT.nm (fun zh4 zg4 => ?_)
    have W := W.p1 zg4
    refine xr_al0 dX12_drains_36 ?_
    refine xr_get W.o fX12_9 rfl dX12_drains_37 ?_
    refine xr_bipush (v := 14) dX12_drains_40 (by decide) ?_
    refine xr_iald W.a1 (xix_lit (j := 14) (by decide)) dX12_drains_42 ?_
    refine xr_eqi (y := u 1 14 - x) rfl ?_
    refine xr_iret dX12_drains_43 rfl ?_
    exact ⟨_, rfl, Or.inr ⟨Int32.not_lt.mpr zc12, rfl, W⟩⟩
  · skip
    refine xr_il2 dX12_drains_15 ?_
    refine xr_iret dX12_drains_16 rfl ?_
    exact ⟨_, rfl, Or.inl ⟨Int32.not_le.mp zc12, rfl, W⟩⟩
theorem zI_eq {a b : Nat} (ha : a < 2 ^ 31) (hb : b < 2 ^ 31) : nI a = nI b ↔ a = b := ⟨fun h => by rw [← nI_clamp (n := a) ha, h, nI_clamp (n := b) hb], fun h => by rw [h]⟩
set_option maxRecDepth 20000 in
theorem s_mHeard {K : xK} {B : Nat} {l : Launch} {h0 h : xH} {Y : Nat} {m : Nat → Int32} {rd : Value} {ru ot : Nat} {u : Nat → Nat → Int32} {v : Nat → Int64} (W : xMw K h0 h Y m rd ru ot u v) {n : Nat} (hn : m 32 = nI n) (h12 : n ≤ 12) (x y : Int32) : xV K B l 1 mX12_heard 0 0 (Y) [.int x, .int y] h (xPi (fun zr g => (¬ (¬ mIn x 0 3 = 0 ∧ ¬ mIn y (mLow x) (mHigh x) = 0 ∧ ¬ n = 12) ∧ zr = -1 ∧ xMw K h0 g Y (upd m 5 0) rd ru ot u v) ∨ ((¬ mIn x 0 3 = 0 ∧ ¬ mIn y (mLow x) (mHigh x) = 0 ∧ ¬ n = 12) ∧ zr = nI (n + 1) ∧ xMw K h0 g Y (upd (upd m 5 0) 32 (nI (n + 1))) rd ru ot (uu (uu u 17 (upd (u 17) n x)) 18 (upd (u 18) n y)) v))) := by
  refine ⟨⟨_, _, _, _, W.o, rfl⟩, qX12_heard, ?_⟩
  refine xS.intro RX12 false ⟨rfl, rfl, by decide, by decide, Nat.le_of_ble_eq_true rfl⟩ (ls := [some (.ref Y), some (.int x), some (.int y)]) rfl ?_
  refine xr_al0 dX12_heard_0 ?_
  refine xr_ic0 dX12_heard_1 ?_
  refine xr_put W.o fX12_82 (Nat.le_of_ble_eq_true rfl) rfl rfl dX12_heard_2 ?_
  refine xT.nm (fun zh1 zg1 => ?_)
  have W := W.f5 zg1
  refine xr_il1 dX12_heard_5 ?_
  refine xr_ic0 dX12_heard_6 ?_
  refine xr_ic3 dX12_heard_7 ?_
  refine xr_Si3 (s_mIn _ _ _) kX12_89 (by decide) (Nat.le_of_ble_eq_true rfl) (Nat.zero_add _) (Nat.zero_add _) dX12_heard_8 ?_
  refine xr_ifeq (tgt := 38) dX12_heard_11 (by decide) (fun zc11 => ?_) (fun zc11 => ?_)
  · skip
    refine xr_icm1 dX12_heard_38 ?_
    refine xr_iret dX12_heard_39 rfl ?_
    exact ⟨_, rfl, Or.inl ⟨fun q => q.1 zc11, rfl, W⟩⟩
  · skip
    refine xr_il2 dX12_heard_14 ?_
    refine xr_il1 dX12_heard_15 ?_
    refine xr_Si1 (s_mLow _) kX12_339 (by decide) (Nat.le_of_ble_eq_true rfl) (Nat.zero_add _) (Nat.zero_add _) dX12_heard_16 ?_
    refine xr_il1 dX12_heard_19 ?_
    refine xr_Si1 (s_mHigh _) kX12_342 (by decide) (Nat.le_of_ble_eq_true rfl) (Nat.zero_add _) (Nat.zero_add _) dX12_heard_20 ?_
    refine xr_Si3 (s_mIn _ _ _) kX12_89 (by decide) (Nat.le_of_ble_eq_true rfl) (Nat.zero_add _) (Nat.zero_add _) dX12_heard_23 ?_
    refine xr_ifeq (tgt := 38) dX12_heard_26 (by decide) (fun zc26 => ?_) (fun zc26 => ?_)
    · skip
      refine xr_icm1 dX12_heard_38 ?_
      refine xr_iret dX12_heard_39 rfl ?_
      exact ⟨_, rfl, Or.inl ⟨fun q => q.2.1 zc26, rfl, W⟩⟩
    · skip
      have hn12 : nI n = 12 ↔ n = 12 := zI_eq (b := 12) (by omega) (by decide)
      refine xr_al0 dX12_heard_29 ?_
      refine xr_get W.o fX12_345 rfl dX12_heard_30 ?_
      refine xr_eqi (y := nI n) hn ?_
      refine xr_bipush (v := 12) dX12_heard_33 (by decide) ?_
      refine xr_icmpne (tgt := 40) dX12_heard_35 (by decide) (fun zc35 => ?_) (fun zc35 => ?_)
      · skip
        have n12 : n < 12 := Nat.lt_of_le_of_ne h12 (fun q => zc35 (hn12.mpr q))
        refine xr_al0 dX12_heard_40 ?_
        refine xr_get W.o fX12_60 rfl dX12_heard_41 ?_
        refine xr_al0 dX12_heard_44 ?_
        refine xr_get W.o fX12_345 rfl dX12_heard_45 ?_
        refine xr_eqi (y := nI n) hn ?_
        refine xr_il1 dX12_heard_48 ?_
        refine xr_iast W.a17 (xix_nI n12 (by decide)) dX12_heard_49 ?_
        refine xT.nm (fun zh2 zg2 => ?_)
        have W := W.p17 zg2
        refine xr_al0 dX12_heard_50 ?_
        refine xr_get W.o fX12_63 rfl dX12_heard_51 ?_
        refine xr_al0 dX12_heard_54 ?_
        refine xr_get W.o fX12_345 rfl dX12_heard_55 ?_
        refine xr_eqi (y := nI n) hn ?_
        refine xr_il2 dX12_heard_58 ?_
        refine xr_iast W.a18 (xix_nI n12 (by decide)) dX12_heard_59 ?_
        refine xT.nm (fun zh3 zg3 => ?_)
        have W := W.p18 zg3
        refine xr_al0 dX12_heard_60 ?_
        refine xr_dup dX12_heard_61 rfl ?_
        refine xr_get W.o fX12_345 rfl dX12_heard_62 ?_
        refine xr_eqi (y := nI n) hn ?_
        refine xr_ic1 dX12_heard_65 ?_
        refine xr_iadd dX12_heard_66 ?_
        refine xr_eqi (nI_1 n) ?_
        refine xr_put W.o fX12_345 (Nat.le_of_ble_eq_true rfl) rfl rfl dX12_heard_67 ?_
        refine xT.nm (fun zh4 zg4 => ?_)
        have W := W.f32 zg4
        refine xr_al0 dX12_heard_70 ?_
        refine xr_get W.o fX12_345 rfl dX12_heard_71 ?_
        refine xr_eqi (y := nI (n + 1)) rfl ?_
        refine xr_iret dX12_heard_74 rfl ?_
        exact ⟨_, rfl, Or.inr ⟨⟨zc11, zc26, fun q => absurd q (by omega)⟩, rfl, W⟩⟩
      · skip
        refine xr_icm1 dX12_heard_38 ?_
        refine xr_iret dX12_heard_39 rfl ?_
        exact ⟨_, rfl, Or.inl ⟨fun q => q.2.2 (hn12.mp zc35), rfl, W⟩⟩
