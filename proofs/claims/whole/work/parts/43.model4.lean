/-! The model: refusals, telling (written by wip/whole/mod4.py) -/
theorem mIn_y {v a b : Int32} (h : ¬ mIn v a b = 0) : ¬ v < a ∧ ¬ b < v := by
  unfold mIn at h
  exact Decidable.not_not.mp (fun q => h (bI_0.mpr q))
theorem mIn_01 {x : Int32} (h : ¬ mIn x 0 1 = 0) : ∃ s, s < 2 ∧ x = nI s := by
  obtain ⟨h1, h2⟩ := mIn_y h
  rcases pk_ix x (n := 2) (by decide) with z | z | ⟨s, hs, e⟩
  · exact absurd z h1
  · exact absurd (Int32.not_lt.mp h2) (fun q => absurd (Int32.le_trans z q) (by decide))
  · exact ⟨s, hs, e⟩
theorem mIn_1 {v a b : Int32} (h : ¬ mIn v a b = 0) : mIn v a b = 1 := by
  unfold mIn
  exact bI_t (mIn_y h)
def mPar (f : xs) (side k : Int32) : Int32 := if mIn side 0 1 = 0 then 0 else mIn k 0 (f (10 + side.toNatClampNeg) - 1)
set_option maxRecDepth 20000 in
theorem s_mPar {K : xK} {B : Nat} {l : Launch} {h0 h : xH} {Y : Nat} {m : Nat → Int32} {rd : Value} {ru ot : Nat} {u : Nat → Nat → Int32} {v : Nat → Int64} (W : xMw K h0 h Y m rd ru ot u v) (x y : Int32) : xV K B l 1 mX12_isParty 0 0 (Y) [.int x, .int y] h (xPi (fun zr g => zr = mPar (u 1) x y ∧ xMw K h0 g Y m rd ru ot u v)) := by
  refine ⟨⟨_, _, _, _, W.o, rfl⟩, qX12_isParty, ?_⟩
  refine xS.intro RX12 false ⟨rfl, rfl, by decide, by decide, Nat.le_of_ble_eq_true rfl⟩ (ls := [some (.ref Y), some (.int x), some (.int y)]) rfl ?_
  refine xr_il1 dX12_isParty_0 ?_
  refine xr_ic0 dX12_isParty_1 ?_
  refine xr_ic1 dX12_isParty_2 ?_
  refine xr_Si3 (s_mIn _ _ _) kX12_89 (by decide) (Nat.le_of_ble_eq_true rfl) (Nat.zero_add _) (Nat.zero_add _) dX12_isParty_3 ?_
  refine xr_ifeq (tgt := 32) dX12_isParty_6 (by decide) (fun zc6 => ?_) (fun zc6 => ?_)
  · skip
    refine xr_ic0 dX12_isParty_32 ?_
    refine xr_zret dX12_isParty_33 rfl (by first | rfl | decide | assumption) ?_
    exact ⟨_, rfl, (if_pos zc6).symm, W⟩
  · skip
    obtain ⟨s, hs, rfl⟩ := mIn_01 zc6
    refine xr_il2 dX12_isParty_9 ?_
    refine xr_ic0 dX12_isParty_10 ?_
    refine xr_al0 dX12_isParty_11 ?_
    refine xr_get W.o fX12_9 rfl dX12_isParty_12 ?_
    refine xr_bipush (v := 10) dX12_isParty_15 (by decide) ?_
    refine xr_il1 dX12_isParty_17 ?_
    refine xr_iadd dX12_isParty_18 ?_
    refine xr_eqi (y := nI (10 + s)) (nI_add 10 s) ?_
    refine xr_iald W.a1 (xix_nI (n := 19) (j := 10 + s) (by omega) (by decide)) dX12_isParty_19 ?_
    refine xr_ic1 dX12_isParty_20 ?_
    refine xr_isub dX12_isParty_21 ?_
    refine xr_Si3 (s_mIn _ _ _) kX12_89 (by decide) (Nat.le_of_ble_eq_true rfl) (Nat.zero_add _) (Nat.zero_add _) dX12_isParty_22 ?_
    refine xr_ifeq (tgt := 32) dX12_isParty_25 (by decide) (fun zc25 => ?_) (fun zc25 => ?_)
    · skip
      refine xr_ic0 dX12_isParty_32 ?_
      refine xr_zret dX12_isParty_33 rfl (by first | rfl | decide | assumption) ?_
      refine ⟨_, rfl, ?_, W⟩
      unfold mPar
      rw [if_neg zc6, nI_clamp (by omega), zc25]
    · skip
      refine xr_ic1 dX12_isParty_28 ?_
      refine xr_goto (tgt := 33) dX12_isParty_29 (by decide) ?_
      refine xr_zret dX12_isParty_33 rfl (by first | rfl | decide | assumption) ?_
      refine ⟨_, rfl, ?_, W⟩
      unfold mPar
      rw [if_neg zc6, nI_clamp (by omega), mIn_1 zc25]
def mRG (f : xs) (x : Int32) : Int32 := if mIn x 0 9 = 0 then -1 else if f 13 = x then -2 else 0
def mRS (f : xs) (x : Int32) : Int32 := if mIn x 1 3 = 0 then -1 else if f 12 = x then -2 else 0
def mRD (f : xs) (x : Int32) : Int32 := if mIn x 1 99 = 0 then -1 else if x ≤ f 14 then 0 else -2
def mRW (f : xs) (x y : Int32) : Int32 := if mPar f x y = 0 then -1 else if y + 1 = f (10 + x.toNatClampNeg) then -2 else 0
set_option maxRecDepth 20000 in
theorem s_mRG {K : xK} {B : Nat} {l : Launch} {h0 h : xH} {Y : Nat} {m : Nat → Int32} {rd : Value} {ru ot : Nat} {u : Nat → Nat → Int32} {v : Nat → Int64} (W : xMw K h0 h Y m rd ru ot u v) (x : Int32) : xV K B l 1 mX12_refusesGrip 0 0 (Y) [.int x] h (xPi (fun zr g => zr = mRG (u 1) x ∧ xMw K h0 g Y m rd ru ot u v)) := by
  refine ⟨⟨_, _, _, _, W.o, rfl⟩, qX12_refusesGrip, ?_⟩
  refine xS.intro RX12 false ⟨rfl, rfl, by decide, by decide, Nat.le_of_ble_eq_true rfl⟩ (ls := [some (.ref Y), some (.int x)]) rfl ?_
  refine xr_il1 dX12_refusesGrip_0 ?_
  refine xr_ic0 dX12_refusesGrip_1 ?_
  refine xr_bipush (v := 9) dX12_refusesGrip_2 (by decide) ?_
  refine xr_Si3 (s_mIn _ _ _) kX12_89 (by decide) (Nat.le_of_ble_eq_true rfl) (Nat.zero_add _) (Nat.zero_add _) dX12_refusesGrip_4 ?_
  refine xr_ifne (tgt := 12) dX12_refusesGrip_7 (by decide) (fun zc7 => ?_) (fun zc7 => ?_)
  · skip
    refine xr_al0 dX12_refusesGrip_12 ?_
    refine xr_get W.o fX12_9 rfl dX12_refusesGrip_13 ?_
    refine xr_bipush (v := 13) dX12_refusesGrip_16 (by decide) ?_
    refine xr_iald W.a1 (xix_lit (j := 13) (by decide)) dX12_refusesGrip_18 ?_
    refine xr_il1 dX12_refusesGrip_19 ?_
    refine xr_icmpne (tgt := 28) dX12_refusesGrip_20 (by decide) (fun zc20 => ?_) (fun zc20 => ?_)
    · skip
      refine xr_ic0 dX12_refusesGrip_28 ?_
      refine xr_iret dX12_refusesGrip_29 rfl ?_
      refine ⟨_, rfl, ?_, W⟩
      unfold mRG
      rw [if_neg zc7, if_neg zc20]
    · skip
      refine xr_bipush (v := (-2)) dX12_refusesGrip_23 (by decide) ?_
      refine xr_goto (tgt := 29) dX12_refusesGrip_25 (by decide) ?_
      refine xr_iret dX12_refusesGrip_29 rfl ?_
      refine ⟨_, rfl, ?_, W⟩
      unfold mRG
      rw [if_neg zc7, if_pos zc20]
  · skip
    refine xr_icm1 dX12_refusesGrip_10 ?_
    refine xr_iret dX12_refusesGrip_11 rfl ?_
    exact ⟨_, rfl, (if_pos zc7).symm, W⟩
set_option maxRecDepth 20000 in
theorem s_mRS {K : xK} {B : Nat} {l : Launch} {h0 h : xH} {Y : Nat} {m : Nat → Int32} {rd : Value} {ru ot : Nat} {u : Nat → Nat → Int32} {v : Nat → Int64} (W : xMw K h0 h Y m rd ru ot u v) (x : Int32) : xV K B l 1 mX12_refusesSeats 0 0 (Y) [.int x] h (xPi (fun zr g => zr = mRS (u 1) x ∧ xMw K h0 g Y m rd ru ot u v)) := by
  refine ⟨⟨_, _, _, _, W.o, rfl⟩, qX12_refusesSeats, ?_⟩
  refine xS.intro RX12 false ⟨rfl, rfl, by decide, by decide, Nat.le_of_ble_eq_true rfl⟩ (ls := [some (.ref Y), some (.int x)]) rfl ?_
  refine xr_il1 dX12_refusesSeats_0 ?_
  refine xr_ic1 dX12_refusesSeats_1 ?_
  refine xr_ic3 dX12_refusesSeats_2 ?_
  refine xr_Si3 (s_mIn _ _ _) kX12_89 (by decide) (Nat.le_of_ble_eq_true rfl) (Nat.zero_add _) (Nat.zero_add _) dX12_refusesSeats_3 ?_
  refine xr_ifne (tgt := 11) dX12_refusesSeats_6 (by decide) (fun zc6 => ?_) (fun zc6 => ?_)
  · skip
    refine xr_al0 dX12_refusesSeats_11 ?_
    refine xr_get W.o fX12_9 rfl dX12_refusesSeats_12 ?_
    refine xr_bipush (v := 12) dX12_refusesSeats_15 (by decide) ?_
    refine xr_iald W.a1 (xix_lit (j := 12) (by decide)) dX12_refusesSeats_17 ?_
    refine xr_il1 dX12_refusesSeats_18 ?_
    refine xr_icmpne (tgt := 27) dX12_refusesSeats_19 (by decide) (fun zc19 => ?_) (fun zc19 => ?_)
    · skip
      refine xr_ic0 dX12_refusesSeats_27 ?_
      refine xr_iret dX12_refusesSeats_28 rfl ?_
      refine ⟨_, rfl, ?_, W⟩
      unfold mRS
      rw [if_neg zc6, if_neg zc19]
    · skip
      refine xr_bipush (v := (-2)) dX12_refusesSeats_22 (by decide) ?_
      refine xr_goto (tgt := 28) dX12_refusesSeats_24 (by decide) ?_
      refine xr_iret dX12_refusesSeats_28 rfl ?_
      refine ⟨_, rfl, ?_, W⟩
      unfold mRS
      rw [if_neg zc6, if_pos zc19]
  · skip
    refine xr_icm1 dX12_refusesSeats_9 ?_
    refine xr_iret dX12_refusesSeats_10 rfl ?_
    exact ⟨_, rfl, (if_pos zc6).symm, W⟩
set_option maxRecDepth 20000 in
theorem s_mRD {K : xK} {B : Nat} {l : Launch} {h0 h : xH} {Y : Nat} {m : Nat → Int32} {rd : Value} {ru ot : Nat} {u : Nat → Nat → Int32} {v : Nat → Int64} (W : xMw K h0 h Y m rd ru ot u v) (x : Int32) : xV K B l 1 mX12_refusesDrain 0 0 (Y) [.int x] h (xPi (fun zr g => zr = mRD (u 1) x ∧ xMw K h0 g Y m rd ru ot u v)) := by
  refine ⟨⟨_, _, _, _, W.o, rfl⟩, qX12_refusesDrain, ?_⟩
  refine xS.intro RX12 false ⟨rfl, rfl, by decide, by decide, Nat.le_of_ble_eq_true rfl⟩ (ls := [some (.ref Y), some (.int x)]) rfl ?_
  refine xr_il1 dX12_refusesDrain_0 ?_
  refine xr_ic1 dX12_refusesDrain_1 ?_
  refine xr_bipush (v := 99) dX12_refusesDrain_2 (by decide) ?_
  refine xr_Si3 (s_mIn _ _ _) kX12_89 (by decide) (Nat.le_of_ble_eq_true rfl) (Nat.zero_add _) (Nat.zero_add _) dX12_refusesDrain_4 ?_
  refine xr_ifne (tgt := 12) dX12_refusesDrain_7 (by decide) (fun zc7 => ?_) (fun zc7 => ?_)
  · skip
    refine xr_al0 dX12_refusesDrain_12 ?_
    refine xr_get W.o fX12_9 rfl dX12_refusesDrain_13 ?_
    refine xr_bipush (v := 14) dX12_refusesDrain_16 (by decide) ?_
    refine xr_iald W.a1 (xix_lit (j := 14) (by decide)) dX12_refusesDrain_18 ?_
    refine xr_il1 dX12_refusesDrain_19 ?_
    refine xr_icmpge (tgt := 28) dX12_refusesDrain_20 (by decide) (fun zc20 => ?_) (fun zc20 => ?_)
    · skip
      refine xr_ic0 dX12_refusesDrain_28 ?_
      refine xr_iret dX12_refusesDrain_29 rfl ?_
      refine ⟨_, rfl, ?_, W⟩
      unfold mRD
      rw [if_neg zc7, if_pos zc20]
    · skip
      refine xr_bipush (v := (-2)) dX12_refusesDrain_23 (by decide) ?_
      refine xr_goto (tgt := 29) dX12_refusesDrain_25 (by decide) ?_
      refine xr_iret dX12_refusesDrain_29 rfl ?_
      refine ⟨_, rfl, ?_, W⟩
      unfold mRD
      rw [if_neg zc7, if_neg zc20]
  · skip
    refine xr_icm1 dX12_refusesDrain_10 ?_
    refine xr_iret dX12_refusesDrain_11 rfl ?_
    exact ⟨_, rfl, (if_pos zc7).symm, W⟩
set_option maxRecDepth 20000 in
theorem s_mRW {K : xK} {B : Nat} {l : Launch} {h0 h : xH} {Y : Nat} {m : Nat → Int32} {rd : Value} {ru ot : Nat} {u : Nat → Nat → Int32} {v : Nat → Int64} (W : xMw K h0 h Y m rd ru ot u v) (x y : Int32) : xV K B l 2 mX12_refusesSwap 0 0 (Y) [.int x, .int y] h (xPi (fun zr g => zr = mRW (u 1) x y ∧ xMw K h0 g Y m rd ru ot u v)) := by
  refine ⟨⟨_, _, _, _, W.o, rfl⟩, qX12_refusesSwap, ?_⟩
  refine xS.intro RX12 false ⟨rfl, rfl, by decide, by decide, Nat.le_of_ble_eq_true rfl⟩ (ls := [some (.ref Y), some (.int x), some (.int y)]) rfl ?_
  refine xr_al0 dX12_refusesSwap_0 ?_
  refine xr_il1 dX12_refusesSwap_1 ?_
  refine xr_il2 dX12_refusesSwap_2 ?_
  refine xr_Vpi2 (s_mPar W _ _) kX12_204 (by decide) (Nat.le_of_ble_eq_true rfl) (Nat.zero_add _) (Nat.zero_add _) dX12_refusesSwap_3 (fun zv3 zh1 zq1 => ?_)
  obtain ⟨rfl, W⟩ := zq1
  refine xr_ifne (tgt := 11) dX12_refusesSwap_6 (by decide) (fun zc6 => ?_) (fun zc6 => ?_)
  · skip
    have zp : ¬ mIn x 0 1 = 0 := fun q => zc6 (by unfold mPar; rw [if_pos q])
    obtain ⟨s, hs, rfl⟩ := mIn_01 zp
    refine xr_il2 dX12_refusesSwap_11 ?_
    refine xr_ic1 dX12_refusesSwap_12 ?_
    refine xr_iadd dX12_refusesSwap_13 ?_
    refine xr_al0 dX12_refusesSwap_14 ?_
    refine xr_get W.o fX12_9 rfl dX12_refusesSwap_15 ?_
    refine xr_bipush (v := 10) dX12_refusesSwap_18 (by decide) ?_
    refine xr_il1 dX12_refusesSwap_20 ?_
    refine xr_iadd dX12_refusesSwap_21 ?_
    refine xr_eqi (y := nI (10 + s)) (nI_add 10 s) ?_
    refine xr_iald W.a1 (xix_nI (n := 19) (j := 10 + s) (by omega) (by decide)) dX12_refusesSwap_22 ?_
    refine xr_icmpne (tgt := 31) dX12_refusesSwap_23 (by decide) (fun zc23 => ?_) (fun zc23 => ?_)
    · skip
      refine xr_ic0 dX12_refusesSwap_31 ?_
      refine xr_iret dX12_refusesSwap_32 rfl ?_
      refine ⟨_, rfl, ?_, W⟩
      unfold mRW
      rw [if_neg zc6, nI_clamp (by omega), if_neg zc23]
    · skip
      refine xr_bipush (v := (-2)) dX12_refusesSwap_26 (by decide) ?_
      refine xr_goto (tgt := 32) dX12_refusesSwap_28 (by decide) ?_
      refine xr_iret dX12_refusesSwap_32 rfl ?_
      refine ⟨_, rfl, ?_, W⟩
      unfold mRW
      rw [if_neg zc6, nI_clamp (by omega), if_pos zc23]
  · skip
    refine xr_icm1 dX12_refusesSwap_9 ?_
    refine xr_iret dX12_refusesSwap_10 rfl ?_
    exact ⟨_, rfl, (if_pos zc6).symm, W⟩
set_option maxRecDepth 20000 in
theorem s_mForget {K : xK} {B : Nat} {l : Launch} {h0 h : xH} {Y : Nat} {m : Nat → Int32} {rd : Value} {ru ot : Nat} {u : Nat → Nat → Int32} {v : Nat → Int64} (W : xMw K h0 h Y m rd ru ot u v) : xV K B l 0 mX12_forget 0 0 (Y) [] h (xPi (fun zr g => zr = m 32 ∧ xMw K h0 g Y (upd (upd m 5 0) 32 0) rd ru ot u v)) := by
  refine ⟨⟨_, _, _, _, W.o, rfl⟩, qX12_forget, ?_⟩
  refine xS.intro RX12 false ⟨rfl, rfl, by decide, by decide, Nat.le_of_ble_eq_true rfl⟩ (ls := [some (.ref Y), none]) rfl ?_
  refine xr_al0 dX12_forget_0 ?_
  refine xr_ic0 dX12_forget_1 ?_
  refine xr_put W.o fX12_82 (Nat.le_of_ble_eq_true rfl) rfl rfl dX12_forget_2 ?_
  refine xT.nm (fun zh1 zg1 => ?_)
  have W := W.f5 zg1
  refine xr_al0 dX12_forget_5 ?_
  refine xr_get W.o fX12_345 rfl dX12_forget_6 ?_
  refine xr_is1 dX12_forget_9 (by decide) rfl ?_
  refine xr_al0 dX12_forget_10 ?_
  refine xr_ic0 dX12_forget_11 ?_
  refine xr_put W.o fX12_345 (Nat.le_of_ble_eq_true rfl) rfl rfl dX12_forget_12 ?_
  refine xT.nm (fun zh2 zg2 => ?_)
  have W := W.f32 zg2
  refine xr_il1 dX12_forget_15 ?_
  refine xr_iret dX12_forget_16 rfl ?_
  exact ⟨_, rfl, rfl, W⟩
set_option maxRecDepth 20000 in
theorem s_mDenies {K : xK} {B : Nat} {l : Launch} {h0 h : xH} {Y : Nat} {m : Nat → Int32} {rd : Value} {ru ot : Nat} {u : Nat → Nat → Int32} {v : Nat → Int64} (W : xMw K h0 h Y m rd ru ot u v) : xV K B l 0 mX12_denies 0 0 (Y) [] h (xPi (fun zr g => zr = m 35 ∧ xMw K h0 g Y (upd (upd m 5 0) 35 0) rd ru ot u v)) := by
  refine ⟨⟨_, _, _, _, W.o, rfl⟩, qX12_denies, ?_⟩
  refine xS.intro RX12 false ⟨rfl, rfl, by decide, by decide, Nat.le_of_ble_eq_true rfl⟩ (ls := [some (.ref Y), none]) rfl ?_
  refine xr_al0 dX12_denies_0 ?_
  refine xr_ic0 dX12_denies_1 ?_
  refine xr_put W.o fX12_82 (Nat.le_of_ble_eq_true rfl) rfl rfl dX12_denies_2 ?_
  refine xT.nm (fun zh1 zg1 => ?_)
  have W := W.f5 zg1
  refine xr_al0 dX12_denies_5 ?_
  refine xr_get W.o fX12_354 rfl dX12_denies_6 ?_
  refine xr_is1 dX12_denies_9 (by decide) rfl ?_
  refine xr_al0 dX12_denies_10 ?_
  refine xr_ic0 dX12_denies_11 ?_
  refine xr_put W.o fX12_354 (Nat.le_of_ble_eq_true rfl) rfl rfl dX12_denies_12 ?_
  refine xT.nm (fun zh2 zg2 => ?_)
  have W := W.f35 zg2
  refine xr_il1 dX12_denies_15 ?_
  refine xr_iret dX12_denies_16 rfl ?_
  exact ⟨_, rfl, rfl, W⟩
set_option maxRecDepth 20000 in
theorem s_mTellTrip {K : xK} {B : Nat} {l : Launch} {h0 h : xH} {Y : Nat} {m : Nat → Int32} {rd : Value} {ru ot : Nat} {u : Nat → Nat → Int32} {v : Nat → Int64} (W : xMw K h0 h Y m rd ru ot u v) (x y : Int32) : xV K B l 1 mX12_tellTrip 0 0 (Y) [.int x, .int y] h (xPi (fun zr g => zr = y ∧ xMw K h0 g Y (upd (upd (upd m 4 0) 4 1) 4 2) rd ru ot u (vp_updL (vp_updL v 0 x.toInt64) 1 (u 1 14).toInt64))) := by
  refine ⟨⟨_, _, _, _, W.o, rfl⟩, qX12_tellTrip, ?_⟩
  refine xS.intro RX12 false ⟨rfl, rfl, by decide, by decide, Nat.le_of_ble_eq_true rfl⟩ (ls := [some (.ref Y), some (.int x), some (.int y)]) rfl ?_
  refine xr_al0 dX12_tellTrip_0 ?_
  refine xr_ic0 dX12_tellTrip_1 ?_
  refine xr_put W.o fX12_86 (Nat.le_of_ble_eq_true rfl) rfl rfl dX12_tellTrip_2 ?_
  refine xT.nm (fun zh1 zg1 => ?_)
  have W := W.f4 zg1
  refine xr_al0 dX12_tellTrip_5 ?_
  refine xr_il1 dX12_tellTrip_6 ?_
  refine xr_i2l dX12_tellTrip_7 ?_
  refine xr_Vpv1 (s_mTell W (k := 0) rfl (by decide) _) kX12_253 (by decide) (Nat.le_of_ble_eq_true rfl) (Nat.zero_add _) (Nat.zero_add _) dX12_tellTrip_8 (fun zh2 zq2 => ?_)
  have W := zq2
  refine xr_al0 dX12_tellTrip_11 ?_
  refine xr_al0 dX12_tellTrip_12 ?_
  refine xr_get W.o fX12_9 rfl dX12_tellTrip_13 ?_
  refine xr_bipush (v := 14) dX12_tellTrip_16 (by decide) ?_
  refine xr_iald W.a1 (xix_lit (j := 14) (by decide)) dX12_tellTrip_18 ?_
  refine xr_i2l dX12_tellTrip_19 ?_
  refine xr_Vpv1 (s_mTell W (k := 1) rfl (by decide) _) kX12_253 (by decide) (Nat.le_of_ble_eq_true rfl) (Nat.zero_add _) (Nat.zero_add _) dX12_tellTrip_20 (fun zh3 zq3 => ?_)
  have W := zq3
  refine xr_il2 dX12_tellTrip_23 ?_
  refine xr_iret dX12_tellTrip_24 rfl ?_
  exact ⟨_, rfl, rfl, W⟩
set_option maxRecDepth 20000 in
theorem s_mTellFirst {K : xK} {B : Nat} {l : Launch} {h0 h : xH} {Y : Nat} {m : Nat → Int32} {rd : Value} {ru ot : Nat} {u : Nat → Nat → Int32} {v : Nat → Int64} (W : xMw K h0 h Y m rd ru ot u v) (y : Int32) : xV K B l 1 mX12_tellFirst 0 0 (Y) [.int y] h (xPi (fun zr g => zr = y ∧ xMw K h0 g Y (upd (upd (upd m 4 0) 4 1) 4 2) rd ru ot u (vp_updL (vp_updL v 0 (m 27).toInt64) 1 (m 28).toInt64))) := by
  refine ⟨⟨_, _, _, _, W.o, rfl⟩, qX12_tellFirst, ?_⟩
  refine xS.intro RX12 false ⟨rfl, rfl, by decide, by decide, Nat.le_of_ble_eq_true rfl⟩ (ls := [some (.ref Y), some (.int y)]) rfl ?_
  refine xr_al0 dX12_tellFirst_0 ?_
  refine xr_ic0 dX12_tellFirst_1 ?_
  refine xr_put W.o fX12_86 (Nat.le_of_ble_eq_true rfl) rfl rfl dX12_tellFirst_2 ?_
  refine xT.nm (fun zh1 zg1 => ?_)
  have W := W.f4 zg1
  refine xr_al0 dX12_tellFirst_5 ?_
  refine xr_al0 dX12_tellFirst_6 ?_
  refine xr_get W.o fX12_301 rfl dX12_tellFirst_7 ?_
  refine xr_i2l dX12_tellFirst_10 ?_
  refine xr_Vpv1 (s_mTell W (k := 0) rfl (by decide) _) kX12_253 (by decide) (Nat.le_of_ble_eq_true rfl) (Nat.zero_add _) (Nat.zero_add _) dX12_tellFirst_11 (fun zh2 zq2 => ?_)
  have W := zq2
  refine xr_al0 dX12_tellFirst_14 ?_
  refine xr_al0 dX12_tellFirst_15 ?_
  refine xr_get W.o fX12_304 rfl dX12_tellFirst_16 ?_
  refine xr_i2l dX12_tellFirst_19 ?_
  refine xr_Vpv1 (s_mTell W (k := 1) rfl (by decide) _) kX12_253 (by decide) (Nat.le_of_ble_eq_true rfl) (Nat.zero_add _) (Nat.zero_add _) dX12_tellFirst_20 (fun zh3 zq3 => ?_)
  have W := zq3
  refine xr_il1 dX12_tellFirst_23 ?_
  refine xr_iret dX12_tellFirst_24 rfl ?_
  exact ⟨_, rfl, rfl, W⟩
