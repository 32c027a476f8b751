/-! The model's small methods (written by wip/whole/mod3.py) -/
set_option maxRecDepth 20000 in
theorem s_mThrown {K : xK} {B : Nat} {l : Launch} {h0 h : xH} {Y : Nat} {m : Nat → Int32} {rd : Value} {ru ot : Nat} {u : Nat → Nat → Int32} {v : Nat → Int64} (W : xMw K h0 h Y m rd ru ot u v) : xV K B l 0 mX12_thrown 0 0 (Y) [] h (xPi (fun zr g => zr = m 5 ∧ xMw K h0 g Y m rd ru ot u v)) := by
  refine ⟨⟨_, _, _, _, W.o, rfl⟩, qX12_thrown, ?_⟩
  refine xS.intro RX12 false ⟨rfl, rfl, by decide, by decide, Nat.le_of_ble_eq_true rfl⟩ (ls := [some (.ref Y)]) rfl ?_
  refine xr_al0 dX12_thrown_0 ?_
  refine xr_get W.o fX12_82 rfl dX12_thrown_1 ?_
  refine xr_iret dX12_thrown_4 rfl ?_
  exact ⟨_, rfl, rfl, W⟩
set_option maxRecDepth 20000 in
theorem s_mLost {K : xK} {B : Nat} {l : Launch} {h0 h : xH} {Y : Nat} {m : Nat → Int32} {rd : Value} {ru ot : Nat} {u : Nat → Nat → Int32} {v : Nat → Int64} (W : xMw K h0 h Y m rd ru ot u v) : xV K B l 0 mX12_lost 0 0 (Y) [] h (xPi (fun zr g => zr = 0 ∧ xMw K h0 g Y (upd m 5 1) rd ru ot u v)) := by
  refine ⟨⟨_, _, _, _, W.o, rfl⟩, qX12_lost, ?_⟩
  refine xS.intro RX12 false ⟨rfl, rfl, by decide, by decide, Nat.le_of_ble_eq_true rfl⟩ (ls := [some (.ref Y)]) rfl ?_
  refine xr_al0 dX12_lost_0 ?_
  refine xr_ic1 dX12_lost_1 ?_
  refine xr_put W.o fX12_82 (Nat.le_of_ble_eq_true rfl) rfl rfl dX12_lost_2 ?_
  refine xT.nm (fun zh1 zg1 => ?_)
  have W := W.f5 zg1
  refine xr_ic0 dX12_lost_5 ?_
  refine xr_iret dX12_lost_6 rfl ?_
  exact ⟨_, rfl, rfl, W⟩
set_option maxRecDepth 20000 in
theorem s_mTell {K : xK} {B : Nat} {l : Launch} {h0 h : xH} {Y : Nat} {m : Nat → Int32} {rd : Value} {ru ot : Nat} {u : Nat → Nat → Int32} {v : Nat → Int64} (W : xMw K h0 h Y m rd ru ot u v) {k : Nat} (hk : m 4 = nI k) (hk2 : k < 16) (x : Int64) : xV K B l 0 mX12_tell 0 0 (Y) [.long x] h (xPv (fun g => xMw K h0 g Y (upd m 4 (nI (k + 1))) rd ru ot u (vp_updL v k x))) := by
  refine ⟨⟨_, _, _, _, W.o, rfl⟩, qX12_tell, ?_⟩
  refine xS.intro RX12 false ⟨rfl, rfl, by decide, by decide, Nat.le_of_ble_eq_true rfl⟩ (ls := [some (.ref Y), some (.long x), none]) rfl ?_
  refine xr_al0 dX12_tell_0 ?_
  refine xr_get W.o fX12_17 rfl dX12_tell_1 ?_
  refine xr_al0 dX12_tell_4 ?_
  refine xr_get W.o fX12_86 rfl dX12_tell_5 ?_
  refine xr_eqi hk ?_
  refine xr_ll1 dX12_tell_8 ?_
  refine xr_last W.a3 (xix_nI hk2 (by decide)) dX12_tell_9 ?_
  refine xT.nm (fun zh1 zg1 => ?_)
  have W := W.p3 zg1
  refine xr_al0 dX12_tell_10 ?_
  refine xr_dup dX12_tell_11 rfl ?_
  refine xr_get W.o fX12_86 rfl dX12_tell_12 ?_
  refine xr_eqi hk ?_
  refine xr_ic1 dX12_tell_15 ?_
  refine xr_iadd dX12_tell_16 ?_
  refine xr_eqi (nI_1 k) ?_
  refine xr_put W.o fX12_86 (Nat.le_of_ble_eq_true rfl) rfl rfl dX12_tell_17 ?_
  refine xT.nm (fun zh2 zg2 => ?_)
  have W := W.f4 zg2
  refine xr_vret dX12_tell_20 rfl ?_
  exact ⟨rfl, W⟩
set_option maxRecDepth 20000 in
theorem s_mFine {K : xK} {B : Nat} {l : Launch} {h0 h : xH} {Y : Nat} {m : Nat → Int32} {rd : Value} {ru ot : Nat} {u : Nat → Nat → Int32} {v : Nat → Int64} (W : xMw K h0 h Y m rd ru ot u v) : xV K B l 0 mX12_fine 0 0 (Y) [] h (xPi (fun zr g => zr = bI (m 10 = -1) ∧ xMw K h0 g Y m rd ru ot u v)) := by
  refine ⟨⟨_, _, _, _, W.o, rfl⟩, qX12_fine, ?_⟩
  refine xS.intro RX12 false ⟨rfl, rfl, by decide, by decide, Nat.le_of_ble_eq_true rfl⟩ (ls := [some (.ref Y)]) rfl ?_
  refine xr_al0 dX12_fine_0 ?_
  refine xr_get W.o fX12_108 rfl dX12_fine_1 ?_
  refine xr_icm1 dX12_fine_4 ?_
  refine xr_icmpne (tgt := 12) dX12_fine_5 (by decide) (fun zc5 => ?_) (fun zc5 => ?_)
  · skip
    refine xr_ic0 dX12_fine_12 ?_
    refine xr_zret dX12_fine_13 rfl (by first | rfl | decide | assumption) ?_
    exact ⟨_, rfl, (bI_f zc5).symm, W⟩
  · skip
    refine xr_ic1 dX12_fine_8 ?_
    refine xr_goto (tgt := 13) dX12_fine_9 (by decide) ?_
    refine xr_zret dX12_fine_13 rfl (by first | rfl | decide | assumption) ?_
    exact ⟨_, rfl, (bI_t zc5).symm, W⟩
set_option maxRecDepth 20000 in
theorem s_mFault {K : xK} {B : Nat} {l : Launch} {h0 h : xH} {Y : Nat} {m : Nat → Int32} {rd : Value} {ru ot : Nat} {u : Nat → Nat → Int32} {v : Nat → Int64} (W : xMw K h0 h Y m rd ru ot u v) (x : Int32) : xV K B l 1 mX12_fault 0 0 (Y) [.int x] h (xPv (fun g => xMw K h0 g Y (if m 10 = -1 then upd m 10 x else m) rd ru ot u v)) := by
  refine ⟨⟨_, _, _, _, W.o, rfl⟩, qX12_fault, ?_⟩
  refine xS.intro RX12 false ⟨rfl, rfl, by decide, by decide, Nat.le_of_ble_eq_true rfl⟩ (ls := [some (.ref Y), some (.int x)]) rfl ?_
  refine xr_al0 dX12_fault_0 ?_
  refine xr_Vpi0 (s_mFine W) kX12_115 (by decide) (Nat.le_of_ble_eq_true rfl) (Nat.zero_add _) (Nat.zero_add _) dX12_fault_1 (fun zv1 zh1 zq1 => ?_)
  obtain ⟨rfl, W⟩ := zq1
  refine xr_ifeq (tgt := 12) dX12_fault_4 (by decide) (fun zc4 => ?_) (fun zc4 => ?_)
  · skip
    refine xr_vret dX12_fault_12 rfl ?_
    refine ⟨rfl, ?_⟩
    rw [if_neg (bI_0.mp zc4)]
    exact W
  · skip
    refine xr_al0 dX12_fault_7 ?_
    refine xr_il1 dX12_fault_8 ?_
    refine xr_put W.o fX12_108 (Nat.le_of_ble_eq_true rfl) rfl rfl dX12_fault_9 ?_
    refine xT.nm (fun zh2 zg2 => ?_)
    have W := W.f10 zg2
    refine xr_vret dX12_fault_12 rfl ?_
    refine ⟨rfl, ?_⟩
    rw [if_pos (Decidable.not_not.mp (fun q => zc4 (bI_0.mpr q)))]
    exact W
set_option maxRecDepth 20000 in
theorem s_mEnd {K : xK} {B : Nat} {l : Launch} {h0 h : xH} {Y : Nat} {m : Nat → Int32} {rd : Value} {ru ot : Nat} {u : Nat → Nat → Int32} {v : Nat → Int64} (W : xMw K h0 h Y m rd ru ot u v) (x : Int32) : xV K B l 1 mX12_end 0 0 (Y) [.int x] h (xPi (fun zr g => zr = mIn x 0 (m 2) ∧ xMw K h0 g Y (if mIn x 0 (m 2) = 0 then upd m 5 0 else upd (upd m 5 0) 2 x) rd ru ot u v)) := by
  refine ⟨⟨_, _, _, _, W.o, rfl⟩, qX12_end, ?_⟩
  refine xS.intro RX12 false ⟨rfl, rfl, by decide, by decide, Nat.le_of_ble_eq_true rfl⟩ (ls := [some (.ref Y), some (.int x)]) rfl ?_
  refine xr_al0 dX12_end_0 ?_
  refine xr_ic0 dX12_end_1 ?_
  refine xr_put W.o fX12_82 (Nat.le_of_ble_eq_true rfl) rfl rfl dX12_end_2 ?_
  refine xT.nm (fun zh1 zg1 => ?_)
  have W := W.f5 zg1
  refine xr_il1 dX12_end_5 ?_
  refine xr_ic0 dX12_end_6 ?_
  refine xr_al0 dX12_end_7 ?_
  refine xr_get W.o fX12_93 rfl dX12_end_8 ?_
  refine xr_eqi (y := m 2) rfl ?_
  refine xr_Si3 (s_mIn _ _ _) kX12_89 (by decide) (Nat.le_of_ble_eq_true rfl) (Nat.zero_add _) (Nat.zero_add _) dX12_end_11 ?_
  refine xr_ifne (tgt := 19) dX12_end_14 (by decide) (fun zc14 => ?_) (fun zc14 => ?_)
  · skip
    refine xr_al0 dX12_end_19 ?_
    refine xr_il1 dX12_end_20 ?_
    refine xr_put W.o fX12_93 (Nat.le_of_ble_eq_true rfl) rfl rfl dX12_end_21 ?_
    refine xT.nm (fun zh2 zg2 => ?_)
    have W := W.f2 zg2
    refine xr_ic1 dX12_end_24 ?_
    refine xr_zret dX12_end_25 rfl (by first | rfl | decide | assumption) ?_
    refine ⟨_, rfl, ?_, ?_⟩
    · unfold mIn bI at *
      split at zc14
      · rename_i q
        rw [if_pos q]
      · exact absurd rfl zc14
    · rw [if_neg zc14]
      exact W
  · skip
    refine xr_ic0 dX12_end_17 ?_
    refine xr_zret dX12_end_18 rfl (by first | rfl | decide | assumption) ?_
    refine ⟨_, rfl, zc14.symm, ?_⟩
    rw [if_pos zc14]
    exact W
