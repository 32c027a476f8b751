/-! The model: needs (written by wip/whole/mod13.py) -/
set_option maxRecDepth 20000 in
theorem s_mNeeds {K : xK} {B : Nat} {l : Launch} {h0 h : xH} {Y : Nat} {m : Nat → Int32} {rd : Value} {ru ot : Nat} {u : Nat → Nat → Int32} {v : Nat → Int64} (W : xMw K h0 h Y m rd ru ot u v) (ok : hOk (u 1)) : xV K B l 4 mX12_needs 0 0 (Y) [] h (xPi (fun zr g => (u 1 10 + u 1 11 = 0 ∧ zr = -2 ∧ xMw K h0 g Y (upd m 5 0) rd ru ot u v) ∨ (¬ u 1 10 + u 1 11 = 0 ∧ zr = mNW (u 1) ∧ xMw K h0 g Y (upd (upd (upd (upd m 5 0) 4 0) 4 1) 4 2) rd ru ot u (vp_updL (vp_updL v 0 (wt (u 1) 0 (hNext (u 1) 0)).toInt64) 1 (wt (u 1) 1 (hNext (u 1) 1)).toInt64)))) := by
  refine ⟨⟨_, _, _, _, W.o, rfl⟩, qX12_needs, ?_⟩
  refine xS.intro RX12 false ⟨rfl, rfl, by decide, by decide, Nat.le_of_ble_eq_true rfl⟩ (ls := [some (.ref Y)]) rfl ?_
  refine xr_al0 dX12_needs_0 ?_
  refine xr_ic0 dX12_needs_1 ?_
  refine xr_put W.o fX12_82 (Nat.le_of_ble_eq_true rfl) rfl rfl dX12_needs_2 ?_
  refine xT.nm (fun zh1 zg1 => ?_)
  have W := W.f5 zg1
  refine xr_al0 dX12_needs_5 ?_
  refine xr_get W.o fX12_9 rfl dX12_needs_6 ?_
  refine xr_Si1 (s_mWaits W.a1) kX12_240 (by decide) (Nat.le_of_ble_eq_true rfl) (Nat.zero_add _) (Nat.zero_add _) dX12_needs_9 ?_
  refine xr_ifne (tgt := 18) dX12_needs_12 (by decide) (fun zc12 => ?_) (fun zc12 => ?_)
  · skip
    refine xr_al0 dX12_needs_18 ?_
    refine xr_ic0 dX12_needs_19 ?_
    refine xr_put W.o fX12_86 (Nat.le_of_ble_eq_true rfl) rfl rfl dX12_needs_20 ?_
    refine xT.nm (fun zh2 zg2 => ?_)
    have W := W.f4 zg2
    refine xr_al0 dX12_needs_23 ?_
    refine xr_al0 dX12_needs_24 ?_
    refine xr_get W.o fX12_9 rfl dX12_needs_25 ?_
    refine xr_ic0 dX12_needs_28 ?_
    refine xr_al0 dX12_needs_29 ?_
    refine xr_get W.o fX12_9 rfl dX12_needs_30 ?_
    refine xr_ic0 dX12_needs_33 ?_
    refine xr_Si2 (s_mNextOf W.a1 ok (s := 0) (by decide)) kX12_234 (by decide) (Nat.le_of_ble_eq_true rfl) (Nat.zero_add _) (Nat.zero_add _) dX12_needs_34 ?_
    refine xr_Si3 (s_mWeightOf W.a1 ok (s := 0) (by decide) _) kX12_191 (by decide) (Nat.le_of_ble_eq_true rfl) (Nat.zero_add _) (Nat.zero_add _) dX12_needs_37 ?_
    refine xr_i2l dX12_needs_40 ?_
    refine xr_Vpv1 (s_mTell W (k := 0) rfl (by decide) _) kX12_253 (by decide) (Nat.le_of_ble_eq_true rfl) (Nat.zero_add _) (Nat.zero_add _) dX12_needs_41 (fun zh3 zq3 => ?_)
    have W := zq3
    refine xr_al0 dX12_needs_44 ?_
    refine xr_al0 dX12_needs_45 ?_
    refine xr_get W.o fX12_9 rfl dX12_needs_46 ?_
    refine xr_ic1 dX12_needs_49 ?_
    refine xr_al0 dX12_needs_50 ?_
    refine xr_get W.o fX12_9 rfl dX12_needs_51 ?_
    refine xr_ic1 dX12_needs_54 ?_
    refine xr_Si2 (s_mNextOf W.a1 ok (s := 1) (by decide)) kX12_234 (by decide) (Nat.le_of_ble_eq_true rfl) (Nat.zero_add _) (Nat.zero_add _) dX12_needs_55 ?_
    refine xr_Si3 (s_mWeightOf W.a1 ok (s := 1) (by decide) _) kX12_191 (by decide) (Nat.le_of_ble_eq_true rfl) (Nat.zero_add _) (Nat.zero_add _) dX12_needs_58 ?_
    refine xr_i2l dX12_needs_61 ?_
    refine xr_Vpv1 (s_mTell W (k := 1) rfl (by decide) _) kX12_253 (by decide) (Nat.le_of_ble_eq_true rfl) (Nat.zero_add _) (Nat.zero_add _) dX12_needs_62 (fun zh4 zq4 => ?_)
    have W := zq4
    refine xr_al0 dX12_needs_65 ?_
    refine xr_get W.o fX12_9 rfl dX12_needs_66 ?_
    refine xr_Si1 (s_mNextWater W.a1 ok) kX12_243 (by decide) (Nat.le_of_ble_eq_true rfl) (Nat.zero_add _) (Nat.zero_add _) dX12_needs_69 ?_
    refine xr_iret dX12_needs_72 rfl ?_
    exact ⟨_, rfl, Or.inr ⟨zc12, rfl, W⟩⟩
  · skip
    refine xr_bipush (v := (-2)) dX12_needs_15 (by decide) ?_
    refine xr_iret dX12_needs_17 rfl ?_
    exact ⟨_, rfl, Or.inl ⟨zc12, rfl, W⟩⟩
