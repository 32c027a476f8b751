/-! The model: pails (written by wip/whole/mod12.py) -/
set_option maxRecDepth 20000 in
theorem lp_mPails {K : xK} {B : Nat} {l : Launch} {h0 : xH} {Y : Nat} {m : Nat → Int32} {rd : Value} {ru ot : Nat} {u : Nat → Nat → Int32} {v : Nat → Int64} {N : Nat} (hN : N ≤ 200) : ∀ (r k : Nat) {h : xH} {f : xs} (W : xMw K h0 h Y m rd ru ot (uu u 21 f) v), k + r = N + 1 → xT K B l 1 RX12 false cX12_pails 3 (some .int) 0 0 0 0 (xPi (fun zr g => (lwT (plN r k f) N ≤ 0 ∧ zr = 0 ∧ xMw K h0 g Y (upd m 4 0) rd ru ot (uu u 21 (plN r k f)) v) ∨ (¬ lwT (plN r k f) N ≤ 0 ∧ zr = 1 ∧ xMw K h0 g Y (upd (upd m 4 0) 4 1) rd ru ot (uu u 21 (plN r k f)) (vp_updL v 0 (lwT (plN r k f) N).toInt64)))) 20 [some (.ref Y), some (.int (nI N)), some (.int (nI k))] [] h := by
  intro r
  induction r with
  | zero =>
    intro k h f W hk
    refine xr_il2 dX12_pails_20 ?_
    refine xr_il1 dX12_pails_21 ?_
    refine xr_icmpgt (tgt := 50) dX12_pails_22 (by decide) (fun zc22 => ?_) (fun zc22 => ?_)
    · skip
      refine xr_al0 dX12_pails_50 ?_
      refine xr_ic0 dX12_pails_51 ?_
      refine xr_put W.o fX12_86 (Nat.le_of_ble_eq_true rfl) rfl rfl dX12_pails_52 ?_
      refine xT.nm (fun zh1 zg1 => ?_)
      have W := W.f4 zg1
      refine xr_al0 dX12_pails_55 ?_
      refine xr_il1 dX12_pails_56 ?_
      refine xr_Vpi1 (s_mTake W (n := N) (by omega)) kX12_364 (by decide) (Nat.le_of_ble_eq_true rfl) (Nat.zero_add _) (Nat.zero_add _) dX12_pails_57 (fun zv57 zh2 zq2 => ?_)
      obtain ⟨rfl, W⟩ := zq2
      refine xr_eqi (y := lwT f N) rfl ?_
      refine xr_ifle (tgt := 73) dX12_pails_60 (by decide) (fun zc60 => ?_) (fun zc60 => ?_)
      · skip
        refine xr_al0 dX12_pails_73 ?_
        refine xr_il1 dX12_pails_74 ?_
        refine xr_Vpi1 (s_mTake W (n := N) (by omega)) kX12_364 (by decide) (Nat.le_of_ble_eq_true rfl) (Nat.zero_add _) (Nat.zero_add _) dX12_pails_75 (fun zv75 zh3 zq3 => ?_)
        obtain ⟨rfl, W⟩ := zq3
        refine xr_eqi (y := lwT f N) rfl ?_
        refine xr_ifle (tgt := 85) dX12_pails_78 (by decide) (fun zc78 => ?_) (fun zc78 => ?_)
        · skip
          refine xr_ic0 dX12_pails_85 ?_
          refine xr_iret dX12_pails_86 rfl ?_
          exact ⟨_, rfl, Or.inl ⟨zc60, rfl, W⟩⟩
        · skip
          exact absurd zc60 zc78
      · skip
        refine xr_al0 dX12_pails_63 ?_
        refine xr_al0 dX12_pails_64 ?_
        refine xr_il1 dX12_pails_65 ?_
        refine xr_Vpi1 (s_mTake W (n := N) (by omega)) kX12_364 (by decide) (Nat.le_of_ble_eq_true rfl) (Nat.zero_add _) (Nat.zero_add _) dX12_pails_66 (fun zv66 zh3 zq3 => ?_)
        obtain ⟨rfl, W⟩ := zq3
        refine xr_eqi (y := lwT f N) rfl ?_
        refine xr_i2l dX12_pails_69 ?_
        refine xr_Vpv1 (s_mTell W (k := 0) rfl (by decide) _) kX12_253 (by decide) (Nat.le_of_ble_eq_true rfl) (Nat.zero_add _) (Nat.zero_add _) dX12_pails_70 (fun zh4 zq4 => ?_)
        have W := zq4
        refine xr_al0 dX12_pails_73 ?_
        refine xr_il1 dX12_pails_74 ?_
        refine xr_Vpi1 (s_mTake W (n := N) (by omega)) kX12_364 (by decide) (Nat.le_of_ble_eq_true rfl) (Nat.zero_add _) (Nat.zero_add _) dX12_pails_75 (fun zv75 zh5 zq5 => ?_)
        obtain ⟨rfl, W⟩ := zq5
        refine xr_eqi (y := lwT f N) rfl ?_
        refine xr_ifle (tgt := 85) dX12_pails_78 (by decide) (fun zc78 => ?_) (fun zc78 => ?_)
        · skip
          exact absurd zc78 zc60
        · skip
          refine xr_ic1 dX12_pails_81 ?_
          refine xr_goto (tgt := 86) dX12_pails_82 (by decide) ?_
          refine xr_iret dX12_pails_86 rfl ?_
          exact ⟨_, rfl, Or.inr ⟨zc60, rfl, W⟩⟩
    · skip
      exact absurd (nI_lt (a := N) (by omega) (by omega)) zc22
  | succ r ih =>
    intro k h f W hk
    refine xr_il2 dX12_pails_20 ?_
    refine xr_il1 dX12_pails_21 ?_
    refine xr_icmpgt (tgt := 50) dX12_pails_22 (by decide) (fun zc22 => ?_) (fun zc22 => ?_)
    · skip
      exact absurd zc22 (Int32.not_lt.mpr (nI_le (by omega) (by omega)))
    · skip
      refine xr_al0 dX12_pails_25 ?_
      refine xr_get W.o fX12_72 rfl dX12_pails_26 ?_
      refine xr_il2 dX12_pails_29 ?_
      refine xr_al0 dX12_pails_30 ?_
      refine xr_il2 dX12_pails_31 ?_
      refine xr_Vpi1 (s_mTake W (n := k) (by omega)) kX12_364 (by decide) (Nat.le_of_ble_eq_true rfl) (Nat.zero_add _) (Nat.zero_add _) dX12_pails_32 (fun zv32 zh1 zq1 => ?_)
      obtain ⟨rfl, W⟩ := zq1
      refine xr_eqi (y := lwT f k) rfl ?_
      refine xr_ifle (tgt := 42) dX12_pails_35 (by decide) (fun zc35 => ?_) (fun zc35 => ?_)
      · skip
        refine xr_ic0 dX12_pails_42 ?_
        refine xr_zast W.a21 (xix_nI (n := 201) (j := k) (by omega) (by decide)) dX12_pails_43 ?_
        refine xT.nm (fun zh2 zg2 => ?_)
        have W := W.p21 zg2
        refine xr_inc2 dX12_pails_44 (nI_inc k) (by decide) rfl ?_
        refine xr_goto (tgt := 20) dX12_pails_47 (by decide) ?_
        rw [uu_uu, uu_at] at W
        rw [plN_s, if_pos zc35]
        exact ih (k + 1) W (by omega)
      · skip
        refine xr_ic1 dX12_pails_38 ?_
        refine xr_goto (tgt := 43) dX12_pails_39 (by decide) ?_
        refine xr_zast W.a21 (xix_nI (n := 201) (j := k) (by omega) (by decide)) dX12_pails_43 ?_
        refine xT.nm (fun zh2 zg2 => ?_)
        have W := W.p21 zg2
        refine xr_inc2 dX12_pails_44 (nI_inc k) (by decide) rfl ?_
        refine xr_goto (tgt := 20) dX12_pails_47 (by decide) ?_
        rw [uu_uu, uu_at] at W
        rw [plN_s, if_neg zc35]
        exact ih (k + 1) W (by omega)
set_option maxRecDepth 20000 in
theorem s_mPails {K : xK} {B : Nat} {l : Launch} {h0 h : xH} {Y : Nat} {m : Nat → Int32} {rd : Value} {ru ot : Nat} {u : Nat → Nat → Int32} {v : Nat → Int64} (W : xMw K h0 h Y m rd ru ot u v) (x : Int32) : xV K B l 1 mX12_pails 0 0 (Y) [.int x] h (xPi (fun zr g => (mIn x 0 200 = 0 ∧ zr = -1 ∧ xMw K h0 g Y (upd m 5 0) rd ru ot u v) ∨ (∃ N, x = nI N ∧ N ≤ 200 ∧ xPi (fun zr g => (lwT (plN (N + 1) 0 (u 21)) N ≤ 0 ∧ zr = 0 ∧ xMw K h0 g Y (upd (upd m 5 0) 4 0) rd ru ot (uu u 21 (plN (N + 1) 0 (u 21))) v) ∨ (¬ lwT (plN (N + 1) 0 (u 21)) N ≤ 0 ∧ zr = 1 ∧ xMw K h0 g Y (upd (upd (upd m 5 0) 4 0) 4 1) rd ru ot (uu u 21 (plN (N + 1) 0 (u 21))) (vp_updL v 0 (lwT (plN (N + 1) 0 (u 21)) N).toInt64))) (some (.int zr)) g))) := by
  refine ⟨⟨_, _, _, _, W.o, rfl⟩, qX12_pails, ?_⟩
  refine xS.intro RX12 false ⟨rfl, rfl, by decide, by decide, Nat.le_of_ble_eq_true rfl⟩ (ls := [some (.ref Y), some (.int x), none]) rfl ?_
  refine xr_al0 dX12_pails_0 ?_
  refine xr_ic0 dX12_pails_1 ?_
  refine xr_put W.o fX12_82 (Nat.le_of_ble_eq_true rfl) rfl rfl dX12_pails_2 ?_
  refine xT.nm (fun zh1 zg1 => ?_)
  have W := W.f5 zg1
  refine xr_il1 dX12_pails_5 ?_
  refine xr_ic0 dX12_pails_6 ?_
  refine xr_sipush (v := 200) dX12_pails_7 (by decide) ?_
  refine xr_Si3 (s_mIn _ _ _) kX12_89 (by decide) (Nat.le_of_ble_eq_true rfl) (Nat.zero_add _) (Nat.zero_add _) dX12_pails_10 ?_
  refine xr_ifne (tgt := 18) dX12_pails_13 (by decide) (fun zc13 => ?_) (fun zc13 => ?_)
  · skip
    refine xr_ic0 dX12_pails_18 ?_
    refine xr_is2 dX12_pails_19 (by decide) rfl ?_
    obtain ⟨z1, z2⟩ := mIn_y zc13
    rcases pk_ix x (n := 201) (by decide) with z | z | ⟨N, hN, rfl⟩
    · exact absurd z z1
    · exact absurd (Int32.le_trans z (Int32.not_lt.mp z2)) (by decide)
    · refine xT.post (fun r g q => ?_) (lp_mPails (u := u) (N := N) (by omega) (N + 1) 0 (f := u 21) (by rw [uu_id]; exact W) (by omega))
      obtain ⟨v', q1, q2⟩ := q
      exact ⟨v', q1, Or.inr ⟨N, rfl, by omega, v', rfl, q2⟩⟩
  · skip
    refine xr_icm1 dX12_pails_16 ?_
    refine xr_iret dX12_pails_17 rfl ?_
    exact ⟨_, rfl, Or.inl ⟨zc13, rfl, W⟩⟩
