/-! The model: leaving, swapping, seeing, drawing (written by wip/whole/mod7.py) -/
theorem mPar_sk {f : xs} (ok : hOk f) {x y : Int32} (h : ¬ mPar f x y = 0) : ∃ s j, s < 2 ∧ j < ln f s ∧ x = nI s ∧ y = nI j := by
  have h1 : ¬ mIn x 0 1 = 0 := fun q => h (by unfold mPar; rw [if_pos q])
  obtain ⟨s, hs, rfl⟩ := mIn_01 h1
  unfold mPar at h
  rw [if_neg h1, nI_clamp (by omega)] at h
  obtain ⟨h2, h3⟩ := mIn_y h
  have e := (hOk_at ok hs).1
  have e5 := (hOk_at ok hs).2
  rw [e] at h3
  rcases pk_ix y (n := ln f s) (by omega) with z | z | ⟨j, hj, e'⟩
  · exact absurd z h2
  · exfalso
    rcases Nat.eq_zero_or_pos (ln f s) with q | q
    · rw [q] at h3
      exact h2 (Int32.lt_of_le_of_lt (Int32.not_lt.mp h3) (by decide))
    · rw [show nI (ln f s) - 1 = nI (ln f s - 1) from nI_sub (a := ln f s) (b := 1) q] at h3
      have := Int32.le_trans z (Int32.not_lt.mp h3)
      have := (nI_leI (by omega) (by omega)).mp this
      omega
  · exact ⟨s, j, hs, hj, rfl, e'⟩
set_option maxRecDepth 20000 in
theorem s_mLeaves {K : xK} {B : Nat} {l : Launch} {h0 h : xH} {Y : Nat} {m : Nat → Int32} {rd : Value} {ru ot : Nat} {u : Nat → Nat → Int32} {v : Nat → Int64} (W : xMw K h0 h Y m rd ru ot u v) {n : Nat} (hn : m 19 = nI n) (h12 : n ≤ 12) (ok : hOk (u 1)) (x y : Int32) : xV K B l 2 mX12_leaves 0 0 (Y) [.int x, .int y] h (xPi (fun zr g => (mPar (u 1) x y = 0 ∧ zr = -1 ∧ xMw K h0 g Y (upd m 5 0) rd ru ot u v) ∨ (¬ mPar (u 1) x y = 0 ∧ zr = mOut (u 1) x.toNatClampNeg ((1 : Int32) <<< (y &&& 31)) (10 + x.toNatClampNeg) ∧ xMw K h0 g Y (upd (upd m 5 0) 19 (nI (psn n))) rd ru ot (uu (uu u 9 (mUn (u 9) (u 1) n)) 1 (mOut (u 1) x.toNatClampNeg ((1 : Int32) <<< (y &&& 31)))) v))) := by
  refine ⟨⟨_, _, _, _, W.o, rfl⟩, qX12_leaves, ?_⟩
  refine xS.intro RX12 false ⟨rfl, rfl, by decide, by decide, Nat.le_of_ble_eq_true rfl⟩ (ls := [some (.ref Y), some (.int x), some (.int y)]) rfl ?_
  refine xr_al0 dX12_leaves_0 ?_
  refine xr_ic0 dX12_leaves_1 ?_
  refine xr_put W.o fX12_82 (Nat.le_of_ble_eq_true rfl) rfl rfl dX12_leaves_2 ?_
  refine xT.nm (fun zh1 zg1 => ?_)
  have W := W.f5 zg1
  refine xr_al0 dX12_leaves_5 ?_
  refine xr_il1 dX12_leaves_6 ?_
  refine xr_il2 dX12_leaves_7 ?_
  refine xr_Vpi2 (s_mPar W _ _) kX12_204 (by decide) (Nat.le_of_ble_eq_true rfl) (Nat.zero_add _) (Nat.zero_add _) dX12_leaves_8 (fun zv8 zh2 zq2 => ?_)
  obtain ⟨rfl, W⟩ := zq2
  refine xr_ifne (tgt := 16) dX12_leaves_11 (by decide) (fun zc11 => ?_) (fun zc11 => ?_)
  · skip
    obtain ⟨s, j, hs, hj, rfl, rfl⟩ := mPar_sk ok zc11
    refine xr_al0 dX12_leaves_16 ?_
    refine xr_al0 dX12_leaves_17 ?_
    refine xr_get W.o fX12_9 rfl dX12_leaves_18 ?_
    refine xr_Vpv1 (s_mRemN W (n := n) (show upd m 5 0 19 = nI n from hn) h12) kX12_260 (by decide) (Nat.le_of_ble_eq_true rfl) (Nat.zero_add _) (Nat.zero_add _) dX12_leaves_21 (fun zh3 zq3 => ?_)
    have W := zq3
    refine xr_al0 dX12_leaves_24 ?_
    refine xr_get W.o fX12_9 rfl dX12_leaves_25 ?_
    refine xr_il1 dX12_leaves_28 ?_
    refine xr_ic1 dX12_leaves_29 ?_
    refine xr_il2 dX12_leaves_30 ?_
    refine xr_ishl dX12_leaves_31 ?_
    refine xr_Sv3 (s_mOut W.a1 ok hs _) kX12_221 (by decide) (Nat.le_of_ble_eq_true rfl) (Nat.zero_add _) (Nat.zero_add _) dX12_leaves_32 ?_
    refine xT.nm (fun zh4 zg4 => ?_)
    have W := W.p1 zg4
    refine xr_al0 dX12_leaves_35 ?_
    refine xr_get W.o fX12_9 rfl dX12_leaves_36 ?_
    refine xr_bipush (v := 10) dX12_leaves_39 (by decide) ?_
    refine xr_il1 dX12_leaves_41 ?_
    refine xr_iadd dX12_leaves_42 ?_
    refine xr_eqi (y := nI (10 + s)) (nI_add 10 s) ?_
    refine xr_iald W.a1 (xix_nI (n := 19) (j := 10 + s) (by omega) (by decide)) dX12_leaves_43 ?_
    refine xr_iret dX12_leaves_44 rfl ?_
    refine ⟨_, rfl, Or.inr ⟨zc11, ?_, ?_⟩⟩
    · rw [nI_clamp (by omega)]
      rfl
    · rw [nI_clamp (by omega)]
      exact W
  · skip
    refine xr_icm1 dX12_leaves_14 ?_
    refine xr_iret dX12_leaves_15 rfl ?_
    exact ⟨_, rfl, Or.inl ⟨zc11, rfl, W⟩⟩
set_option maxRecDepth 20000 in
theorem s_mSwaps {K : xK} {B : Nat} {l : Launch} {h0 h : xH} {Y : Nat} {m : Nat → Int32} {rd : Value} {ru ot : Nat} {u : Nat → Nat → Int32} {v : Nat → Int64} (W : xMw K h0 h Y m rd ru ot u v) {n : Nat} (hn : m 19 = nI n) (h12 : n ≤ 12) (ok : hOk (u 1)) (x y : Int32) : xV K B l 3 mX12_swaps 0 0 (Y) [.int x, .int y] h (xPi (fun zr g => (mRW (u 1) x y < 0 ∧ zr = mRW (u 1) x y ∧ xMw K h0 g Y (upd m 5 0) rd ru ot u v) ∨ (¬ mRW (u 1) x y < 0 ∧ zr = u 1 ((5 * x.toNatClampNeg + y.toNatClampNeg) + 1) ∧ xMw K h0 g Y (upd (upd m 5 0) 19 (nI (psn n))) rd ru ot (uu (uu u 9 (mUn (u 9) (u 1) n)) 1 (upd (upd (u 1) (5 * x.toNatClampNeg + y.toNatClampNeg) (u 1 ((5 * x.toNatClampNeg + y.toNatClampNeg) + 1))) ((5 * x.toNatClampNeg + y.toNatClampNeg) + 1) (u 1 (5 * x.toNatClampNeg + y.toNatClampNeg)))) v))) := by
  refine ⟨⟨_, _, _, _, W.o, rfl⟩, qX12_swaps, ?_⟩
  refine xS.intro RX12 false ⟨rfl, rfl, by decide, by decide, Nat.le_of_ble_eq_true rfl⟩ (ls := [some (.ref Y), some (.int x), some (.int y), none]) rfl ?_
  refine xr_al0 dX12_swaps_0 ?_
  refine xr_ic0 dX12_swaps_1 ?_
  refine xr_put W.o fX12_82 (Nat.le_of_ble_eq_true rfl) rfl rfl dX12_swaps_2 ?_
  refine xT.nm (fun zh1 zg1 => ?_)
  have W := W.f5 zg1
  refine xr_al0 dX12_swaps_5 ?_
  refine xr_il1 dX12_swaps_6 ?_
  refine xr_il2 dX12_swaps_7 ?_
  refine xr_Vpi2 (s_mRW W _ _) kX12_285 (by decide) (Nat.le_of_ble_eq_true rfl) (Nat.zero_add _) (Nat.zero_add _) dX12_swaps_8 (fun zv8 zh2 zq2 => ?_)
  obtain ⟨rfl, W⟩ := zq2
  refine xr_is3 dX12_swaps_11 (by decide) rfl ?_
  refine xr_il3 dX12_swaps_12 ?_
  refine xr_ifge (tgt := 18) dX12_swaps_13 (by decide) (fun zc13 => ?_) (fun zc13 => ?_)
  · skip
    have zp : ¬ mPar (u 1) x y = 0 := fun q => absurd zc13 (Int32.not_le.mpr (by unfold mRW; rw [if_pos q]; decide))
    obtain ⟨s, j, hs, hj, rfl, rfl⟩ := mPar_sk ok zp
    have l5 := (hOk_at ok hs).2
    refine xr_al0 dX12_swaps_18 ?_
    refine xr_al0 dX12_swaps_19 ?_
    refine xr_get W.o fX12_9 rfl dX12_swaps_20 ?_
    refine xr_Vpv1 (s_mRemN W (n := n) (show upd m 5 0 19 = nI n from hn) h12) kX12_260 (by decide) (Nat.le_of_ble_eq_true rfl) (Nat.zero_add _) (Nat.zero_add _) dX12_swaps_23 (fun zh3 zq3 => ?_)
    have W := zq3
    refine xr_al0 dX12_swaps_26 ?_
    refine xr_get W.o fX12_9 rfl dX12_swaps_27 ?_
    refine xr_ic5 dX12_swaps_30 ?_
    refine xr_il1 dX12_swaps_31 ?_
    refine xr_imul dX12_swaps_32 ?_
    refine xr_eqi (y := nI (5 * s)) (pk_mul 5 s) ?_
    refine xr_il2 dX12_swaps_33 ?_
    refine xr_iadd dX12_swaps_34 ?_
    refine xr_eqi (y := nI (5 * s + j)) (nI_add _ _) ?_
    refine xr_ic5 dX12_swaps_35 ?_
    refine xr_il1 dX12_swaps_36 ?_
    refine xr_imul dX12_swaps_37 ?_
    refine xr_eqi (y := nI (5 * s)) (pk_mul 5 s) ?_
    refine xr_il2 dX12_swaps_38 ?_
    refine xr_iadd dX12_swaps_39 ?_
    refine xr_eqi (y := nI (5 * s + j)) (nI_add _ _) ?_
    refine xr_ic1 dX12_swaps_40 ?_
    refine xr_iadd dX12_swaps_41 ?_
    refine xr_eqi (y := nI (5 * s + j + 1)) (nI_1 _) ?_
    refine xr_Sv3 (s_mChange W.a1 (i := 5 * s + j) (j := 5 * s + j + 1) (by omega) (by omega)) kX12_288 (by decide) (Nat.le_of_ble_eq_true rfl) (Nat.zero_add _) (Nat.zero_add _) dX12_swaps_42 ?_
    refine xT.nm (fun zh4 zg4 => ?_)
    have W := W.p1 zg4
    refine xr_al0 dX12_swaps_45 ?_
    refine xr_get W.o fX12_9 rfl dX12_swaps_46 ?_
    refine xr_ic5 dX12_swaps_49 ?_
    refine xr_il1 dX12_swaps_50 ?_
    refine xr_imul dX12_swaps_51 ?_
    refine xr_eqi (y := nI (5 * s)) (pk_mul 5 s) ?_
    refine xr_il2 dX12_swaps_52 ?_
    refine xr_iadd dX12_swaps_53 ?_
    refine xr_eqi (y := nI (5 * s + j)) (nI_add _ _) ?_
    refine xr_iald W.a1 (xix_nI (n := 19) (j := 5 * s + j) (by omega) (by decide)) dX12_swaps_54 ?_
    refine xr_eqi (y := u 1 (5 * s + j + 1)) (by rw [uu_at, upd_hi _ _ (by omega), pk_us]; rfl) ?_
    refine xr_iret dX12_swaps_55 rfl ?_
    refine ⟨_, rfl, Or.inr ⟨Int32.not_lt.mpr zc13, ?_, ?_⟩⟩
    · rw [nI_clamp (by omega), nI_clamp (by omega)]
    · rw [nI_clamp (by omega), nI_clamp (by omega)]
      exact W
  · skip
    refine xr_il3 dX12_swaps_16 ?_
    refine xr_iret dX12_swaps_17 rfl ?_
    exact ⟨_, rfl, Or.inl ⟨Int32.not_le.mp zc13, rfl, W⟩⟩
set_option maxRecDepth 20000 in
theorem s_mDraw {K : xK} {B : Nat} {l : Launch} {h0 h : xH} {Y : Nat} {m : Nat → Int32} {rd : Value} {ru ot : Nat} {u : Nat → Nat → Int32} {v : Nat → Int64} (W : xMw K h0 h Y m rd ru ot u v) {x : Int32} (hx : ¬ x = 0) : xV K B l 0 mX12_draw 0 0 (Y) [.int x] h (xPi (fun zr g => zr = drN (dr (m 37)) x ∧ xMw K h0 g Y (upd m 37 (dr (m 37))) rd ru ot u v)) := by
  refine ⟨⟨_, _, _, _, W.o, rfl⟩, qX12_draw, ?_⟩
  refine xS.intro RX12 false ⟨rfl, rfl, by decide, by decide, Nat.le_of_ble_eq_true rfl⟩ (ls := [some (.ref Y), some (.int x)]) rfl ?_
  refine xr_al0 dX12_draw_0 ?_
  refine xr_al0 dX12_draw_1 ?_
  refine xr_get W.o fX12_374 rfl dX12_draw_2 ?_
  refine xr_ldcw nX12_377 dX12_draw_5 ?_
  refine xr_imul dX12_draw_8 ?_
  refine xr_sipush (v := 12345) dX12_draw_9 (by decide) ?_
  refine xr_iadd dX12_draw_12 ?_
  refine xr_put W.o fX12_374 (Nat.le_of_ble_eq_true rfl) rfl rfl dX12_draw_13 ?_
  refine xT.nm (fun zh1 zg1 => ?_)
  have W := W.f37 zg1
  refine xr_al0 dX12_draw_16 ?_
  refine xr_get W.o fX12_374 rfl dX12_draw_17 ?_
  refine xr_eqi (y := dr (m 37)) rfl ?_
  refine xr_bipush (v := 16) dX12_draw_20 (by decide) ?_
  refine xr_iushr dX12_draw_22 ?_
  refine xr_il1 dX12_draw_23 ?_
  refine xr_irem dX12_draw_24 hx ?_
  refine xr_iret dX12_draw_25 rfl ?_
  exact ⟨_, rfl, rfl, W⟩
