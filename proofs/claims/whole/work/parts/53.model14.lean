/-! The model: beginning to read (written by wip/whole/mod14.py) -/
set_option maxRecDepth 20000 in
theorem s_mBegin {K : xK} {B : Nat} {l : Launch} {h0 h : xH} {Y : Nat} {m : Nat → Int32} {rd : Value} {ru ot : Nat} {u : Nat → Nat → Int32} {v : Nat → Int64} (W : xMw K h0 h Y m rd ru ot u v) (x : Nat) (a b : Int32) : xV K B l 0 mX12_begin 0 0 (Y) [.ref x, .int a, .int b] h (xPv (fun g => xMw K h0 g Y (upd (upd (upd (upd m 7 a) 8 b) 9 0) 10 (-1)) (.ref x) ru ot u v)) := by
  refine ⟨⟨_, _, _, _, W.o, rfl⟩, qX12_begin, ?_⟩
  refine xS.intro RX12 false ⟨rfl, rfl, by decide, by decide, Nat.le_of_ble_eq_true rfl⟩ (ls := [some (.ref Y), some (.ref x), some (.int a), some (.int b)]) rfl ?_
  refine xr_al0 dX12_begin_0 ?_
  refine xr_al1 dX12_begin_1 ?_
  refine xr_put W.o fX12_96 (Nat.le_of_ble_eq_true rfl) rfl rfl dX12_begin_2 ?_
  refine xT.nm (fun zh1 zg1 => ?_)
  have W := W.fread zg1
  refine xr_al0 dX12_begin_5 ?_
  refine xr_il2 dX12_begin_6 ?_
  refine xr_put W.o fX12_99 (Nat.le_of_ble_eq_true rfl) rfl rfl dX12_begin_7 ?_
  refine xT.nm (fun zh2 zg2 => ?_)
  have W := W.f7 zg2
  refine xr_al0 dX12_begin_10 ?_
  refine xr_il3 dX12_begin_11 ?_
  refine xr_put W.o fX12_102 (Nat.le_of_ble_eq_true rfl) rfl rfl dX12_begin_12 ?_
  refine xT.nm (fun zh3 zg3 => ?_)
  have W := W.f8 zg3
  refine xr_al0 dX12_begin_15 ?_
  refine xr_ic0 dX12_begin_16 ?_
  refine xr_put W.o fX12_105 (Nat.le_of_ble_eq_true rfl) rfl rfl dX12_begin_17 ?_
  refine xT.nm (fun zh4 zg4 => ?_)
  have W := W.f9 zg4
  refine xr_al0 dX12_begin_20 ?_
  refine xr_icm1 dX12_begin_21 ?_
  refine xr_put W.o fX12_108 (Nat.le_of_ble_eq_true rfl) rfl rfl dX12_begin_22 ?_
  refine xT.nm (fun zh5 zg5 => ?_)
  have W := W.f10 zg5
  refine xr_vret dX12_begin_25 rfl ?_
  exact ⟨rfl, W⟩
set_option maxRecDepth 20000 in
theorem s_mBeginText {K : xK} {B : Nat} {l : Launch} {h0 h : xH} {Y : Nat} {m : Nat → Int32} {rd : Value} {ru ot : Nat} {u : Nat → Nat → Int32} {v : Nat → Int64} (W : xMw K h0 h Y m rd ru ot u v) (b : Int32) : xV K B l 1 mX12_beginText 0 0 (Y) [.int b] h (xPv (fun g => xMw K h0 g Y (upd (upd (upd (upd (upd m 7 (m 2)) 8 b) 9 0) 10 (-1)) 2 0) (.ref (Y + 2)) ru ot u v)) := by
  refine ⟨⟨_, _, _, _, W.o, rfl⟩, qX12_beginText, ?_⟩
  refine xS.intro RX12 false ⟨rfl, rfl, by decide, by decide, Nat.le_of_ble_eq_true rfl⟩ (ls := [some (.ref Y), some (.int b)]) rfl ?_
  refine xr_al0 dX12_beginText_0 ?_
  refine xr_al0 dX12_beginText_1 ?_
  refine xr_get W.o fX12_13 rfl dX12_beginText_2 ?_
  refine xr_al0 dX12_beginText_5 ?_
  refine xr_get W.o fX12_93 rfl dX12_beginText_6 ?_
  refine xr_il1 dX12_beginText_9 ?_
  refine xr_Vpv3 (s_mBegin W _ _ _) kX12_111 (by decide) (Nat.le_of_ble_eq_true rfl) (Nat.zero_add _) (Nat.zero_add _) dX12_beginText_10 (fun zh1 zq1 => ?_)
  have W := zq1
  refine xr_al0 dX12_beginText_13 ?_
  refine xr_ic0 dX12_beginText_14 ?_
  refine xr_put W.o fX12_93 (Nat.le_of_ble_eq_true rfl) rfl rfl dX12_beginText_15 ?_
  refine xT.nm (fun zh2 zg2 => ?_)
  have W := W.f2 zg2
  refine xr_vret dX12_beginText_18 rfl ?_
  exact ⟨rfl, W⟩
set_option maxRecDepth 20000 in
theorem s_mWasRight {K : xK} {B : Nat} {l : Launch} {h0 h : xH} {Y : Nat} {m : Nat → Int32} {rd : Value} {ru ot : Nat} {u : Nat → Nat → Int32} {v : Nat → Int64} (W : xMw K h0 h Y m rd ru ot u v) : xV K B l 2 mX12_wasRight 0 0 (Y) [] h (xPi (fun zr g => zr = bI ((if m 9 < m 7 then (if m 10 = -1 then upd m 10 (m 9) else m) else m) 10 = -1) ∧ xMw K h0 g Y (if m 9 < m 7 then (if m 10 = -1 then upd m 10 (m 9) else m) else m) rd ru ot u v)) := by
  refine ⟨⟨_, _, _, _, W.o, rfl⟩, qX12_wasRight, ?_⟩
  refine xS.intro RX12 false ⟨rfl, rfl, by decide, by decide, Nat.le_of_ble_eq_true rfl⟩ (ls := [some (.ref Y)]) rfl ?_
  refine xr_al0 dX12_wasRight_0 ?_
  refine xr_get W.o fX12_105 rfl dX12_wasRight_1 ?_
  refine xr_al0 dX12_wasRight_4 ?_
  refine xr_get W.o fX12_99 rfl dX12_wasRight_5 ?_
  refine xr_icmpge (tgt := 19) dX12_wasRight_8 (by decide) (fun zc8 => ?_) (fun zc8 => ?_)
  · skip
    refine xr_al0 dX12_wasRight_19 ?_
    refine xr_Vpi0 (s_mFine W) kX12_115 (by decide) (Nat.le_of_ble_eq_true rfl) (Nat.zero_add _) (Nat.zero_add _) dX12_wasRight_20 (fun zv20 zh1 zq1 => ?_)
    obtain ⟨rfl, W⟩ := zq1
    refine xr_zret dX12_wasRight_23 rfl (bI_n _) ?_
    refine ⟨_, rfl, ?_, ?_⟩
    · rw [if_neg (Int32.not_lt.mpr zc8)]
    · rw [if_neg (Int32.not_lt.mpr zc8)]
      exact W
  · skip
    refine xr_al0 dX12_wasRight_11 ?_
    refine xr_al0 dX12_wasRight_12 ?_
    refine xr_get W.o fX12_105 rfl dX12_wasRight_13 ?_
    refine xr_Vpv1 (s_mFault W _) kX12_127 (by decide) (Nat.le_of_ble_eq_true rfl) (Nat.zero_add _) (Nat.zero_add _) dX12_wasRight_16 (fun zh1 zq1 => ?_)
    have W := zq1
    refine xr_al0 dX12_wasRight_19 ?_
    refine xr_Vpi0 (s_mFine W) kX12_115 (by decide) (Nat.le_of_ble_eq_true rfl) (Nat.zero_add _) (Nat.zero_add _) dX12_wasRight_20 (fun zv20 zh2 zq2 => ?_)
    obtain ⟨rfl, W⟩ := zq2
    refine xr_zret dX12_wasRight_23 rfl (bI_n _) ?_
    refine ⟨_, rfl, ?_, ?_⟩
    · rw [if_pos (Int32.not_le.mp zc8)]
    · rw [if_pos (Int32.not_le.mp zc8)]
      exact W
