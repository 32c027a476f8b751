/-! The model's reader (written by wip/whole/mod34.py) -/
def rdm (m : xs) (p : Nat) (w : Int32) : xs := upd (upd m 9 (nI p)) 10 w
def rQ (m : xs) (q L T : Nat) : Prop := m 7 = nI L ∧ m 8 = nI T ∧ L ≤ 80 ∧ ((q = 2 ∧ T ≤ 80) ∨ ((q = 6 ∨ q = 7) ∧ T ≤ 40))
def nQ (q : Nat) : Nat := if q = 2 then 80 else 40
theorem rdm_p (m : xs) (p p' : Nat) (w : Int32) : upd (rdm m p w) 9 (nI p') = rdm m p' w := by
  unfold rdm
  rw [upd_cm _ _ _ (by decide), upd_upd]
theorem rdm_w (m : xs) (p : Nat) (w x : Int32) : upd (rdm m p w) 10 x = rdm m p x := upd_upd _ _ _ _
theorem r_cell {K : xK} {h0 h : xH} {Y : Nat} {m : Nat → Int32} {ru ot q L T p : Nat} {w : Int32} {u : Nat → Nat → Int32} {v : Nat → Int64} (Z : rQ m q L T) (W : xMw K h0 h Y (rdm m p w) (.ref (Y + q)) ru ot u v) : h.2 (Y + q) = some (bA K (nQ q) (u q)) := by
  obtain ⟨-, -, -, ⟨rfl, -⟩ | ⟨rfl | rfl, -⟩⟩ := Z
  · exact W.a2
  · exact W.a6
  · exact W.a7
theorem r_in {m : xs} {q L T p : Nat} (Z : rQ m q L T) (h1 : p < L) (h2 : p < T) : p < nQ q := by
  obtain ⟨-, -, -, ⟨rfl, z⟩ | ⟨rfl | rfl, z⟩⟩ := Z
  · show p < 80
    omega
  · show p < 40
    omega
  · show p < 40
    omega
theorem nQ_b (q : Nat) : nQ q < 2 ^ 31 := by
  unfold nQ
  split <;> decide
theorem r_here {K : xK} {B : Nat} {l : Launch} {h0 h : xH} {Y : Nat} {m : Nat → Int32} {ru ot q L T p : Nat} {w : Int32} {u : Nat → Nat → Int32} {v : Nat → Int64} (Z : rQ m q L T) (bp : p ≤ 80) (W : xMw K h0 h Y (rdm m p w) (.ref (Y + q)) ru ot u v) : xV K B l 0 mX12_here 0 0 Y [] h (xPi (fun zr g => zr = hrV (u q) p L T ∧ xMw K h0 g Y (rdm m p w) (.ref (Y + q)) ru ot u v)) := by
  obtain ⟨h7, h8, hL, z⟩ := Z
  have bT : T < 2 ^ 31 := by omega
  rcases z with ⟨rfl, z⟩ | ⟨rfl | rfl, z⟩
  · exact s_mHere2 (rd := .null) W rfl h7 h8 (by omega) (by omega) bT (Or.inr (by omega))
  · exact s_mHere6 (rd := .null) W rfl h7 h8 (by omega) (by omega) bT (Or.inr z)
  · exact s_mHere7 (rd := .null) W rfl h7 h8 (by omega) (by omega) bT (Or.inr z)
theorem r_fine {K : xK} {B : Nat} {l : Launch} {h0 h : xH} {Y : Nat} {m : Nat → Int32} {ru ot q p : Nat} {w : Int32} {u : Nat → Nat → Int32} {v : Nat → Int64} (W : xMw K h0 h Y (rdm m p w) (.ref (Y + q)) ru ot u v) : xV K B l 0 mX12_fine 0 0 Y [] h (xPi (fun zr g => zr = bI (w = -1) ∧ xMw K h0 g Y (rdm m p w) (.ref (Y + q)) ru ot u v)) := s_mFine W
theorem r_fault {K : xK} {B : Nat} {l : Launch} {h0 h : xH} {Y : Nat} {m : Nat → Int32} {ru ot q p : Nat} {w : Int32} {u : Nat → Nat → Int32} {v : Nat → Int64} (W : xMw K h0 h Y (rdm m p w) (.ref (Y + q)) ru ot u v) (x : Int32) : xV K B l 1 mX12_fault 0 0 Y [.int x] h (xPv (fun g => xMw K h0 g Y (rdm m p (if w = -1 then x else w)) (.ref (Y + q)) ru ot u v)) := by
  refine (s_mFault W x).post (fun r g y => ?_)
  obtain ⟨rfl, y⟩ := y
  refine ⟨rfl, ?_⟩
  have e : (rdm m p w) 10 = w := rfl
  rw [e] at y
  by_cases c : w = -1
  · rw [if_pos c] at y ⊢
    rw [rdm_w] at y
    exact y
  · rw [if_neg c] at y ⊢
    exact y
set_option maxRecDepth 20000 in
theorem r_passes {K : xK} {B : Nat} {l : Launch} {h0 h : xH} {Y : Nat} {m : Nat → Int32} {ru ot q L T p : Nat} {w : Int32} {u : Nat → Nat → Int32} {v : Nat → Int64} (Z : rQ m q L T) (bp : p ≤ 80) (W : xMw K h0 h Y (rdm m p w) (.ref (Y + q)) ru ot u v) (c : Int32) : xV K B l 1 mX12_passes 0 0 (Y) [.int c] h (xPi (fun zr g => ((w = -1 ∧ hrV (u q) p L T = c) ∧ zr = 1 ∧ xMw K h0 g Y (rdm m (p + 1) w) (.ref (Y + q)) ru ot u v) ∨ (¬ (w = -1 ∧ hrV (u q) p L T = c) ∧ zr = 0 ∧ xMw K h0 g Y (rdm m p w) (.ref (Y + q)) ru ot u v))) := by
  refine ⟨⟨_, _, _, _, W.o, rfl⟩, qX12_passes, ?_⟩
  refine xS.intro RX12 false ⟨rfl, rfl, by decide, by decide, Nat.le_of_ble_eq_true rfl⟩ (ls := [some (.ref Y), some (.int c)]) rfl ?_
  refine xr_al0 dX12_passes_0 ?_
  refine xr_Vpi0 (r_fine W) kX12_115 (by decide) (Nat.le_of_ble_eq_true rfl) (Nat.zero_add _) (Nat.zero_add _) dX12_passes_1 (fun zv1 zh1 zq1 => ?_)
  obtain ⟨rfl, W⟩ := zq1
  refine xr_ifeq (tgt := 15) dX12_passes_4 (by decide) (fun zc4 => ?_) (fun zc4 => ?_)
  · skip
    refine xr_ic0 dX12_passes_15 ?_
    refine xr_zret dX12_passes_16 rfl (by first | rfl | decide | assumption) ?_
    exact ⟨_, rfl, Or.inr ⟨fun y => (bI_0.mp zc4) y.1, rfl, W⟩⟩
  · skip
    refine xr_al0 dX12_passes_7 ?_
    refine xr_Vpi0 (r_here Z bp W) kX12_119 (by decide) (Nat.le_of_ble_eq_true rfl) (Nat.zero_add _) (Nat.zero_add _) dX12_passes_8 (fun zv8 zh2 zq2 => ?_)
    obtain ⟨rfl, W⟩ := zq2
    refine xr_il1 dX12_passes_11 ?_
    refine xr_icmpeq (tgt := 17) dX12_passes_12 (by decide) (fun zc12 => ?_) (fun zc12 => ?_)
    · skip
      refine xr_al0 dX12_passes_17 ?_
      refine xr_dup dX12_passes_18 rfl ?_
      refine xr_get W.o fX12_105 rfl dX12_passes_19 ?_
      refine xr_eqi (y := nI p) rfl ?_
      refine xr_ic1 dX12_passes_22 ?_
      refine xr_iadd dX12_passes_23 ?_
      refine xr_eqi (y := nI (p + 1)) (nI_1 p) ?_
      refine xr_put W.o fX12_105 (Nat.le_of_ble_eq_true rfl) rfl rfl dX12_passes_24 ?_
      refine xT.nm (fun zh3 zg3 => ?_)
      have W := W.f9 zg3
      rw [rdm_p] at W
      refine xr_ic1 dX12_passes_27 ?_
      refine xr_zret dX12_passes_28 rfl (by first | rfl | decide | assumption) ?_
      exact ⟨_, rfl, Or.inl ⟨⟨(Decidable.not_not.mp (fun q => zc4 (bI_0.mpr q))), zc12⟩, rfl, W⟩⟩
    · skip
      refine xr_ic0 dX12_passes_15 ?_
      refine xr_zret dX12_passes_16 rfl (by first | rfl | decide | assumption) ?_
      exact ⟨_, rfl, Or.inr ⟨fun y => zc12 y.2, rfl, W⟩⟩
set_option maxRecDepth 20000 in
theorem r_need {K : xK} {B : Nat} {l : Launch} {h0 h : xH} {Y : Nat} {m : Nat → Int32} {ru ot q L T p : Nat} {w : Int32} {u : Nat → Nat → Int32} {v : Nat → Int64} (Z : rQ m q L T) (bp : p ≤ 80) (W : xMw K h0 h Y (rdm m p w) (.ref (Y + q)) ru ot u v) (c : Int32) : xV K B l 2 mX12_need 0 0 (Y) [.int c] h (xPv (fun g => ((w = -1 ∧ hrV (u q) p L T = c) ∧ xMw K h0 g Y (rdm m (p + 1) w) (.ref (Y + q)) ru ot u v) ∨ (¬ (w = -1 ∧ hrV (u q) p L T = c) ∧ xMw K h0 g Y (rdm m p (if w = -1 then nI p else w)) (.ref (Y + q)) ru ot u v))) := by
  refine ⟨⟨_, _, _, _, W.o, rfl⟩, qX12_need, ?_⟩
  refine xS.intro RX12 false ⟨rfl, rfl, by decide, by decide, Nat.le_of_ble_eq_true rfl⟩ (ls := [some (.ref Y), some (.int c)]) rfl ?_
  refine xr_al0 dX12_need_0 ?_
  refine xr_il1 dX12_need_1 ?_
  refine xr_Vpi1 (r_passes Z bp W _) kX12_123 (by decide) (Nat.le_of_ble_eq_true rfl) (Nat.zero_add _) (Nat.zero_add _) dX12_need_2 (fun zv2 zh1 zq1 => ?_)
  rcases zq1 with ⟨y1, rfl, W⟩ | ⟨y1, rfl, W⟩
  · refine xr_ifne (tgt := 16) dX12_need_5 (by decide) (fun zc5 => ?_) (fun zc5 => absurd zc5 (by decide))
    refine xr_vret dX12_need_16 rfl ?_
    exact ⟨rfl, Or.inl ⟨y1, W⟩⟩
  refine xr_ifne (tgt := 16) dX12_need_5 (by decide) (fun zc5 => ?_) (fun zc5 => ?_)
  · skip
    exact absurd rfl zc5
  · skip
    refine xr_al0 dX12_need_8 ?_
    refine xr_al0 dX12_need_9 ?_
    refine xr_get W.o fX12_105 rfl dX12_need_10 ?_
    refine xr_eqi (y := nI p) rfl ?_
    refine xr_Vpv1 (r_fault W _) kX12_127 (by decide) (Nat.le_of_ble_eq_true rfl) (Nat.zero_add _) (Nat.zero_add _) dX12_need_13 (fun zh2 zq2 => ?_)
    have W := zq2
    refine xr_vret dX12_need_16 rfl ?_
    exact ⟨rfl, Or.inr ⟨y1, W⟩⟩
theorem r_val {m : xs} {q L T p : Nat} {x : xs} (hby : ∀ j, j < L → byt (x j)) {a b : Nat} (h1 : 1 ≤ b) (ab : a + b ≤ 128) (c : ¬ mIn (hrV x p L T) (nI a) (nI a + nI b - 1) = 0) : p < L ∧ p < T ∧ x p = hrV x p L T := by
  obtain ⟨y1, y2⟩ := mIn_y c
  unfold hrV at *
  by_cases d : p < L ∧ p < T
  · rw [if_pos d] at *
    refine ⟨d.1, d.2, ?_⟩
    rw [nI_add, show nI (a + b) - 1 = nI (a + b - 1) from nI_sub (a := a + b) (b := 1) (by omega)] at y2
    obtain ⟨j, hj, e⟩ := nI_of (x := x p &&& 255) (fun z => y1 (Int32.lt_of_lt_of_le z (nI_pos' (by omega))))
    rw [e] at y2
    have jl : ¬ a + b - 1 < j := fun z => y2 (nI_lt z hj)
    rw [byt_n (hby p d.1) (c := j) (by omega) e]
    rw [pk_andN (m := 255) (by omega) 8 rfl, Nat.mod_eq_of_lt (by omega)]
  · rw [if_neg d] at y1
    exact absurd (Int32.lt_of_lt_of_le (by decide) (nI_pos' (n := a) (by omega))) y1
set_option maxRecDepth 20000 in
theorem r_one {K : xK} {B : Nat} {l : Launch} {h0 h : xH} {Y : Nat} {m : Nat → Int32} {ru ot q L T p : Nat} {w : Int32} {u : Nat → Nat → Int32} {v : Nat → Int64} (Z : rQ m q L T) (bp : p ≤ 80) (W : xMw K h0 h Y (rdm m p w) (.ref (Y + q)) ru ot u v) (hby : ∀ j, j < L → byt (u q j)) {a b : Nat} (h1 : 1 ≤ b) (ab : a + b ≤ 128) : xV K B l 2 mX12_oneOf 0 0 (Y) [.int (nI a), .int (nI b)] h (xPi (fun zr g => (¬ w = -1 ∧ zr = 0 ∧ xMw K h0 g Y (rdm m p w) (.ref (Y + q)) ru ot u v) ∨ (w = -1 ∧ ¬ (¬ mIn (hrV (u q) p L T) (nI a) (nI a + nI b - 1) = 0) ∧ zr = 0 ∧ xMw K h0 g Y (rdm m p (nI p)) (.ref (Y + q)) ru ot u v) ∨ (w = -1 ∧ (¬ mIn (hrV (u q) p L T) (nI a) (nI a + nI b - 1) = 0) ∧ zr = hrV (u q) p L T - nI a ∧ xMw K h0 g Y (rdm m (p + 1) w) (.ref (Y + q)) ru ot u v))) := by
  refine ⟨⟨_, _, _, _, W.o, rfl⟩, qX12_oneOf, ?_⟩
  refine xS.intro RX12 false ⟨rfl, rfl, by decide, by decide, Nat.le_of_ble_eq_true rfl⟩ (ls := [some (.ref Y), some (.int (nI a)), some (.int (nI b))]) rfl ?_
  refine xr_al0 dX12_oneOf_0 ?_
  refine xr_Vpi0 (r_fine W) kX12_115 (by decide) (Nat.le_of_ble_eq_true rfl) (Nat.zero_add _) (Nat.zero_add _) dX12_oneOf_1 (fun zv1 zh1 zq1 => ?_)
  obtain ⟨rfl, W⟩ := zq1
  refine xr_ifne (tgt := 9) dX12_oneOf_4 (by decide) (fun zc4 => ?_) (fun zc4 => ?_)
  · skip
    refine xr_al0 dX12_oneOf_9 ?_
    refine xr_Vpi0 (r_here Z bp W) kX12_119 (by decide) (Nat.le_of_ble_eq_true rfl) (Nat.zero_add _) (Nat.zero_add _) dX12_oneOf_10 (fun zv10 zh2 zq2 => ?_)
    obtain ⟨rfl, W⟩ := zq2
    refine xr_il1 dX12_oneOf_13 ?_
    refine xr_il1 dX12_oneOf_14 ?_
    refine xr_il2 dX12_oneOf_15 ?_
    refine xr_iadd dX12_oneOf_16 ?_
    refine xr_ic1 dX12_oneOf_17 ?_
    refine xr_isub dX12_oneOf_18 ?_
    refine xr_Si3 (s_mIn _ _ _) kX12_89 (by decide) (Nat.le_of_ble_eq_true rfl) (Nat.zero_add _) (Nat.zero_add _) dX12_oneOf_19 ?_
    refine xr_ifne (tgt := 35) dX12_oneOf_22 (by decide) (fun zc22 => ?_) (fun zc22 => ?_)
    · skip
      have rv := r_val (m := m) (q := q) hby h1 ab zc22
      refine xr_al0 dX12_oneOf_35 ?_
      refine xr_dup dX12_oneOf_36 rfl ?_
      refine xr_get W.o fX12_105 rfl dX12_oneOf_37 ?_
      refine xr_eqi (y := nI p) rfl ?_
      refine xr_ic1 dX12_oneOf_40 ?_
      refine xr_iadd dX12_oneOf_41 ?_
      refine xr_eqi (y := nI (p + 1)) (nI_1 p) ?_
      refine xr_put W.o fX12_105 (Nat.le_of_ble_eq_true rfl) rfl rfl dX12_oneOf_42 ?_
      refine xT.nm (fun zh3 zg3 => ?_)
      have W := W.f9 zg3
      rw [rdm_p] at W
      refine xr_al0 dX12_oneOf_45 ?_
      refine xr_get W.o fX12_96 rfl dX12_oneOf_46 ?_
      refine xr_al0 dX12_oneOf_49 ?_
      refine xr_get W.o fX12_105 rfl dX12_oneOf_50 ?_
      refine xr_eqi (y := nI (p + 1)) rfl ?_
      refine xr_ic1 dX12_oneOf_53 ?_
      refine xr_isub dX12_oneOf_54 ?_
      refine xr_eqi (y := nI p) (nI_pred p) ?_
      refine xr_bald (r_cell Z W) (xix_nI (n := nQ q) (j := p) (r_in Z rv.1 rv.2.1) (nQ_b q)) dX12_oneOf_55 ?_
      refine xr_eqi (y := hrV (u q) p L T) rv.2.2 ?_
      refine xr_il1 dX12_oneOf_56 ?_
      refine xr_isub dX12_oneOf_57 ?_
      refine xr_iret dX12_oneOf_58 rfl ?_
      exact ⟨_, rfl, Or.inr (Or.inr ⟨(Decidable.not_not.mp (fun q => zc4 (bI_0.mpr q))), zc22, rfl, W⟩)⟩
    · skip
      refine xr_al0 dX12_oneOf_25 ?_
      refine xr_al0 dX12_oneOf_26 ?_
      refine xr_get W.o fX12_105 rfl dX12_oneOf_27 ?_
      refine xr_eqi (y := nI p) rfl ?_
      refine xr_Vpv1 (r_fault W _) kX12_127 (by decide) (Nat.le_of_ble_eq_true rfl) (Nat.zero_add _) (Nat.zero_add _) dX12_oneOf_30 (fun zh3 zq3 => ?_)
      have W := zq3
      refine xr_ic0 dX12_oneOf_33 ?_
      refine xr_iret dX12_oneOf_34 rfl ?_
      rw [if_pos (Decidable.not_not.mp (fun q => zc4 (bI_0.mpr q)))] at W
      exact ⟨_, rfl, Or.inr (Or.inl ⟨(Decidable.not_not.mp (fun q => zc4 (bI_0.mpr q))), fun y => y zc22, rfl, W⟩)⟩
  · skip
    refine xr_ic0 dX12_oneOf_7 ?_
    refine xr_iret dX12_oneOf_8 rfl ?_
    exact ⟨_, rfl, Or.inl ⟨bI_0.mp zc4, rfl, W⟩⟩
theorem r_right {K : xK} {B : Nat} {l : Launch} {h0 h : xH} {Y : Nat} {m : Nat → Int32} {ru ot q L T p : Nat} {w : Int32} {u : Nat → Nat → Int32} {v : Nat → Int64} (Z : rQ m q L T) (bp : p ≤ 80) (W : xMw K h0 h Y (rdm m p w) (.ref (Y + q)) ru ot u v) : xV K B l 2 mX12_wasRight 0 0 Y [] h (xPi (fun zr g => zr = bI ((if p < L then (if w = -1 then nI p else w) else w) = -1) ∧ xMw K h0 g Y (rdm m p (if p < L then (if w = -1 then nI p else w) else w)) (.ref (Y + q)) ru ot u v)) := by
  obtain ⟨h7, h8, hL, z⟩ := Z
  refine (s_mWasRight W).post (fun r g y => ?_)
  obtain ⟨zv, rfl, y1, y2⟩ := y
  have e9 : (rdm m p w) 9 = nI p := rfl
  have e7 : (rdm m p w) 7 = nI L := h7
  have e10 : (rdm m p w) 10 = w := rfl
  rw [e9, e7, e10] at y1 y2
  have k : (nI p < nI L) ↔ p < L := nI_ltI (by omega) (by omega)
  refine ⟨_, rfl, ?_, ?_⟩
  · rw [y1]
    by_cases c : p < L
    · rw [if_pos c, if_pos (k.mpr c)]
      by_cases c2 : w = -1
      · rw [if_pos c2, if_pos c2]
        rfl
      · rw [if_neg c2, if_neg c2]
        rfl
    · rw [if_neg c, if_neg (fun y => c (k.mp y))]
      rfl
  · by_cases c : p < L
    · rw [if_pos c]
      rw [if_pos (k.mpr c)] at y2
      by_cases c2 : w = -1
      · rw [if_pos c2] at y2 ⊢
        rw [rdm_w] at y2
        exact y2
      · rw [if_neg c2] at y2 ⊢
        exact y2
    · rw [if_neg c]
      rw [if_neg (fun y => c (k.mp y))] at y2
      exact y2
