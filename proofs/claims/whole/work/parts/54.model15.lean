/-! The model: the sign here (written by wip/whole/mod15.py) -/
def hrV (w : xs) (p L T : Nat) : Int32 := if p < L ∧ p < T then w p &&& 255 else -1
set_option maxRecDepth 20000 in
theorem s_mHere2 {K : xK} {B : Nat} {l : Launch} {h0 h : xH} {Y : Nat} {m : Nat → Int32} {rd : Value} {ru ot : Nat} {u : Nat → Nat → Int32} {v : Nat → Int64} (W : xMw K h0 h Y m (.ref (Y + 2)) ru ot u v) {p L T : Nat} (hp : m 9 = nI p) (hL : m 7 = nI L) (hT : m 8 = nI T) (bp : p < 2 ^ 31) (bL : L < 2 ^ 31) (bT : T < 2 ^ 31) (hb : L ≤ 80 ∨ T ≤ 80) : xV K B l 0 mX12_here 0 0 (Y) [] h (xPi (fun zr g => zr = hrV (u 2) p L T ∧ xMw K h0 g Y m (.ref (Y + 2)) ru ot u v)) := by
  refine ⟨⟨_, _, _, _, W.o, rfl⟩, qX12_here, ?_⟩
  refine xS.intro RX12 false ⟨rfl, rfl, by decide, by decide, Nat.le_of_ble_eq_true rfl⟩ (ls := [some (.ref Y)]) rfl ?_
  refine xr_al0 dX12_here_0 ?_
  refine xr_get W.o fX12_105 rfl dX12_here_1 ?_
  refine xr_eqi hp ?_
  refine xr_al0 dX12_here_4 ?_
  refine xr_get W.o fX12_99 rfl dX12_here_5 ?_
  refine xr_eqi hL ?_
  refine xr_icmpge (tgt := 38) dX12_here_8 (by decide) (fun zc8 => ?_) (fun zc8 => ?_)
  · skip
    refine xr_icm1 dX12_here_38 ?_
    refine xr_iret dX12_here_39 rfl ?_
    exact ⟨_, rfl, (if_neg (fun q => absurd ((nI_leI (by omega) (by omega)).mp zc8) (by omega))).symm, W⟩
  · skip
    have pL : p < L := Nat.lt_of_not_le (fun q => zc8 (nI_le q (by omega)))
    refine xr_al0 dX12_here_11 ?_
    refine xr_get W.o fX12_105 rfl dX12_here_12 ?_
    refine xr_eqi hp ?_
    refine xr_al0 dX12_here_15 ?_
    refine xr_get W.o fX12_102 rfl dX12_here_16 ?_
    refine xr_eqi hT ?_
    refine xr_icmpge (tgt := 38) dX12_here_19 (by decide) (fun zc19 => ?_) (fun zc19 => ?_)
    · skip
      refine xr_icm1 dX12_here_38 ?_
      refine xr_iret dX12_here_39 rfl ?_
      exact ⟨_, rfl, (if_neg (fun q => absurd ((nI_leI (by omega) (by omega)).mp zc19) (by omega))).symm, W⟩
    · skip
      have pT : p < T := Nat.lt_of_not_le (fun q => zc19 (nI_le q (by omega)))
      refine xr_al0 dX12_here_22 ?_
      refine xr_get W.o fX12_96 rfl dX12_here_23 ?_
      refine xr_al0 dX12_here_26 ?_
      refine xr_get W.o fX12_105 rfl dX12_here_27 ?_
      refine xr_eqi hp ?_
      refine xr_bald W.a2 (xix_nI (n := 80) (j := p) (by omega) (by decide)) dX12_here_30 ?_
      refine xr_sipush (v := 255) dX12_here_31 (by decide) ?_
      refine xr_iand dX12_here_34 ?_
      refine xr_goto (tgt := 39) dX12_here_35 (by decide) ?_
      refine xr_iret dX12_here_39 rfl ?_
      exact ⟨_, rfl, (if_pos ⟨pL, pT⟩).symm, W⟩
set_option maxRecDepth 20000 in
theorem s_mHere6 {K : xK} {B : Nat} {l : Launch} {h0 h : xH} {Y : Nat} {m : Nat → Int32} {rd : Value} {ru ot : Nat} {u : Nat → Nat → Int32} {v : Nat → Int64} (W : xMw K h0 h Y m (.ref (Y + 6)) ru ot u v) {p L T : Nat} (hp : m 9 = nI p) (hL : m 7 = nI L) (hT : m 8 = nI T) (bp : p < 2 ^ 31) (bL : L < 2 ^ 31) (bT : T < 2 ^ 31) (hb : L ≤ 40 ∨ T ≤ 40) : xV K B l 0 mX12_here 0 0 (Y) [] h (xPi (fun zr g => zr = hrV (u 6) p L T ∧ xMw K h0 g Y m (.ref (Y + 6)) ru ot u v)) := by
  refine ⟨⟨_, _, _, _, W.o, rfl⟩, qX12_here, ?_⟩
  refine xS.intro RX12 false ⟨rfl, rfl, by decide, by decide, Nat.le_of_ble_eq_true rfl⟩ (ls := [some (.ref Y)]) rfl ?_
  refine xr_al0 dX12_here_0 ?_
  refine xr_get W.o fX12_105 rfl dX12_here_1 ?_
  refine xr_eqi hp ?_
  refine xr_al0 dX12_here_4 ?_
  refine xr_get W.o fX12_99 rfl dX12_here_5 ?_
  refine xr_eqi hL ?_
  refine xr_icmpge (tgt := 38) dX12_here_8 (by decide) (fun zc8 => ?_) (fun zc8 => ?_)
  · skip
    refine xr_icm1 dX12_here_38 ?_
    refine xr_iret dX12_here_39 rfl ?_
    exact ⟨_, rfl, (if_neg (fun q => absurd ((nI_leI (by omega) (by omega)).mp zc8) (by omega))).symm, W⟩
  · skip
    have pL : p < L := Nat.lt_of_not_le (fun q => zc8 (nI_le q (by omega)))
    refine xr_al0 dX12_here_11 ?_
    refine xr_get W.o fX12_105 rfl dX12_here_12 ?_
    refine xr_eqi hp ?_
    refine xr_al0 dX12_here_15 ?_
    refine xr_get W.o fX12_102 rfl dX12_here_16 ?_
    refine xr_eqi hT ?_
    refine xr_icmpge (tgt := 38) dX12_here_19 (by decide) (fun zc19 => ?_) (fun zc19 => ?_)
    · skip
      refine xr_icm1 dX12_here_38 ?_
      refine xr_iret dX12_here_39 rfl ?_
      exact ⟨_, rfl, (if_neg (fun q => absurd ((nI_leI (by omega) (by omega)).mp zc19) (by omega))).symm, W⟩
    · skip
      have pT : p < T := Nat.lt_of_not_le (fun q => zc19 (nI_le q (by omega)))
      refine xr_al0 dX12_here_22 ?_
      refine xr_get W.o fX12_96 rfl dX12_here_23 ?_
      refine xr_al0 dX12_here_26 ?_
      refine xr_get W.o fX12_105 rfl dX12_here_27 ?_
      refine xr_eqi hp ?_
      refine xr_bald W.a6 (xix_nI (n := 40) (j := p) (by omega) (by decide)) dX12_here_30 ?_
      refine xr_sipush (v := 255) dX12_here_31 (by decide) ?_
      refine xr_iand dX12_here_34 ?_
      refine xr_goto (tgt := 39) dX12_here_35 (by decide) ?_
      refine xr_iret dX12_here_39 rfl ?_
      exact ⟨_, rfl, (if_pos ⟨pL, pT⟩).symm, W⟩
set_option maxRecDepth 20000 in
theorem s_mHere7 {K : xK} {B : Nat} {l : Launch} {h0 h : xH} {Y : Nat} {m : Nat → Int32} {rd : Value} {ru ot : Nat} {u : Nat → Nat → Int32} {v : Nat → Int64} (W : xMw K h0 h Y m (.ref (Y + 7)) ru ot u v) {p L T : Nat} (hp : m 9 = nI p) (hL : m 7 = nI L) (hT : m 8 = nI T) (bp : p < 2 ^ 31) (bL : L < 2 ^ 31) (bT : T < 2 ^ 31) (hb : L ≤ 40 ∨ T ≤ 40) : xV K B l 0 mX12_here 0 0 (Y) [] h (xPi (fun zr g => zr = hrV (u 7) p L T ∧ xMw K h0 g Y m (.ref (Y + 7)) ru ot u v)) := by
  refine ⟨⟨_, _, _, _, W.o, rfl⟩, qX12_here, ?_⟩
  refine xS.intro RX12 false ⟨rfl, rfl, by decide, by decide, Nat.le_of_ble_eq_true rfl⟩ (ls := [some (.ref Y)]) rfl ?_
  refine xr_al0 dX12_here_0 ?_
  refine xr_get W.o fX12_105 rfl dX12_here_1 ?_
  refine xr_eqi hp ?_
  refine xr_al0 dX12_here_4 ?_
  refine xr_get W.o fX12_99 rfl dX12_here_5 ?_
  refine xr_eqi hL ?_
  refine xr_icmpge (tgt := 38) dX12_here_8 (by decide) (fun zc8 => ?_) (fun zc8 => ?_)
  · skip
    refine xr_icm1 dX12_here_38 ?_
    refine xr_iret dX12_here_39 rfl ?_
    exact ⟨_, rfl, (if_neg (fun q => absurd ((nI_leI (by omega) (by omega)).mp zc8) (by omega))).symm, W⟩
  · skip
    have pL : p < L := Nat.lt_of_not_le (fun q => zc8 (nI_le q (by omega)))
    refine xr_al0 dX12_here_11 ?_
    refine xr_get W.o fX12_105 rfl dX12_here_12 ?_
    refine xr_eqi hp ?_
    refine xr_al0 dX12_here_15 ?_
    refine xr_get W.o fX12_102 rfl dX12_here_16 ?_
    refine xr_eqi hT ?_
    refine xr_icmpge (tgt := 38) dX12_here_19 (by decide) (fun zc19 => ?_) (fun zc19 => ?_)
    · skip
      refine xr_icm1 dX12_here_38 ?_
      refine xr_iret dX12_here_39 rfl ?_
      exact ⟨_, rfl, (if_neg (fun q => absurd ((nI_leI (by omega) (by omega)).mp zc19) (by omega))).symm, W⟩
    · skip
      have pT : p < T := Nat.lt_of_not_le (fun q => zc19 (nI_le q (by omega)))
      refine xr_al0 dX12_here_22 ?_
      refine xr_get W.o fX12_96 rfl dX12_here_23 ?_
      refine xr_al0 dX12_here_26 ?_
      refine xr_get W.o fX12_105 rfl dX12_here_27 ?_
      refine xr_eqi hp ?_
      refine xr_bald W.a7 (xix_nI (n := 40) (j := p) (by omega) (by decide)) dX12_here_30 ?_
      refine xr_sipush (v := 255) dX12_here_31 (by decide) ?_
      refine xr_iand dX12_here_34 ?_
      refine xr_goto (tgt := 39) dX12_here_35 (by decide) ?_
      refine xr_iret dX12_here_39 rfl ?_
      exact ⟨_, rfl, (if_pos ⟨pL, pT⟩).symm, W⟩
