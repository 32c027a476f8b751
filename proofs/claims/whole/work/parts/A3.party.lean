/-! The class's party and row, which throw; the law's helpers, which catch (written by wip/whole/law1.py) -/
set_option maxRecDepth 20000 in
theorem m_party {K : xK} {B : Nat} {l : Launch} {h0 h : xH} {X D : Nat} {tn : Nat} {tf : Nat → Int32} {rk : Int32} {rv : Nat → Int64} {σ : xs} {β : xs} {γ : xs} {pn : Nat} {τ : Nat → xs} {ks : Nat → Bool} {κ : Nat → xs} {φ : xs → Int32} {hn : Nat} {hf : Nat → Int32} {hg : Nat → Int32} {wn : Nat} {wf : Nat → Int32} {wg : Nat → Int32} (W : xCw K h0 h X D tn tf rk rv σ β γ pn τ ks κ φ hn hf hg wn wf wg) (hl : l.stackTraces = false) (x y : Int32) : vx_Met l yX11_party [.code yX11_party cX11_party 3 (some .int)] (xRoom 8 1 6) (xPZ K B [.ref X, .int x, .int y] h) (xQc K B (fun r g => r = some (.int (hWat σ x y)) ∧ hHas σ x y ∧ g = h)) (yXC K B (fun g => ¬ hHas σ x y ∧ h.1 ≤ g.1 ∧ g.2 = h.2)) 1 6 (fun q => B ≤ q) := by
  refine yX_intro (M := mX11_party) RX11 ⟨rfl, rfl, by decide, Nat.le_of_ble_eq_true rfl⟩ (ls := [some (.ref X), some (.int x), some (.int y)]) rfl ?_
  refine yr_al0 dX11_party_0 ?_
  refine yr_get W.oX fX11_26 rfl dX11_party_1 ?_
  refine yr_il1 dX11_party_4 ?_
  refine yr_il2 dX11_party_5 ?_
  refine yr_Vi2 (s_has W.Hh x y) kX11_148 (by decide) (Nat.le_of_ble_eq_true rfl) (Nat.zero_add _) (Nat.zero_add _) dX11_party_6 ?_
  refine yr_ifne (tgt := 20) dX11_party_9 (by decide) (fun zc9 => ?_) (fun zc9 => ?_)
  · refine yr_al0 dX11_party_20 ?_
    refine yr_get W.oX fX11_26 rfl dX11_party_21 ?_
    refine yr_il1 dX11_party_24 ?_
    refine yr_il2 dX11_party_25 ?_
    refine yr_Vi2 (s_weightAt W.Hh x y) kX11_154 (by decide) (Nat.le_of_ble_eq_true rfl) (Nat.zero_add _) (Nat.zero_add _) dX11_party_26 ?_
    refine yr_xiret dX11_party_29 rfl ?_
    exact ⟨rfl, Decidable.not_not.mp (fun q => zc9 (bI_0.mpr q)), rfl⟩
  · exact yr_throw hl dX11_party_12 dX11_party_15 dX11_party_16 dX11_party_19 (by decide) (by decide) (by decide) (fun n hn => ⟨bI_0.mp zc9, hn, rfl⟩)
set_option maxRecDepth 20000 in
theorem m_row {K : xK} {B : Nat} {l : Launch} {h0 h : xH} {X D : Nat} {tn : Nat} {tf : Nat → Int32} {rk : Int32} {rv : Nat → Int64} {σ : xs} {β : xs} {γ : xs} {pn : Nat} {τ : Nat → xs} {ks : Nat → Bool} {κ : Nat → xs} {φ : xs → Int32} {hn : Nat} {hf : Nat → Int32} {hg : Nat → Int32} {wn : Nat} {wf : Nat → Int32} {wg : Nat → Int32} (W : xCw K h0 h X D tn tf rk rv σ β γ pn τ ks κ φ hn hf hg wn wf wg) (hl : l.stackTraces = false) (x : Int32) : vx_Met l yX11_row [.code yX11_row cX11_row 2 (some .long)] (xRoom 8 1 6) (xPZ K B [.ref X, .int x] h) (xQc K B (fun r g => r = some (.long (rv x.toNatClampNeg)) ∧ nuHas rk x ∧ g = h)) (yXC K B (fun g => ¬ nuHas rk x ∧ h.1 ≤ g.1 ∧ g.2 = h.2)) 1 6 (fun q => B ≤ q) := by
  refine yX_intro (M := mX11_row) RX11 ⟨rfl, rfl, by decide, Nat.le_of_ble_eq_true rfl⟩ (ls := [some (.ref X), some (.int x)]) rfl ?_
  refine yr_al0 dX11_row_0 ?_
  refine yr_get W.oX fX11_19 rfl dX11_row_1 ?_
  refine yr_il1 dX11_row_4 ?_
  refine yr_Vi1 (s_nuHas W.Hr x) kX11_441 (by decide) (Nat.le_of_ble_eq_true rfl) (Nat.zero_add _) (Nat.zero_add _) dX11_row_5 ?_
  refine yr_ifne (tgt := 19) dX11_row_8 (by decide) (fun zc8 => ?_) (fun zc8 => ?_)
  · have hh : nuHas rk x := Decidable.not_not.mp (fun q => zc8 (bI_0.mpr q))
    refine yr_al0 dX11_row_19 ?_
    refine yr_get W.oX fX11_19 rfl dX11_row_20 ?_
    refine yr_il1 dX11_row_23 ?_
    refine yr_Vl1 (s_nuAt W.Hr x) kX11_443 (by decide) (Nat.le_of_ble_eq_true rfl) (Nat.zero_add _) (Nat.zero_add _) dX11_row_24 ?_
    refine yr_xlret dX11_row_27 rfl ?_
    exact ⟨by rw [if_pos hh], hh, rfl⟩
  · exact yr_throw hl dX11_row_11 dX11_row_14 dX11_row_15 dX11_row_18 (by decide) (by decide) (by decide) (fun n hn => ⟨bI_0.mp zc8, hn, rfl⟩)
set_option maxRecDepth 20000 in
theorem m_Lparty {K : xK} {B : Nat} {l : Launch} {h0 h : xH} {X D : Nat} {tn : Nat} {tf : Nat → Int32} {rk : Int32} {rv : Nat → Int64} {σ : xs} {β : xs} {γ : xs} {pn : Nat} {τ : Nat → xs} {ks : Nat → Bool} {κ : Nat → xs} {φ : xs → Int32} {hn : Nat} {hf : Nat → Int32} {hg : Nat → Int32} {wn : Nat} {wf : Nat → Int32} {wg : Nat → Int32} (W : xCw K h0 h X D tn tf rk rv σ β γ pn τ ks κ φ hn hf hg wn wf wg) (hl : l.stackTraces = false) {O : Nat} {ov : Nat → Int64} (ho : h.2 O = some (lA K 1 ov)) (x y : Int32) : Met l yL_party [.codeWith yL_party cL_party 5 (some .int) [(0, 10, 13, 13)]] (xRoom 10 1 6) (xPZ K B [.ref X, .int x, .int y, .ref O] h) (xQc K B (fun r g => (hHas σ x y ∧ r = some (.int 0) ∧ g = xup h O (lA K 1 (vp_updL ov 0 (hWat σ x y).toInt64))) ∨ (¬ hHas σ x y ∧ r = some (.int 1) ∧ h.1 ≤ g.1 ∧ g.2 = h.2))) 1 6 (fun q => B ≤ q) := by
  refine yH_intro (by decide) (Nat.le_of_ble_eq_true rfl) (ls := [some (.ref X), some (.int x), some (.int y), some (.ref O), none]) rfl ?_
  refine yr_al3 dL_party_0 ?_
  refine yr_ic0 dL_party_1 ?_
  refine yr_al0 dL_party_2 ?_
  refine yr_il1 dL_party_3 ?_
  refine yr_il2 dL_party_4 ?_
  refine yr_callVX (M := mX11_party) (av := [.int x, .int y]) (m_party W hl x y) ⟨_, _, _, _, W.oX, rfl⟩ qX11_party (xt5 (i := 40) rfl rfl) (by decide) rfl (Nat.le_of_ble_eq_true rfl) (rc' := 0) (rs' := 0) rfl rfl dL_party_5 rfl (by decide) (by decide) wL_13 (fun r g q => ?_) (fun q9 g q => ?_)
  · obtain ⟨rfl, hh, rfl⟩ := q
    refine yr_i2l dL_party_8 ?_
    refine yr_last ho (xix_lit (j := 0) (by decide)) dL_party_9 ?_
    refine yr_goto (tgt := 17) dL_party_10 (by decide) ?_
    refine yr_ic0 dL_party_17 ?_
    refine yr_miret dL_party_18 rfl ?_
    exact Or.inl ⟨hh, rfl, rfl⟩
  · obtain ⟨hh, q1, q2⟩ := q
    refine yr_as4 dL_party_13 (by decide) rfl ?_
    refine yr_ic1 dL_party_15 ?_
    refine yr_miret dL_party_16 rfl ?_
    exact Or.inr ⟨hh, rfl, q1, q2⟩
set_option maxRecDepth 20000 in
theorem m_Lrow {K : xK} {B : Nat} {l : Launch} {h0 h : xH} {X D : Nat} {tn : Nat} {tf : Nat → Int32} {rk : Int32} {rv : Nat → Int64} {σ : xs} {β : xs} {γ : xs} {pn : Nat} {τ : Nat → xs} {ks : Nat → Bool} {κ : Nat → xs} {φ : xs → Int32} {hn : Nat} {hf : Nat → Int32} {hg : Nat → Int32} {wn : Nat} {wf : Nat → Int32} {wg : Nat → Int32} (W : xCw K h0 h X D tn tf rk rv σ β γ pn τ ks κ φ hn hf hg wn wf wg) (hl : l.stackTraces = false) {O : Nat} {ov : Nat → Int64} (ho : h.2 O = some (lA K 1 ov)) (x : Int32) : Met l yL_row [.codeWith yL_row cL_row 4 (some .int) [(0, 8, 11, 13)]] (xRoom 10 1 6) (xPZ K B [.ref X, .int x, .ref O] h) (xQc K B (fun r g => (nuHas rk x ∧ r = some (.int 0) ∧ g = xup h O (lA K 1 (vp_updL ov 0 (rv x.toNatClampNeg)))) ∨ (¬ nuHas rk x ∧ r = some (.int 1) ∧ h.1 ≤ g.1 ∧ g.2 = h.2))) 1 6 (fun q => B ≤ q) := by
  refine yH_intro (by decide) (Nat.le_of_ble_eq_true rfl) (ls := [some (.ref X), some (.int x), some (.ref O), none]) rfl ?_
  refine yr_al2 dL_row_0 ?_
  refine yr_ic0 dL_row_1 ?_
  refine yr_al0 dL_row_2 ?_
  refine yr_il1 dL_row_3 ?_
  refine yr_callVX (M := mX11_row) (av := [.int x]) (m_row W hl x) ⟨_, _, _, _, W.oX, rfl⟩ qX11_row (xt5 (i := 108) rfl rfl) (by decide) rfl (Nat.le_of_ble_eq_true rfl) (rc' := 0) (rs' := 0) rfl rfl dL_row_4 rfl (by decide) (by decide) wL_13 (fun r g q => ?_) (fun q9 g q => ?_)
  · obtain ⟨rfl, hh, rfl⟩ := q
    refine yr_last ho (xix_lit (j := 0) (by decide)) dL_row_7 ?_
    refine yr_goto (tgt := 14) dL_row_8 (by decide) ?_
    refine yr_ic0 dL_row_14 ?_
    refine yr_miret dL_row_15 rfl ?_
    exact Or.inl ⟨hh, rfl, rfl⟩
  · obtain ⟨hh, q1, q2⟩ := q
    refine yr_as3 dL_row_11 (by decide) rfl ?_
    refine yr_ic1 dL_row_12 ?_
    refine yr_miret dL_row_13 rfl ?_
    exact Or.inr ⟨hh, rfl, q1, q2⟩
