/-! The law's start (written by wip/whole/law4.py) -/
theorem def_X12 : ∀ j, j < 40 → defaultValue (tyX12 j) = vp_V [.null, .null, .int 0, .null, .int 0, .int 0, .null, .int 0, .int 0, .int 0, .int 0, .null, .null, .null, .null, .int 0, .int 0, .null, .null, .int 0, .null, .null, .int 0, .null, .null, .null, .null, .int 0, .int 0, .null, .null, .null, .int 0, .null, .null, .int 0, .null, .int 0, .null, .null] j := by decide +kernel
theorem lt5 {w : Cond} {i : Nat} (h : tables_1_5[i]? = some w) : w ∈ lw_tbl := List.mem_append_right _ (List.mem_append_right _ (List.mem_append_right _ (List.mem_append_right _ (List.mem_append_right _ (List.mem_append_left _ (List.mem_of_getElem? h))))))
theorem lt1 {w : Cond} {i : Nat} (h : tables_1_1[i]? = some w) : w ∈ lw_tbl := List.mem_append_right _ (List.mem_append_left _ (List.mem_of_getElem? h))
theorem xnew_at {h : xH} {e : va_E} {a : Nat} (q : h.1 = a) : (xnew h e).2 a = some e := if_pos q.symm
theorem xnew_ne {h : xH} {e : va_E} {a : Nat} (q : a ≠ h.1) : (xnew h e).2 a = h.2 a := if_neg q
set_option maxRecDepth 20000 in
theorem lw_begin {K : xK} {B : Nat} {l : Launch} {b Ln : Nat} {sc : xs} (hLn : Ln ≤ 2560) (hl : l.stackTraces = false) : yT (psL B b Ln sc) (ZM K B (fun v _ => v = some (.int 1)) 601024 7293034) K B l 1312 RL false cL_law 8 (some .boolean) 601024 7293034 601024 7293034 0 [some (.ref b), none, none, none, none, none, none, none] [] (B, fun _ => none) := by
  refine yT.budget (rc' := 3 * 512 + 64) (rs' := 21 * 512 + 5935) (Nat.le_of_ble_eq_true rfl) (Nat.le_of_ble_eq_true rfl) ?_
  refine yr_new (rc' := 3 * 512 + 63) (rs' := 21 * 512 + 5919) (fs := [.null, .null, .null, .null, .null, .null, .null, .null, .null, .null, .null, .null, .null, .null, .null, .null]) clX11 wL_8 wi_X11 wz_X11 def_X11 rfl rfl dL_law_0 ?_
  refine yr_dup dL_law_3 rfl ?_
  refine yr_Ipv0 (i_CarN (X := B) rfl (xnew_at rfl)) kL_19 (Nat.le_of_ble_eq_true rfl) (Nat.le_of_ble_eq_true rfl) (rc' := 3 * 512 + 25) (rs' := 21 * 512 + 3162) rfl rfl dL_law_4 (fun g q => ?_)
  obtain ⟨q0, q1, o0, D0, D1, D2, D3, D4, D5, D6, D7, D8, D9, D10, D11, D12, D13, D14, D15⟩ := q
  refine yr_as1 dL_law_7 (by decide) rfl ?_
  refine yr_new (rc' := 3 * 512 + 24) (rs' := 21 * 512 + 3122) (fs := [.null, .null, .int 0, .null, .int 0, .int 0, .null, .int 0, .int 0, .int 0, .int 0, .null, .null, .null, .null, .int 0, .int 0, .null, .null, .int 0, .null, .null, .int 0, .null, .null, .null, .null, .int 0, .int 0, .null, .null, .null, .int 0, .null, .null, .int 0, .null, .int 0, .null, .null]) clX12 wL_20 wi_X12 wz_X12 def_X12 rfl rfl dL_law_8 ?_
  rw [q0]
  refine yr_dup dL_law_11 rfl ?_
  refine yr_Ipv0 (i_MdlN (Y := B + 39) (by show g.1 + 1 = _; rw [q0]) (xnew_at q0)) kL_22 (Nat.le_of_ble_eq_true rfl) (Nat.le_of_ble_eq_true rfl) (rc' := 3 * 512 + 1) (rs' := 21 * 512 + 1) rfl rfl dL_law_12 (fun g' q' => ?_)
  obtain ⟨r0, r1, r2⟩ := q'
  have r0' : g'.1 = B + 63 := by rw [r0]
  refine yr_as2 dL_law_15 (by decide) rfl ?_
  refine yr_ic1 dL_law_16 ?_
  refine yr_newl (rc' := 3 * 512) (rs' := 21 * 512) (N := 1) wa_long (by decide) (by decide) (by decide) rfl rfl dL_law_17 ?_
  rw [r0']
  refine yT.nm (fun g2 e2 => ?_)
  have kk : ∀ c, B ≤ c → c < B + 39 → g2.2 c = g.2 c := by
    intro c h1 h2
    rw [e2, xnew_ne (by omega), r1 c (by omega) (by omega) (by omega), xnew_ne (by omega)]
  have km : ∀ c, B + 39 ≤ c → c < B + 39 + 24 → g2.2 c = g'.2 c := by
    intro c h1 h2
    rw [e2, xnew_ne (by omega)]
  have s2 : g2.1 = B + 64 := by rw [e2]; show g'.1 + 1 = _; rw [r0']
  have W : xCw K g2 g2 B (B + 64) 0 (fun _ => 0) 0 (fun _ => 0) h0s h0s h0s 0 (fun _ => h0s) (fun _ => false) (fun _ => h0s) (fun _ => 3) 0 (fun _ => 0) (fun _ => 0) 0 (fun _ => 0) (fun _ => 0) := car0 (by omega) (by omega) ⟨frc o0 (fun c _ _ => kk c (by omega) (by omega)), D0.frw (fun c _ _ => kk c (by omega) (by omega)), D1.frw (fun c _ _ => kk c (by omega) (by omega)), D2.fr (fun c _ _ => kk c (by omega) (by omega)), D3.fr (fun c _ _ => kk c (by omega) (by omega)), D4.fr (fun c _ _ => kk c (by omega) (by omega)), D5.frw (fun c _ _ => kk c (by omega) (by omega)), frc D6 (fun c _ _ => kk c (by omega) (by omega)), D7.frw (fun c _ _ => kk c (by omega) (by omega)), D8.frw (fun c _ _ => kk c (by omega) (by omega)), D9.frw (fun c _ _ => kk c (by omega) (by omega)), D10.frw (fun c _ _ => kk c (by omega) (by omega)), D11.frw (fun c _ _ => kk c (by omega) (by omega)), D12.frw (fun c _ _ => kk c (by omega) (by omega)), D13.frw (fun c _ _ => kk c (by omega) (by omega)), frc D14 (fun c _ _ => kk c (by omega) (by omega)), frc D15 (fun c _ _ => kk c (by omega) (by omega))⟩
  have A := (mdl0 (K := K) (B := B) (l := l) (g := g') (Y := B + 39) r2).mv (g := g2) km
  refine yr_as3 dL_law_19 (by decide) rfl ?_
  refine yr_ic0 dL_law_20 ?_
  refine yr_is4 dL_law_21 (by decide) rfl ?_
  exact lp_whole hLn hl 512 0 (by omega) (by omega) ⟨_, _, _, _, _, _, _, _, _, _, _, _, _, _, _, _, _, _, _, _, W, A, by rw [e2]; exact xnew_at r0'⟩
theorem hasRoom_le {s : State} {pl : Platform} {r r' : Room} (h : s.hasRoom pl r = true) (hf : r'.frames ≤ r.frames) (hl : r'.locals ≤ r.locals) (hc : r'.cells ≤ r.cells) (hs : r'.slots ≤ r.slots) : s.hasRoom pl r' = true := by
  simp only [State.hasRoom, Bool.and_eq_true, decide_eq_true_eq] at h ⊢
  obtain ⟨⟨⟨⟨h1, h2, h3, h4, h5, h6⟩, h7⟩, h8⟩, h9⟩ := h
  exact ⟨⟨⟨⟨by omega, by omega, by omega, by omega, by omega, h6⟩, by omega⟩, by omega⟩, h9⟩
theorem lw_arr {s : State} {args : Array Value} {ty : FieldType} (h : (Cond.arrayClass ty).before args s = true) : ∃ c : ClassId, ArrOfT s c ty ∧ s.vm.findClass ("[" ++ ty.toString) = some c := by
  obtain ⟨c, k, comp, h1, h2, h3⟩ := Cond.arrayClass_spec h
  exact ⟨c, fun n z => ⟨fun k h => (by cases h), k, h2, comp, h3⟩, h1⟩
set_option maxRecDepth 20000 in
theorem lw_K {s : State} (hA : xA s) : ∃ K : xK, va_K K.1 vwCl (xTy K) s := by
  have hts : ∀ w ∈ xW, w.before #[] s = true := fun w hw => hA.use hw
  obtain ⟨c0, iS0, hK0⟩ := u_known (ws := xW) (C := RX0) (T := TX0) (N := 1) (n := 1) hts clX0.2.1 (hts _ wi_X0)
  obtain ⟨c1, iS1, hK1⟩ := u_known (ws := xW) (C := RX1) (T := TX1) (N := 6) (n := 6) hts clX1.2.1 (hts _ wi_X1)
  obtain ⟨c2, iS2, hK2⟩ := u_known (ws := xW) (C := RX2) (T := TX2) (N := 3) (n := 3) hts clX2.2.1 (hts _ wi_X2)
  obtain ⟨c3, iS3, hK3⟩ := u_known (ws := xW) (C := RX3) (T := TX3) (N := 9) (n := 9) hts clX3.2.1 (hts _ wi_X3)
  obtain ⟨c4, iS4, hK4⟩ := u_known (ws := xW) (C := RX4) (T := TX4) (N := 2) (n := 2) hts clX4.2.1 (hts _ wi_X4)
  obtain ⟨c5, iS5, hK5⟩ := u_known (ws := xW) (C := RX5) (T := TX5) (N := 2) (n := 2) hts clX5.2.1 (hts _ wi_X5)
  obtain ⟨c6, iS6, hK6⟩ := u_known (ws := xW) (C := RX6) (T := TX6) (N := 6) (n := 6) hts clX6.2.1 (hts _ wi_X6)
  obtain ⟨c7, iS7, hK7⟩ := u_known (ws := xW) (C := RX7) (T := TX7) (N := 3) (n := 3) hts clX7.2.1 (hts _ wi_X7)
  obtain ⟨c8, iS8, hK8⟩ := u_known (ws := xW) (C := RX8) (T := TX8) (N := 8) (n := 8) hts clX8.2.1 (hts _ wi_X8)
  obtain ⟨c9, iS9, hK9⟩ := u_known (ws := xW) (C := RX9) (T := TX9) (N := 3) (n := 3) hts clX9.2.1 (hts _ wi_X9)
  obtain ⟨c10, iS10, hK10⟩ := u_known (ws := xW) (C := RX10) (T := TX10) (N := 2) (n := 2) hts clX10.2.1 (hts _ wi_X10)
  obtain ⟨c11, iS11, hK11⟩ := u_known (ws := xW) (C := RX11) (T := TX11) (N := 16) (n := 16) hts clX11.2.1 (hts _ wi_X11)
  obtain ⟨c12, iS12, hK12⟩ := u_known (ws := xW) (C := RX12) (T := TX12) (N := 40) (n := 40) hts clX12.2.1 (hts _ wi_X12)
  obtain ⟨a0, b0, d0⟩ := lw_arr (hts _ wa_byte)
  obtain ⟨a1, b1, d1⟩ := lw_arr (hts _ wa_int)
  obtain ⟨a2, b2, d2⟩ := lw_arr (hts _ wa_long)
  obtain ⟨a3, b3, d3⟩ := lw_arr (hts _ wa_boolean)
  obtain ⟨comp, a4, k4, e1, e2, e3, e4, e5⟩ := Cond.arrayOver_spec (hts _ wo_Hill)
  refine ⟨((fun k => if k = 0 then c0 else (if k = 1 then c1 else (if k = 2 then c2 else (if k = 3 then c3 else (if k = 4 then c4 else (if k = 5 then c5 else (if k = 6 then c6 else (if k = 7 then c7 else (if k = 8 then c8 else (if k = 9 then c9 else (if k = 10 then c10 else (if k = 11 then c11 else c12))))))))))), fun k => if k = 0 then iS0 else (if k = 1 then iS1 else (if k = 2 then iS2 else (if k = 3 then iS3 else (if k = 4 then iS4 else (if k = 5 then iS5 else (if k = 6 then iS6 else (if k = 7 then iS7 else (if k = 8 then iS8 else (if k = 9 then iS9 else (if k = 10 then iS10 else (if k = 11 then iS11 else iS12)))))))))))), fun k => if k = 0 then a0 else if k = 1 then a1 else if k = 2 then a2 else if k = 3 then a3 else a4), ?_, ?_⟩
  · intro k q hq
    match k, hq with
      | 0, hq => cases hq; exact hK0
      | 1, hq => cases hq; exact hK1
      | 2, hq => cases hq; exact hK2
      | 3, hq => cases hq; exact hK3
      | 4, hq => cases hq; exact hK4
      | 5, hq => cases hq; exact hK5
      | 6, hq => cases hq; exact hK6
      | 7, hq => cases hq; exact hK7
      | 8, hq => cases hq; exact hK8
      | 9, hq => cases hq; exact hK9
      | 10, hq => cases hq; exact hK10
      | 11, hq => cases hq; exact hK11
      | 12, hq => cases hq; exact hK12
      | k + 13, hq => simp [vwCl] at hq
  · intro k q hq
    match k, hq with
      | 0, hq => cases hq; exact ⟨b0, d0⟩
      | 1, hq => cases hq; exact ⟨b1, d1⟩
      | 2, hq => cases hq; exact ⟨b2, d2⟩
      | 3, hq => cases hq; exact ⟨b3, d3⟩
      | 4, hq => cases hq; exact ⟨fun n z => ⟨fun k h => (by cases h), k4, e3, comp, e4⟩, k4, comp, e3, e4, e1, e5⟩
      | k + 5, hq => simp [xTy] at hq
