/-! The class's own methods: parties, sheet, rule (written by wip/whole/car3.py) -/
def shV (kind x : Int32) : Int32 := iMax 1 (iMin 9 (if kind = 0 then x.toInt8.toInt32 else if kind = 1 then x.toInt16.toInt32 else x))
set_option maxRecDepth 20000 in
theorem s_sheetEntry {K : xK} {B : Nat} {l : Launch} {h : xH} (k x : Int32) : xU K B l 1 mX11_sheetEntry 0 0 [.int k, .int x] h (xQi (shV k x) h) := by
  refine ⟨qX11_sheetEntry, ?_⟩
  refine xS.intro RX11 false ⟨rfl, rfl, by decide, by decide, Nat.le_of_ble_eq_true rfl⟩ (ls := [some (.int k), some (.int x), none]) rfl ?_
  refine xr_il1 dX11_sheetEntry_0 ?_
  refine xr_is2 dX11_sheetEntry_1 (by decide) rfl ?_
  refine xr_il0 dX11_sheetEntry_2 ?_
  refine xr_ifne (tgt := 12) dX11_sheetEntry_3 (by decide) (fun zc3 => ?_) (fun zc3 => ?_)
  · skip
    refine xr_il0 dX11_sheetEntry_12 ?_
    refine xr_ic1 dX11_sheetEntry_13 ?_
    refine xr_icmpne (tgt := 20) dX11_sheetEntry_14 (by decide) (fun zc14 => ?_) (fun zc14 => ?_)
    · skip
      refine xr_ic1 dX11_sheetEntry_20 ?_
      refine xr_bipush (v := 9) dX11_sheetEntry_21 (by decide) ?_
      refine xr_il2 dX11_sheetEntry_23 ?_
      refine xr_min kmX11_171 ms_min wz_J9 mc_min (by decide) (Nat.le_of_ble_eq_true rfl) dX11_sheetEntry_24 ?_
      refine xr_max kmX11_176 ms_max wz_J9 mc_max (by decide) (Nat.le_of_ble_eq_true rfl) dX11_sheetEntry_27 ?_
      refine xr_iret dX11_sheetEntry_30 rfl ?_
      exact ⟨by unfold shV; rw [if_neg zc3, if_neg zc14]; rfl, rfl⟩
    · skip
      refine xr_il1 dX11_sheetEntry_17 ?_
      refine xr_i2s dX11_sheetEntry_18 ?_
      refine xr_is2 dX11_sheetEntry_19 (by decide) rfl ?_
      refine xr_ic1 dX11_sheetEntry_20 ?_
      refine xr_bipush (v := 9) dX11_sheetEntry_21 (by decide) ?_
      refine xr_il2 dX11_sheetEntry_23 ?_
      refine xr_min kmX11_171 ms_min wz_J9 mc_min (by decide) (Nat.le_of_ble_eq_true rfl) dX11_sheetEntry_24 ?_
      refine xr_max kmX11_176 ms_max wz_J9 mc_max (by decide) (Nat.le_of_ble_eq_true rfl) dX11_sheetEntry_27 ?_
      refine xr_iret dX11_sheetEntry_30 rfl ?_
      exact ⟨by unfold shV; rw [if_neg zc3, if_pos zc14]; rfl, rfl⟩
  · skip
    refine xr_il1 dX11_sheetEntry_6 ?_
    refine xr_i2b dX11_sheetEntry_7 ?_
    refine xr_is2 dX11_sheetEntry_8 (by decide) rfl ?_
    refine xr_goto (tgt := 20) dX11_sheetEntry_9 (by decide) ?_
    refine xr_ic1 dX11_sheetEntry_20 ?_
    refine xr_bipush (v := 9) dX11_sheetEntry_21 (by decide) ?_
    refine xr_il2 dX11_sheetEntry_23 ?_
    refine xr_min kmX11_171 ms_min wz_J9 mc_min (by decide) (Nat.le_of_ble_eq_true rfl) dX11_sheetEntry_24 ?_
    refine xr_max kmX11_176 ms_max wz_J9 mc_max (by decide) (Nat.le_of_ble_eq_true rfl) dX11_sheetEntry_27 ?_
    refine xr_iret dX11_sheetEntry_30 rfl ?_
    exact ⟨by unfold shV; rw [if_pos zc3]; rfl, rfl⟩
def shE (kind n f step : Int32) (k : Nat) : Int32 := if ¬ kind = 3 ∧ nI k < n then shV kind (f + nI k * step) else 1
def shN (kind n f step : Int32) : Nat → Nat → xs → xs
  | 0, _, σ => σ
  | r + 1, k, σ => shN kind n f step r (k + 1) (hWeigh σ 0 (nI k) (shE kind n f step k))
theorem shN_s (kind n f step : Int32) (r k : Nat) (σ : xs) : shN kind n f step (r + 1) k σ = shN kind n f step r (k + 1) (hWeigh σ 0 (nI k) (shE kind n f step k)) := rfl
theorem hWeigh_10 (σ : xs) (side k x : Int32) {j : Nat} (hj : 10 ≤ j) : hWeigh σ side k x j = σ j := by
  unfold hWeigh
  split
  · rename_i q
    obtain ⟨s, i, hs, hi, rfl, rfl⟩ := hHas_sk q
    rw [(xix_sk hs hi).2]
    exact upd_hi _ _ (by omega)
  · rfl
def shR (σ : xs) (kind n f step : Int32) : Int32 × xs := if kind < 0 ∨ 3 < kind ∨ 5 < n then (-1, σ) else if ¬ kind = 3 ∧ n < 0 then (-2, σ) else (if kind = 3 then -3 else wt (shN kind n f step (ln σ 0) 0 σ) 0 (hAll (shN kind n f step (ln σ 0) 0 σ) 0), shN kind n f step (ln σ 0) 0 σ)
set_option maxRecDepth 20000 in
theorem lp_sheet {K : xK} {B : Nat} {l : Launch} {h0 : xH} {X D : Nat} {tn : Nat} {tf : Nat → Int32} {rk : Int32} {rv : Nat → Int64} {β : xs} {γ : xs} {pn : Nat} {τ : Nat → xs} {ks : Nat → Bool} {κ : Nat → xs} {φ : xs → Int32} {hn : Nat} {hf : Nat → Int32} {hg : Nat → Int32} {wn : Nat} {wf : Nat → Int32} {wg : Nat → Int32} (kd n f st : Int32) (N : Nat) (hN : N ≤ 5) : ∀ (r : Nat) (k : Nat) (y7 : Option Value) {h : xH} {σ : xs} (W : xCw K h0 h X D tn tf rk rv σ β γ pn τ ks κ φ hn hf hg wn wf wg), k + r = N → σ 10 = nI N → xT K B l 3 RX11 false cX11_sheet 8 (some .int) 0 0 0 0 (xPi (fun v g => v = (if kd = 3 then -3 else wt (shN kd n f st r k σ) 0 (hAll (shN kd n f st r k σ) 0)) ∧ xCw K h0 g X D tn tf rk rv ((shN kd n f st r k σ)) β γ pn τ ks κ φ hn hf hg wn wf wg)) 43 [some (.ref X), some (.int kd), some (.int n), some (.int f), some (.int st), some (.int (bI (kd = 3))), some (.int (nI k)), y7] [] h := by
  intro r
  induction r with
  | zero =>
    intro k y7 h σ W hk hl
    refine xr_il6 dX11_sheet_43 ?_
    refine xr_al0 dX11_sheet_45 ?_
    refine xr_get W.oX fX11_26 rfl dX11_sheet_46 ?_
    refine xr_ic0 dX11_sheet_49 ?_
    refine xr_Vi1 (s_waits W.Hh _) kX11_131 (by decide) (Nat.le_of_ble_eq_true rfl) (Nat.zero_add _) (Nat.zero_add _) dX11_sheet_50 ?_
    refine xr_eqi (y := nI N) ((show hWaits σ 0 = σ 10 from rfl).trans hl) ?_
    refine xr_icmpge (tgt := 110) dX11_sheet_53 (by decide) (fun zc53 => ?_) (fun zc53 => ?_)
    · skip
      refine xr_il5 dX11_sheet_110 ?_
      refine xr_ifeq (tgt := 120) dX11_sheet_112 (by decide) (fun zc112 => ?_) (fun zc112 => ?_)
      · skip
        refine xr_al0 dX11_sheet_120 ?_
        refine xr_get W.oX fX11_26 rfl dX11_sheet_121 ?_
        refine xr_ic0 dX11_sheet_124 ?_
        refine xr_al0 dX11_sheet_125 ?_
        refine xr_get W.oX fX11_26 rfl dX11_sheet_126 ?_
        refine xr_ic0 dX11_sheet_129 ?_
        refine xr_Vi1 (s_allOf W.Hh _) kX11_165 (by decide) (Nat.le_of_ble_eq_true rfl) (Nat.zero_add _) (Nat.zero_add _) dX11_sheet_130 ?_
        refine xr_Vi2 (s_weightOf W.Hh W.pok (s := 0) (by decide) _) kX11_168 (by decide) (Nat.le_of_ble_eq_true rfl) (Nat.zero_add _) (Nat.zero_add _) dX11_sheet_133 ?_
        refine xr_iret dX11_sheet_136 rfl ?_
        exact ⟨_, rfl, (if_neg (bI_0.mp zc112)).symm, W⟩
      · skip
        refine xr_bipush (v := (-3)) dX11_sheet_115 (by decide) ?_
        refine xr_goto (tgt := 136) dX11_sheet_117 (by decide) ?_
        refine xr_iret dX11_sheet_136 rfl ?_
        exact ⟨_, rfl, (if_pos (Decidable.not_not.mp (fun q => zc112 (bI_0.mpr q)))).symm, W⟩
    · skip
      exact absurd (nI_le (a := N) (by omega) (by omega)) zc53
  | succ r ih =>
    intro k y7 h σ W hk hl
    refine xr_il6 dX11_sheet_43 ?_
    refine xr_al0 dX11_sheet_45 ?_
    refine xr_get W.oX fX11_26 rfl dX11_sheet_46 ?_
    refine xr_ic0 dX11_sheet_49 ?_
    refine xr_Vi1 (s_waits W.Hh _) kX11_131 (by decide) (Nat.le_of_ble_eq_true rfl) (Nat.zero_add _) (Nat.zero_add _) dX11_sheet_50 ?_
    refine xr_eqi (y := nI N) ((show hWaits σ 0 = σ 10 from rfl).trans hl) ?_
    refine xr_icmpge (tgt := 110) dX11_sheet_53 (by decide) (fun zc53 => ?_) (fun zc53 => ?_)
    · skip
      exact absurd zc53 (nI_ge (by omega) (by omega))
    · skip
      refine xr_il5 dX11_sheet_56 ?_
      refine xr_ifne (tgt := 71) dX11_sheet_58 (by decide) (fun zc58 => ?_) (fun zc58 => ?_)
      · skip
        refine xr_ic0 dX11_sheet_71 ?_
        refine xr_is7 dX11_sheet_72 (by decide) rfl ?_
        refine xr_al0 dX11_sheet_74 ?_
        refine xr_get W.oX fX11_26 rfl dX11_sheet_75 ?_
        refine xr_ic0 dX11_sheet_78 ?_
        refine xr_il6 dX11_sheet_79 ?_
        refine xr_il7 dX11_sheet_81 ?_
        refine xr_ifeq (tgt := 100) dX11_sheet_83 (by decide) (fun zc83 => ?_) (fun zc83 => ?_)
        · skip
          refine xr_ic1 dX11_sheet_100 ?_
          refine xr_Vv3 (s_weigh W.Hh _ _ _) kX11_161 (by decide) (Nat.le_of_ble_eq_true rfl) (Nat.zero_add _) (Nat.zero_add _) dX11_sheet_101 ?_
          refine xT.nm (fun zh1 zg1 => ?_)
          have W := W.uh (fBH zg1) (hOk_weigh W.pok _ _ _)
          refine xr_inc6 dX11_sheet_104 (nI_inc k) (by decide) rfl ?_
          refine xr_goto (tgt := 43) dX11_sheet_107 (by decide) ?_
          have e : shE kd n f st k = _ := if_neg (fun q => zc58 (bI_0.mpr q.1))
          rw [shN_s, e]
          exact ih (k + 1) _ W (by omega) ((hWeigh_10 _ _ _ _ (by decide)).trans hl)
        · skip
          exact absurd rfl zc83
      · skip
        refine xr_il6 dX11_sheet_61 ?_
        refine xr_il2 dX11_sheet_63 ?_
        refine xr_icmpge (tgt := 71) dX11_sheet_64 (by decide) (fun zc64 => ?_) (fun zc64 => ?_)
        · skip
          refine xr_ic0 dX11_sheet_71 ?_
          refine xr_is7 dX11_sheet_72 (by decide) rfl ?_
          refine xr_al0 dX11_sheet_74 ?_
          refine xr_get W.oX fX11_26 rfl dX11_sheet_75 ?_
          refine xr_ic0 dX11_sheet_78 ?_
          refine xr_il6 dX11_sheet_79 ?_
          refine xr_il7 dX11_sheet_81 ?_
          refine xr_ifeq (tgt := 100) dX11_sheet_83 (by decide) (fun zc83 => ?_) (fun zc83 => ?_)
          · skip
            refine xr_ic1 dX11_sheet_100 ?_
            refine xr_Vv3 (s_weigh W.Hh _ _ _) kX11_161 (by decide) (Nat.le_of_ble_eq_true rfl) (Nat.zero_add _) (Nat.zero_add _) dX11_sheet_101 ?_
            refine xT.nm (fun zh1 zg1 => ?_)
            have W := W.uh (fBH zg1) (hOk_weigh W.pok _ _ _)
            refine xr_inc6 dX11_sheet_104 (nI_inc k) (by decide) rfl ?_
            refine xr_goto (tgt := 43) dX11_sheet_107 (by decide) ?_
            have e : shE kd n f st k = _ := if_neg (fun q => absurd zc64 (Int32.not_le.mpr q.2))
            rw [shN_s, e]
            exact ih (k + 1) _ W (by omega) ((hWeigh_10 _ _ _ _ (by decide)).trans hl)
          · skip
            exact absurd rfl zc83
        · skip
          refine xr_ic1 dX11_sheet_67 ?_
          refine xr_goto (tgt := 72) dX11_sheet_68 (by decide) ?_
          refine xr_is7 dX11_sheet_72 (by decide) rfl ?_
          refine xr_al0 dX11_sheet_74 ?_
          refine xr_get W.oX fX11_26 rfl dX11_sheet_75 ?_
          refine xr_ic0 dX11_sheet_78 ?_
          refine xr_il6 dX11_sheet_79 ?_
          refine xr_il7 dX11_sheet_81 ?_
          refine xr_ifeq (tgt := 100) dX11_sheet_83 (by decide) (fun zc83 => ?_) (fun zc83 => ?_)
          · skip
            exact absurd zc83 (by decide)
          · skip
            refine xr_il1 dX11_sheet_86 ?_
            refine xr_il3 dX11_sheet_87 ?_
            refine xr_il6 dX11_sheet_88 ?_
            refine xr_il4 dX11_sheet_90 ?_
            refine xr_imul dX11_sheet_92 ?_
            refine xr_iadd dX11_sheet_93 ?_
            refine xr_Si2 (s_sheetEntry _ _) kX11_158 (by decide) (Nat.le_of_ble_eq_true rfl) (Nat.zero_add _) (Nat.zero_add _) dX11_sheet_94 ?_
            refine xr_goto (tgt := 101) dX11_sheet_97 (by decide) ?_
            refine xr_Vv3 (s_weigh W.Hh _ _ _) kX11_161 (by decide) (Nat.le_of_ble_eq_true rfl) (Nat.zero_add _) (Nat.zero_add _) dX11_sheet_101 ?_
            refine xT.nm (fun zh1 zg1 => ?_)
            have W := W.uh (fBH zg1) (hOk_weigh W.pok _ _ _)
            refine xr_inc6 dX11_sheet_104 (nI_inc k) (by decide) rfl ?_
            refine xr_goto (tgt := 43) dX11_sheet_107 (by decide) ?_
            have e : shE kd n f st k = _ := if_pos ⟨bI_0.mp zc58, Int32.not_le.mp zc64⟩
            rw [shN_s, e]
            exact ih (k + 1) _ W (by omega) ((hWeigh_10 _ _ _ _ (by decide)).trans hl)
set_option maxRecDepth 20000 in
theorem s_sheet {K : xK} {B : Nat} {l : Launch} {h0 h : xH} {X D : Nat} {tn : Nat} {tf : Nat → Int32} {rk : Int32} {rv : Nat → Int64} {σ : xs} {β : xs} {γ : xs} {pn : Nat} {τ : Nat → xs} {ks : Nat → Bool} {κ : Nat → xs} {φ : xs → Int32} {hn : Nat} {hf : Nat → Int32} {hg : Nat → Int32} {wn : Nat} {wf : Nat → Int32} {wg : Nat → Int32} (W : xCw K h0 h X D tn tf rk rv σ β γ pn τ ks κ φ hn hf hg wn wf wg) (kd n f st : Int32) : xV K B l 3 mX11_sheet 0 0 (X) [.int kd, .int n, .int f, .int st] h (xPi (fun v g => v = (shR σ kd n f st).1 ∧ xCw K h0 g X D tn tf rk rv ((shR σ kd n f st).2) β γ pn τ ks κ φ hn hf hg wn wf wg)) := by
  refine ⟨⟨_, _, _, _, W.oX, rfl⟩, qX11_sheet, ?_⟩
  refine xS.intro RX11 false ⟨rfl, rfl, by decide, by decide, Nat.le_of_ble_eq_true rfl⟩ (ls := [some (.ref X), some (.int kd), some (.int n), some (.int f), some (.int st), none, none, none]) rfl ?_
  refine xr_il1 dX11_sheet_0 ?_
  refine xr_iflt (tgt := 14) dX11_sheet_1 (by decide) (fun zc1 => ?_) (fun zc1 => ?_)
  · skip
    refine xr_icm1 dX11_sheet_14 ?_
    refine xr_iret dX11_sheet_15 rfl ?_
    have e : (shR σ kd n f st) = _ := if_pos (Or.inl zc1)
    rw [e]
    exact ⟨_, rfl, rfl, W⟩
  · skip
    refine xr_il1 dX11_sheet_4 ?_
    refine xr_ic3 dX11_sheet_5 ?_
    refine xr_icmpgt (tgt := 14) dX11_sheet_6 (by decide) (fun zc6 => ?_) (fun zc6 => ?_)
    · skip
      refine xr_icm1 dX11_sheet_14 ?_
      refine xr_iret dX11_sheet_15 rfl ?_
      have e : (shR σ kd n f st) = _ := if_pos (Or.inr (Or.inl zc6))
      rw [e]
      exact ⟨_, rfl, rfl, W⟩
    · skip
      refine xr_il2 dX11_sheet_9 ?_
      refine xr_ic5 dX11_sheet_10 ?_
      refine xr_icmple (tgt := 16) dX11_sheet_11 (by decide) (fun zc11 => ?_) (fun zc11 => ?_)
      · skip
        refine xr_il1 dX11_sheet_16 ?_
        refine xr_ic3 dX11_sheet_17 ?_
        refine xr_icmpne (tgt := 25) dX11_sheet_18 (by decide) (fun zc18 => ?_) (fun zc18 => ?_)
        · skip
          refine xr_ic0 dX11_sheet_25 ?_
          refine xr_is5 dX11_sheet_26 (by decide) rfl ?_
          refine xr_il5 dX11_sheet_28 ?_
          refine xr_ifne (tgt := 40) dX11_sheet_30 (by decide) (fun zc30 => ?_) (fun zc30 => ?_)
          · skip
            exact absurd rfl zc30
          · skip
            refine xr_il2 dX11_sheet_33 ?_
            refine xr_ifge (tgt := 40) dX11_sheet_34 (by decide) (fun zc34 => ?_) (fun zc34 => ?_)
            · skip
              refine xr_ic0 dX11_sheet_40 ?_
              refine xr_is6 dX11_sheet_41 (by decide) rfl ?_
              have e : (shR σ kd n f st) = _ := (if_neg (fun q => q.elim zc1 (fun q => q.elim zc6 (Int32.not_lt.mpr zc11)))).trans (if_neg (fun q => Int32.not_lt.mpr zc34 q.2))
              rw [e]
              have hb : bI (kd = 3) = _ := (bI_f zc18)
              have hi := lp_sheet (B := B) (l := l) kd n f st (ln σ 0) (W.pok.1 0 (by decide)).2 (ln σ 0) 0 none W (by omega) (W.pok.1 0 (by decide)).1
              rw [hb] at hi
              exact hi
            · skip
              refine xr_bipush (v := (-2)) dX11_sheet_37 (by decide) ?_
              refine xr_iret dX11_sheet_39 rfl ?_
              have e : (shR σ kd n f st) = _ := (if_neg (fun q => q.elim zc1 (fun q => q.elim zc6 (Int32.not_lt.mpr zc11)))).trans (if_pos ⟨zc18, Int32.not_le.mp zc34⟩)
              rw [e]
              exact ⟨_, rfl, rfl, W⟩
        · skip
          refine xr_ic1 dX11_sheet_21 ?_
          refine xr_goto (tgt := 26) dX11_sheet_22 (by decide) ?_
          refine xr_is5 dX11_sheet_26 (by decide) rfl ?_
          refine xr_il5 dX11_sheet_28 ?_
          refine xr_ifne (tgt := 40) dX11_sheet_30 (by decide) (fun zc30 => ?_) (fun zc30 => ?_)
          · skip
            refine xr_ic0 dX11_sheet_40 ?_
            refine xr_is6 dX11_sheet_41 (by decide) rfl ?_
            have e : (shR σ kd n f st) = _ := (if_neg (fun q => q.elim zc1 (fun q => q.elim zc6 (Int32.not_lt.mpr zc11)))).trans (if_neg (fun q => q.1 zc18))
            rw [e]
            have hb : bI (kd = 3) = _ := (bI_t zc18)
            have hi := lp_sheet (B := B) (l := l) kd n f st (ln σ 0) (W.pok.1 0 (by decide)).2 (ln σ 0) 0 none W (by omega) (W.pok.1 0 (by decide)).1
            rw [hb] at hi
            exact hi
          · skip
            exact absurd zc30 (by decide)
      · skip
        refine xr_icm1 dX11_sheet_14 ?_
        refine xr_iret dX11_sheet_15 rfl ?_
        have e : (shR σ kd n f st) = _ := if_pos (Or.inr (Or.inr (Int32.not_le.mp zc11)))
        rw [e]
        exact ⟨_, rfl, rfl, W⟩
def fbN (tf : Nat → Int32) (tn : Nat) (σ : xs) : Nat → Nat → Int32 → Int32 → Int32
  | 0, _, _, _ => if slAt tf (nI tn) (nI tn - 1) = 47 then nI tn else -1
  | r + 1, p, side, room => if slAt tf (nI tn) (nI p) = 47 ∧ side = 0 then fbN tf tn σ r (p + 1) 1 (5 - hWaits σ 1) else if slAt tf (nI tn) (nI p) < 49 ∨ 57 < slAt tf (nI tn) (nI p) ∨ room = 0 then nI p else fbN tf tn σ r (p + 1) side (room + (-1))
theorem fbN_s (tf : Nat → Int32) (tn : Nat) (σ : xs) (r p : Nat) (side room : Int32) : fbN tf tn σ (r + 1) p side room = if slAt tf (nI tn) (nI p) = 47 ∧ side = 0 then fbN tf tn σ r (p + 1) 1 (5 - hWaits σ 1) else if slAt tf (nI tn) (nI p) < 49 ∨ 57 < slAt tf (nI tn) (nI p) ∨ room = 0 then nI p else fbN tf tn σ r (p + 1) side (room + (-1)) := rfl
set_option maxRecDepth 20000 in
theorem lp_firstBad {K : xK} {B : Nat} {l : Launch} {h0 : xH} {X D : Nat} {tn : Nat} {tf : Nat → Int32} {rk : Int32} {rv : Nat → Int64} {σ : xs} {β : xs} {γ : xs} {pn : Nat} {τ : Nat → xs} {ks : Nat → Bool} {κ : Nat → xs} {φ : xs → Int32} {hn : Nat} {hf : Nat → Int32} {hg : Nat → Int32} {wn : Nat} {wf : Nat → Int32} {wg : Nat → Int32}  : ∀ (r : Nat) (p : Nat) (side room : Int32) (y4 : Option Value) {h : xH}  (W : xCw K h0 h X D tn tf rk rv σ β γ pn τ ks κ φ hn hf hg wn wf wg), p + r = tn → xT K B l 1 RX11 false cX11_firstBadOfParties 5 (some .int) 0 0 0 0 (xPi (fun v g => v = (fbN tf tn σ r p side room) ∧ xCw K h0 g X D tn tf rk rv σ β γ pn τ ks κ φ hn hf hg wn wf wg)) 15 [some (.ref X), some (.int side), some (.int room), some (.int (nI p)), y4] [] h := by
  intro r
  induction r with
  | zero =>
    intro p side room y4 h  W hk
    have pt := W.pt
    refine xr_il3 dX11_firstBadOfParties_15 ?_
    refine xr_al0 dX11_firstBadOfParties_16 ?_
    refine xr_get W.oX fX11_12 rfl dX11_firstBadOfParties_17 ?_
    refine xr_Vi0 (s_slLength W.Ht) kX11_107 (by decide) (Nat.le_of_ble_eq_true rfl) (Nat.zero_add _) (Nat.zero_add _) dX11_firstBadOfParties_20 ?_
    refine xr_icmpge (tgt := 92) dX11_firstBadOfParties_23 (by decide) (fun zc23 => ?_) (fun zc23 => ?_)
    · skip
      refine xr_al0 dX11_firstBadOfParties_92 ?_
      refine xr_get W.oX fX11_12 rfl dX11_firstBadOfParties_93 ?_
      refine xr_al0 dX11_firstBadOfParties_96 ?_
      refine xr_get W.oX fX11_12 rfl dX11_firstBadOfParties_97 ?_
      refine xr_Vi0 (s_slLength W.Ht) kX11_107 (by decide) (Nat.le_of_ble_eq_true rfl) (Nat.zero_add _) (Nat.zero_add _) dX11_firstBadOfParties_100 ?_
      refine xr_ic1 dX11_firstBadOfParties_103 ?_
      refine xr_isub dX11_firstBadOfParties_104 ?_
      refine xr_Vi1 (s_slAt W.Ht _) kX11_135 (by decide) (Nat.le_of_ble_eq_true rfl) (Nat.zero_add _) (Nat.zero_add _) dX11_firstBadOfParties_105 ?_
      refine xr_bipush (v := 47) dX11_firstBadOfParties_108 (by decide) ?_
      refine xr_icmpne (tgt := 117) dX11_firstBadOfParties_110 (by decide) (fun zc110 => ?_) (fun zc110 => ?_)
      · skip
        refine xr_ic0 dX11_firstBadOfParties_117 ?_
        refine xr_is3 dX11_firstBadOfParties_118 (by decide) rfl ?_
        refine xr_il3 dX11_firstBadOfParties_119 ?_
        refine xr_ifeq (tgt := 133) dX11_firstBadOfParties_120 (by decide) (fun zc120 => ?_) (fun zc120 => ?_)
        · skip
          refine xr_icm1 dX11_firstBadOfParties_133 ?_
          refine xr_iret dX11_firstBadOfParties_134 rfl ?_
          exact ⟨_, rfl, (if_neg zc110).symm, W⟩
        · skip
          exact absurd rfl zc120
      · skip
        refine xr_ic1 dX11_firstBadOfParties_113 ?_
        refine xr_goto (tgt := 118) dX11_firstBadOfParties_114 (by decide) ?_
        refine xr_is3 dX11_firstBadOfParties_118 (by decide) rfl ?_
        refine xr_il3 dX11_firstBadOfParties_119 ?_
        refine xr_ifeq (tgt := 133) dX11_firstBadOfParties_120 (by decide) (fun zc120 => ?_) (fun zc120 => ?_)
        · skip
          exact absurd zc120 (by decide)
        · skip
          refine xr_al0 dX11_firstBadOfParties_123 ?_
          refine xr_get W.oX fX11_12 rfl dX11_firstBadOfParties_124 ?_
          refine xr_Vi0 (s_slLength W.Ht) kX11_107 (by decide) (Nat.le_of_ble_eq_true rfl) (Nat.zero_add _) (Nat.zero_add _) dX11_firstBadOfParties_127 ?_
          refine xr_goto (tgt := 134) dX11_firstBadOfParties_130 (by decide) ?_
          refine xr_iret dX11_firstBadOfParties_134 rfl ?_
          exact ⟨_, rfl, (if_pos zc110).symm, W⟩
    · skip
      exact absurd (nI_le (a := tn) (by omega) (by omega)) zc23
  | succ r ih =>
    intro p side room y4 h  W hk
    have pt := W.pt
    refine xr_il3 dX11_firstBadOfParties_15 ?_
    refine xr_al0 dX11_firstBadOfParties_16 ?_
    refine xr_get W.oX fX11_12 rfl dX11_firstBadOfParties_17 ?_
    refine xr_Vi0 (s_slLength W.Ht) kX11_107 (by decide) (Nat.le_of_ble_eq_true rfl) (Nat.zero_add _) (Nat.zero_add _) dX11_firstBadOfParties_20 ?_
    refine xr_icmpge (tgt := 92) dX11_firstBadOfParties_23 (by decide) (fun zc23 => ?_) (fun zc23 => ?_)
    · skip
      exact absurd zc23 (nI_ge (by omega) (by omega))
    · skip
      refine xr_al0 dX11_firstBadOfParties_26 ?_
      refine xr_get W.oX fX11_12 rfl dX11_firstBadOfParties_27 ?_
      refine xr_il3 dX11_firstBadOfParties_30 ?_
      refine xr_Vi1 (s_slAt W.Ht _) kX11_135 (by decide) (Nat.le_of_ble_eq_true rfl) (Nat.zero_add _) (Nat.zero_add _) dX11_firstBadOfParties_31 ?_
      refine xr_is4 dX11_firstBadOfParties_34 (by decide) rfl ?_
      refine xr_il4 dX11_firstBadOfParties_36 ?_
      refine xr_bipush (v := 47) dX11_firstBadOfParties_38 (by decide) ?_
      refine xr_icmpne (tgt := 63) dX11_firstBadOfParties_40 (by decide) (fun zc40 => ?_) (fun zc40 => ?_)
      · skip
        refine xr_il4 dX11_firstBadOfParties_63 ?_
        refine xr_bipush (v := 49) dX11_firstBadOfParties_65 (by decide) ?_
        refine xr_icmplt (tgt := 81) dX11_firstBadOfParties_67 (by decide) (fun zc67 => ?_) (fun zc67 => ?_)
        · skip
          refine xr_il3 dX11_firstBadOfParties_81 ?_
          refine xr_iret dX11_firstBadOfParties_82 rfl ?_
          refine ⟨_, rfl, ?_, W⟩
          rw [fbN_s, if_neg (fun q => zc40 q.1), if_pos (Or.inl zc67)]
        · skip
          refine xr_il4 dX11_firstBadOfParties_70 ?_
          refine xr_bipush (v := 57) dX11_firstBadOfParties_72 (by decide) ?_
          refine xr_icmpgt (tgt := 81) dX11_firstBadOfParties_74 (by decide) (fun zc74 => ?_) (fun zc74 => ?_)
          · skip
            refine xr_il3 dX11_firstBadOfParties_81 ?_
            refine xr_iret dX11_firstBadOfParties_82 rfl ?_
            refine ⟨_, rfl, ?_, W⟩
            rw [fbN_s, if_neg (fun q => zc40 q.1), if_pos (Or.inr (Or.inl zc74))]
          · skip
            refine xr_il2 dX11_firstBadOfParties_77 ?_
            refine xr_ifne (tgt := 83) dX11_firstBadOfParties_78 (by decide) (fun zc78 => ?_) (fun zc78 => ?_)
            · skip
              refine xr_inc2 dX11_firstBadOfParties_83 (show room + Int32.ofInt (-1) = room + (-1) from rfl) (by decide) rfl ?_
              refine xr_inc3 dX11_firstBadOfParties_86 (nI_inc p) (by decide) rfl ?_
              refine xr_goto (tgt := 15) dX11_firstBadOfParties_89 (by decide) ?_
              rw [fbN_s, if_neg (fun q => zc40 q.1), if_neg (fun q => q.elim zc67 (fun q => q.elim zc74 zc78))]
              exact ih (p + 1) side _ _ W (by omega)
            · skip
              refine xr_il3 dX11_firstBadOfParties_81 ?_
              refine xr_iret dX11_firstBadOfParties_82 rfl ?_
              refine ⟨_, rfl, ?_, W⟩
              rw [fbN_s, if_neg (fun q => zc40 q.1), if_pos (Or.inr (Or.inr zc78))]
      · skip
        refine xr_il1 dX11_firstBadOfParties_43 ?_
        refine xr_ifne (tgt := 63) dX11_firstBadOfParties_44 (by decide) (fun zc44 => ?_) (fun zc44 => ?_)
        · skip
          refine xr_il4 dX11_firstBadOfParties_63 ?_
          refine xr_bipush (v := 49) dX11_firstBadOfParties_65 (by decide) ?_
          refine xr_icmplt (tgt := 81) dX11_firstBadOfParties_67 (by decide) (fun zc67 => ?_) (fun zc67 => ?_)
          · skip
            refine xr_il3 dX11_firstBadOfParties_81 ?_
            refine xr_iret dX11_firstBadOfParties_82 rfl ?_
            refine ⟨_, rfl, ?_, W⟩
            rw [fbN_s, if_neg (fun q => zc44 q.2), if_pos (Or.inl zc67)]
          · skip
            refine xr_il4 dX11_firstBadOfParties_70 ?_
            refine xr_bipush (v := 57) dX11_firstBadOfParties_72 (by decide) ?_
            refine xr_icmpgt (tgt := 81) dX11_firstBadOfParties_74 (by decide) (fun zc74 => ?_) (fun zc74 => ?_)
            · skip
              refine xr_il3 dX11_firstBadOfParties_81 ?_
              refine xr_iret dX11_firstBadOfParties_82 rfl ?_
              refine ⟨_, rfl, ?_, W⟩
              rw [fbN_s, if_neg (fun q => zc44 q.2), if_pos (Or.inr (Or.inl zc74))]
            · skip
              refine xr_il2 dX11_firstBadOfParties_77 ?_
              refine xr_ifne (tgt := 83) dX11_firstBadOfParties_78 (by decide) (fun zc78 => ?_) (fun zc78 => ?_)
              · skip
                refine xr_inc2 dX11_firstBadOfParties_83 (show room + Int32.ofInt (-1) = room + (-1) from rfl) (by decide) rfl ?_
                refine xr_inc3 dX11_firstBadOfParties_86 (nI_inc p) (by decide) rfl ?_
                refine xr_goto (tgt := 15) dX11_firstBadOfParties_89 (by decide) ?_
                rw [fbN_s, if_neg (fun q => zc44 q.2), if_neg (fun q => q.elim zc67 (fun q => q.elim zc74 zc78))]
                exact ih (p + 1) side _ _ W (by omega)
              · skip
                refine xr_il3 dX11_firstBadOfParties_81 ?_
                refine xr_iret dX11_firstBadOfParties_82 rfl ?_
                refine ⟨_, rfl, ?_, W⟩
                rw [fbN_s, if_neg (fun q => zc44 q.2), if_pos (Or.inr (Or.inr zc78))]
        · skip
          refine xr_ic1 dX11_firstBadOfParties_47 ?_
          refine xr_is1 dX11_firstBadOfParties_48 (by decide) rfl ?_
          refine xr_ic5 dX11_firstBadOfParties_49 ?_
          refine xr_al0 dX11_firstBadOfParties_50 ?_
          refine xr_get W.oX fX11_26 rfl dX11_firstBadOfParties_51 ?_
          refine xr_ic1 dX11_firstBadOfParties_54 ?_
          refine xr_Vi1 (s_waits W.Hh _) kX11_131 (by decide) (Nat.le_of_ble_eq_true rfl) (Nat.zero_add _) (Nat.zero_add _) dX11_firstBadOfParties_55 ?_
          refine xr_isub dX11_firstBadOfParties_58 ?_
          refine xr_is2 dX11_firstBadOfParties_59 (by decide) rfl ?_
          refine xr_goto (tgt := 86) dX11_firstBadOfParties_60 (by decide) ?_
          refine xr_inc3 dX11_firstBadOfParties_86 (nI_inc p) (by decide) rfl ?_
          refine xr_goto (tgt := 15) dX11_firstBadOfParties_89 (by decide) ?_
          rw [fbN_s, if_pos ⟨zc40, zc44⟩]
          exact ih (p + 1) 1 _ _ W (by omega)
set_option maxRecDepth 20000 in
theorem s_firstBad {K : xK} {B : Nat} {l : Launch} {h0 h : xH} {X D : Nat} {tn : Nat} {tf : Nat → Int32} {rk : Int32} {rv : Nat → Int64} {σ : xs} {β : xs} {γ : xs} {pn : Nat} {τ : Nat → xs} {ks : Nat → Bool} {κ : Nat → xs} {φ : xs → Int32} {hn : Nat} {hf : Nat → Int32} {hg : Nat → Int32} {wn : Nat} {wf : Nat → Int32} {wg : Nat → Int32} (W : xCw K h0 h X D tn tf rk rv σ β γ pn τ ks κ φ hn hf hg wn wf wg) : xV K B l 1 mX11_firstBadOfParties 0 0 (X) [] h (xPi (fun v g => v = fbN tf tn σ tn 0 0 (5 - hWaits σ 0) ∧ xCw K h0 g X D tn tf rk rv σ β γ pn τ ks κ φ hn hf hg wn wf wg)) := by
  refine ⟨⟨_, _, _, _, W.oX, rfl⟩, qX11_firstBadOfParties, ?_⟩
  refine xS.intro RX11 false ⟨rfl, rfl, by decide, by decide, Nat.le_of_ble_eq_true rfl⟩ (ls := [some (.ref X), none, none, none, none]) rfl ?_
  refine xr_ic0 dX11_firstBadOfParties_0 ?_
  refine xr_is1 dX11_firstBadOfParties_1 (by decide) rfl ?_
  refine xr_ic5 dX11_firstBadOfParties_2 ?_
  refine xr_al0 dX11_firstBadOfParties_3 ?_
  refine xr_get W.oX fX11_26 rfl dX11_firstBadOfParties_4 ?_
  refine xr_ic0 dX11_firstBadOfParties_7 ?_
  refine xr_Vi1 (s_waits W.Hh _) kX11_131 (by decide) (Nat.le_of_ble_eq_true rfl) (Nat.zero_add _) (Nat.zero_add _) dX11_firstBadOfParties_8 ?_
  refine xr_isub dX11_firstBadOfParties_11 ?_
  refine xr_is2 dX11_firstBadOfParties_12 (by decide) rfl ?_
  refine xr_ic0 dX11_firstBadOfParties_13 ?_
  refine xr_is3 dX11_firstBadOfParties_14 (by decide) rfl ?_
  exact lp_firstBad tn 0 0 _ none W (by omega)
def lcN (tf : Nat → Int32) (tn : Nat) : Nat → Nat → Nat → Int32 → xs → Int32 × xs
  | 0, _, _, c, σ => (c, σ)
  | r + 1, p, s, c, σ => if slAt tf (nI tn) (nI p) = 47 then lcN tf tn r (p + 1) 1 c σ else lcN tf tn r (p + 1) s (if ln σ s < 5 then c + 1 else c) (hCome σ s (slAt tf (nI tn) (nI p) - 48))
theorem lcN_s (tf : Nat → Int32) (tn r p s : Nat) (c : Int32) (σ : xs) : lcN tf tn (r + 1) p s c σ = if slAt tf (nI tn) (nI p) = 47 then lcN tf tn r (p + 1) 1 c σ else lcN tf tn r (p + 1) s (if ln σ s < 5 then c + 1 else c) (hCome σ s (slAt tf (nI tn) (nI p) - 48)) := rfl
set_option maxRecDepth 20000 in
theorem lp_letCome {K : xK} {B : Nat} {l : Launch} {h0 : xH} {X D : Nat} {tn : Nat} {tf : Nat → Int32} {rk : Int32} {rv : Nat → Int64} {β : xs} {γ : xs} {pn : Nat} {τ : Nat → xs} {ks : Nat → Bool} {κ : Nat → xs} {φ : xs → Int32} {hn : Nat} {hf : Nat → Int32} {hg : Nat → Int32} {wn : Nat} {wf : Nat → Int32} {wg : Nat → Int32}  : ∀ (r : Nat) (p s : Nat) (c : Int32) {h : xH} {σ : xs} (W : xCw K h0 h X D tn tf rk rv σ β γ pn τ ks κ φ hn hf hg wn wf wg), p + r = tn → s < 2 → xT K B l 4 RX11 false cX11_letCome 4 (some .int) 0 0 0 0 (xPi (fun v g => v = (lcN tf tn r p s c σ).1 ∧ xCw K h0 g X D tn tf rk rv ((lcN tf tn r p s c σ).2) β γ pn τ ks κ φ hn hf hg wn wf wg)) 6 [some (.ref X), some (.int (nI s)), some (.int c), some (.int (nI p))] [] h := by
  intro r
  induction r with
  | zero =>
    intro p s c h σ W hk hs
    have pt := W.pt
    refine xr_il3 dX11_letCome_6 ?_
    refine xr_al0 dX11_letCome_7 ?_
    refine xr_get W.oX fX11_12 rfl dX11_letCome_8 ?_
    refine xr_Vi0 (s_slLength W.Ht) kX11_107 (by decide) (Nat.le_of_ble_eq_true rfl) (Nat.zero_add _) (Nat.zero_add _) dX11_letCome_11 ?_
    refine xr_icmpge (tgt := 66) dX11_letCome_14 (by decide) (fun zc14 => ?_) (fun zc14 => ?_)
    · skip
      refine xr_il2 dX11_letCome_66 ?_
      refine xr_iret dX11_letCome_67 rfl ?_
      exact ⟨_, rfl, rfl, W⟩
    · skip
      exact absurd (nI_le (a := tn) (by omega) (by omega)) zc14
  | succ r ih =>
    intro p s c h σ W hk hs
    have pt := W.pt
    refine xr_il3 dX11_letCome_6 ?_
    refine xr_al0 dX11_letCome_7 ?_
    refine xr_get W.oX fX11_12 rfl dX11_letCome_8 ?_
    refine xr_Vi0 (s_slLength W.Ht) kX11_107 (by decide) (Nat.le_of_ble_eq_true rfl) (Nat.zero_add _) (Nat.zero_add _) dX11_letCome_11 ?_
    refine xr_icmpge (tgt := 66) dX11_letCome_14 (by decide) (fun zc14 => ?_) (fun zc14 => ?_)
    · skip
      exact absurd zc14 (nI_ge (by omega) (by omega))
    · skip
      refine xr_al0 dX11_letCome_17 ?_
      refine xr_get W.oX fX11_12 rfl dX11_letCome_18 ?_
      refine xr_il3 dX11_letCome_21 ?_
      refine xr_Vi1 (s_slAt W.Ht _) kX11_135 (by decide) (Nat.le_of_ble_eq_true rfl) (Nat.zero_add _) (Nat.zero_add _) dX11_letCome_22 ?_
      refine xr_bipush (v := 47) dX11_letCome_25 (by decide) ?_
      refine xr_icmpne (tgt := 35) dX11_letCome_27 (by decide) (fun zc27 => ?_) (fun zc27 => ?_)
      · skip
        refine xr_al0 dX11_letCome_35 ?_
        refine xr_get W.oX fX11_26 rfl dX11_letCome_36 ?_
        refine xr_il1 dX11_letCome_39 ?_
        refine xr_al0 dX11_letCome_40 ?_
        refine xr_get W.oX fX11_12 rfl dX11_letCome_41 ?_
        refine xr_il3 dX11_letCome_44 ?_
        refine xr_Vi1 (s_slAt W.Ht _) kX11_135 (by decide) (Nat.le_of_ble_eq_true rfl) (Nat.zero_add _) (Nat.zero_add _) dX11_letCome_45 ?_
        refine xr_bipush (v := 48) dX11_letCome_48 (by decide) ?_
        refine xr_isub dX11_letCome_50 ?_
        refine xr_Vi2 (s_letCome W.Hh W.pok hs _) kX11_138 (by decide) (Nat.le_of_ble_eq_true rfl) (Nat.zero_add _) (Nat.zero_add _) dX11_letCome_51 ?_
        refine xT.nm (fun zh1 zg1 => ?_)
        have W := W.uh (fBH zg1) (hOk_come W.pok hs _)
        refine xr_ifeq (tgt := 60) dX11_letCome_54 (by decide) (fun zc54 => ?_) (fun zc54 => ?_)
        · skip
          refine xr_inc3 dX11_letCome_60 (nI_inc p) (by decide) rfl ?_
          refine xr_goto (tgt := 6) dX11_letCome_63 (by decide) ?_
          rw [lcN_s, if_neg zc27, if_neg (bI_0.mp zc54)]
          exact ih (p + 1) s _ W (by omega) hs
        · skip
          refine xr_inc2 dX11_letCome_57 (show c + Int32.ofInt (1) = c + 1 from rfl) (by decide) rfl ?_
          refine xr_inc3 dX11_letCome_60 (nI_inc p) (by decide) rfl ?_
          refine xr_goto (tgt := 6) dX11_letCome_63 (by decide) ?_
          rw [lcN_s, if_neg zc27, if_pos (Decidable.not_not.mp (fun q => zc54 (bI_0.mpr q)))]
          exact ih (p + 1) s _ W (by omega) hs
      · skip
        refine xr_ic1 dX11_letCome_30 ?_
        refine xr_is1 dX11_letCome_31 (by decide) rfl ?_
        refine xr_goto (tgt := 60) dX11_letCome_32 (by decide) ?_
        refine xr_inc3 dX11_letCome_60 (nI_inc p) (by decide) rfl ?_
        refine xr_goto (tgt := 6) dX11_letCome_63 (by decide) ?_
        rw [lcN_s, if_pos zc27]
        exact ih (p + 1) 1 c W (by omega) (by decide)
set_option maxRecDepth 20000 in
theorem s_letComeAll {K : xK} {B : Nat} {l : Launch} {h0 h : xH} {X D : Nat} {tn : Nat} {tf : Nat → Int32} {rk : Int32} {rv : Nat → Int64} {σ : xs} {β : xs} {γ : xs} {pn : Nat} {τ : Nat → xs} {ks : Nat → Bool} {κ : Nat → xs} {φ : xs → Int32} {hn : Nat} {hf : Nat → Int32} {hg : Nat → Int32} {wn : Nat} {wf : Nat → Int32} {wg : Nat → Int32} (W : xCw K h0 h X D tn tf rk rv σ β γ pn τ ks κ φ hn hf hg wn wf wg) : xV K B l 4 mX11_letCome 0 0 (X) [] h (xPi (fun v g => v = (lcN tf tn tn 0 0 0 σ).1 ∧ xCw K h0 g X D tn tf rk rv ((lcN tf tn tn 0 0 0 σ).2) β γ pn τ ks κ φ hn hf hg wn wf wg)) := by
  refine ⟨⟨_, _, _, _, W.oX, rfl⟩, qX11_letCome, ?_⟩
  refine xS.intro RX11 false ⟨rfl, rfl, by decide, by decide, Nat.le_of_ble_eq_true rfl⟩ (ls := [some (.ref X), none, none, none]) rfl ?_
  refine xr_ic0 dX11_letCome_0 ?_
  refine xr_is1 dX11_letCome_1 (by decide) rfl ?_
  refine xr_ic0 dX11_letCome_2 ?_
  refine xr_is2 dX11_letCome_3 (by decide) rfl ?_
  refine xr_ic0 dX11_letCome_4 ?_
  refine xr_is3 dX11_letCome_5 (by decide) rfl ?_
  exact lp_letCome tn 0 0 0 W (by omega) (by decide)
def ptR (tf : Nat → Int32) (tn : Nat) (σ : xs) (pn : Nat) : Int32 × xs × Nat := if fbN tf tn σ tn 0 0 (5 - hWaits σ 0) = -1 then ((lcN tf tn tn 0 0 0 σ).1, (lcN tf tn tn 0 0 0 σ).2, if (lcN tf tn tn 0 0 0 σ).1 ≤ 0 then pn else 0) else (-1 - fbN tf tn σ tn 0 0 (5 - hWaits σ 0), σ, pn)
set_option maxRecDepth 20000 in
theorem s_parties {K : xK} {B : Nat} {l : Launch} {h0 h : xH} {X D : Nat} {tn : Nat} {tf : Nat → Int32} {rk : Int32} {rv : Nat → Int64} {σ : xs} {β : xs} {γ : xs} {pn : Nat} {τ : Nat → xs} {ks : Nat → Bool} {κ : Nat → xs} {φ : xs → Int32} {hn : Nat} {hf : Nat → Int32} {hg : Nat → Int32} {wn : Nat} {wf : Nat → Int32} {wg : Nat → Int32} (W : xCw K h0 h X D tn tf rk rv σ β γ pn τ ks κ φ hn hf hg wn wf wg) : xV K B l 5 mX11_parties 0 0 (X) [] h (xPi (fun v g => v = (ptR tf tn σ pn).1 ∧ xCw K h0 g X D 0 tf rk rv ((ptR tf tn σ pn).2.1) β γ ((ptR tf tn σ pn).2.2) τ ks κ φ hn hf hg wn wf wg)) := by
  refine ⟨⟨_, _, _, _, W.oX, rfl⟩, qX11_parties, ?_⟩
  refine xS.intro RX11 false ⟨rfl, rfl, by decide, by decide, Nat.le_of_ble_eq_true rfl⟩ (ls := [some (.ref X), none, none]) rfl ?_
  refine xr_al0 dX11_parties_0 ?_
  refine xr_Vpi0 (s_firstBad W) kX11_119 (by decide) (Nat.le_of_ble_eq_true rfl) (Nat.zero_add _) (Nat.zero_add _) dX11_parties_1 (fun zv1 zh1 zq1 => ?_)
  obtain ⟨rfl, W⟩ := zq1
  refine xr_is1 dX11_parties_4 (by decide) rfl ?_
  refine xr_ic0 dX11_parties_5 ?_
  refine xr_is2 dX11_parties_6 (by decide) rfl ?_
  refine xr_il1 dX11_parties_7 ?_
  refine xr_icm1 dX11_parties_8 ?_
  refine xr_icmpne (tgt := 28) dX11_parties_9 (by decide) (fun zc9 => ?_) (fun zc9 => ?_)
  · skip
    refine xr_al0 dX11_parties_28 ?_
    refine xr_get W.oX fX11_12 rfl dX11_parties_29 ?_
    refine xr_Vv0 (s_slClear W.Ht) kX11_128 (by decide) (Nat.le_of_ble_eq_true rfl) (Nat.zero_add _) (Nat.zero_add _) dX11_parties_32 ?_
    refine xT.nm (fun zh2 zg2 => ?_)
    have W := W.ut (tn' := 0) (fB2 zg2) (by decide)
    refine xr_il1 dX11_parties_35 ?_
    refine xr_icm1 dX11_parties_36 ?_
    refine xr_icmpne (tgt := 44) dX11_parties_37 (by decide) (fun zc37 => ?_) (fun zc37 => ?_)
    · skip
      refine xr_icm1 dX11_parties_44 ?_
      refine xr_il1 dX11_parties_45 ?_
      refine xr_isub dX11_parties_46 ?_
      refine xr_iret dX11_parties_47 rfl ?_
      have e : (ptR tf tn σ pn) = _ := if_neg zc9
      rw [e]
      exact ⟨_, rfl, rfl, W⟩
    · skip
      exact absurd zc37 zc9
  · skip
    refine xr_al0 dX11_parties_12 ?_
    refine xr_Vpi0 (s_letComeAll W) kX11_122 (by decide) (Nat.le_of_ble_eq_true rfl) (Nat.zero_add _) (Nat.zero_add _) dX11_parties_13 (fun zv13 zh2 zq2 => ?_)
    obtain ⟨rfl, W⟩ := zq2
    refine xr_is2 dX11_parties_16 (by decide) rfl ?_
    refine xr_il2 dX11_parties_17 ?_
    refine xr_ifle (tgt := 28) dX11_parties_18 (by decide) (fun zc18 => ?_) (fun zc18 => ?_)
    · skip
      refine xr_al0 dX11_parties_28 ?_
      refine xr_get W.oX fX11_12 rfl dX11_parties_29 ?_
      refine xr_Vv0 (s_slClear W.Ht) kX11_128 (by decide) (Nat.le_of_ble_eq_true rfl) (Nat.zero_add _) (Nat.zero_add _) dX11_parties_32 ?_
      refine xT.nm (fun zh3 zg3 => ?_)
      have W := W.ut (tn' := 0) (fB2 zg3) (by decide)
      refine xr_il1 dX11_parties_35 ?_
      refine xr_icm1 dX11_parties_36 ?_
      refine xr_icmpne (tgt := 44) dX11_parties_37 (by decide) (fun zc37 => ?_) (fun zc37 => ?_)
      · skip
        exact absurd zc9 zc37
      · skip
        refine xr_il2 dX11_parties_40 ?_
        refine xr_goto (tgt := 47) dX11_parties_41 (by decide) ?_
        refine xr_iret dX11_parties_47 rfl ?_
        have e : (ptR tf tn σ pn) = _ := if_pos zc9
        rw [if_pos zc18] at e
        rw [e]
        exact ⟨_, rfl, rfl, W⟩
    · skip
      refine xr_al0 dX11_parties_21 ?_
      refine xr_get W.oX fX11_39 rfl dX11_parties_22 ?_
      refine xr_Vpv0 (wForget W) kX11_125 (by decide) (Nat.le_of_ble_eq_true rfl) (Nat.zero_add _) (Nat.zero_add _) dX11_parties_25 (fun zh3 zq3 => ?_)
      have W := zq3
      refine xr_al0 dX11_parties_28 ?_
      refine xr_get W.oX fX11_12 rfl dX11_parties_29 ?_
      refine xr_Vv0 (s_slClear W.Ht) kX11_128 (by decide) (Nat.le_of_ble_eq_true rfl) (Nat.zero_add _) (Nat.zero_add _) dX11_parties_32 ?_
      refine xT.nm (fun zh4 zg4 => ?_)
      have W := W.ut (tn' := 0) (fB2 zg4) (by decide)
      refine xr_il1 dX11_parties_35 ?_
      refine xr_icm1 dX11_parties_36 ?_
      refine xr_icmpne (tgt := 44) dX11_parties_37 (by decide) (fun zc37 => ?_) (fun zc37 => ?_)
      · skip
        exact absurd zc9 zc37
      · skip
        refine xr_il2 dX11_parties_40 ?_
        refine xr_goto (tgt := 47) dX11_parties_41 (by decide) ?_
        refine xr_iret dX11_parties_47 rfl ?_
        have e : (ptR tf tn σ pn) = _ := if_pos zc9
        rw [if_neg zc18] at e
        rw [e]
        exact ⟨_, rfl, rfl, W⟩
