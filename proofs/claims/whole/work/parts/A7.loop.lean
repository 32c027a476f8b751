/-! The law's loop (written by wip/whole/law3.py) -/
set_option maxRecDepth 20000 in
theorem lp_sw {K : xK} {B : Nat} {l : Launch} {X b Ln : Nat} {sc : xs} {MC MS : Nat} (hLn : Ln ≤ 2560) (hl : l.stackTraces = false) {rc rs i : Nat} {h : xH} {x5 x6 x7 : Option Value} (hi : i + 5 ≤ Ln) (I : xLI K B l h X) (hc : ∀ {h : xH} {x5 x6 x7 : Option Value}, xLI K B l h X → yT (psL B b Ln sc) (ZM K B (fun v _ => v = some (.int 1)) MC MS) K B l 1312 RL false cL_law 8 (some .boolean) MC MS rc rs 1438 [some (.ref b), some (.ref X), some (.ref (X + 39)), some (.ref (X + 63)), some (.int (nI i)), x5, x6, x7] [] h) (c : Int32) : yT (psL B b Ln sc) (ZM K B (fun v _ => v = some (.int 1)) MC MS) K B l 1312 RL false cL_law 8 (some .boolean) MC MS (rc + 3) (rs + 21) 39 [some (.ref b), some (.ref X), some (.ref (X + 39)), some (.ref (X + 63)), some (.int (nI i)), x5, x6, x7] [.int c] h := by
  by_cases hlo : c.toInt < (0 : Int) ∨ (48 : Int) < c.toInt
  · refine yr_tabOut (tgt := 1438) dL_law_39 hlo (by decide) ?_
    exact yT.budget (by omega) (by omega) (hc I)
  · obtain ⟨zj, hzj, rfl⟩ := tab_in (lo := 0) (hi := 48) (by decide) hlo
    rcases (show zj = 0 ∨ zj = 1 ∨ zj = 2 ∨ zj = 3 ∨ zj = 4 ∨ zj = 5 ∨ zj = 6 ∨ zj = 7 ∨ zj = 8 ∨ zj = 9 ∨ zj = 10 ∨ zj = 11 ∨ zj = 12 ∨ zj = 13 ∨ zj = 14 ∨ zj = 15 ∨ zj = 16 ∨ zj = 17 ∨ zj = 18 ∨ zj = 19 ∨ zj = 20 ∨ zj = 21 ∨ zj = 22 ∨ zj = 23 ∨ zj = 24 ∨ zj = 25 ∨ zj = 26 ∨ zj = 27 ∨ zj = 28 ∨ zj = 29 ∨ zj = 30 ∨ zj = 31 ∨ zj = 32 ∨ zj = 33 ∨ zj = 34 ∨ zj = 35 ∨ zj = 36 ∨ zj = 37 ∨ zj = 38 ∨ zj = 39 ∨ zj = 40 ∨ zj = 41 ∨ zj = 42 ∨ zj = 43 ∨ zj = 44 ∨ zj = 45 ∨ zj = 46 ∨ zj = 47 ∨ zj = 48 by omega) with rfl | rfl | rfl | rfl | rfl | rfl | rfl | rfl | rfl | rfl | rfl | rfl | rfl | rfl | rfl | rfl | rfl | rfl | rfl | rfl | rfl | rfl | rfl | rfl | rfl | rfl | rfl | rfl | rfl | rfl | rfl | rfl | rfl | rfl | rfl | rfl | rfl | rfl | rfl | rfl | rfl | rfl | rfl | rfl | rfl | rfl | rfl | rfl | rfl
    · refine yr_tabIn (tgt := 248) dL_law_39 (by decide) (by decide) rfl (by decide) ?_
      exact lc_sign (by omega) hi I hc
    · refine yr_tabIn (tgt := 273) dL_law_39 (by decide) (by decide) rfl (by decide) ?_
      exact lc_end (by omega) hi I hc
    · refine yr_tabIn (tgt := 298) dL_law_39 (by decide) (by decide) rfl (by decide) ?_
      exact lc_parties (by omega) hi I hc
    · refine yr_tabIn (tgt := 311) dL_law_39 (by decide) (by decide) rfl (by decide) ?_
      exact lc_rule (by omega) hi I hc
    · refine yr_tabIn (tgt := 324) dL_law_39 (by decide) (by decide) rfl (by decide) ?_
      exact lc_party (by omega) hi hl I hc
    · refine yr_tabIn (tgt := 392) dL_law_39 (by decide) (by decide) rfl (by decide) ?_
      exact lc_sheet (by omega) hi I hc
    · refine yr_tabIn (tgt := 453) dL_law_39 (by decide) (by decide) rfl (by decide) ?_
      exact lc_trip (by omega) hi I hc
    · refine yr_tabIn (tgt := 466) dL_law_39 (by decide) (by decide) rfl (by decide) ?_
      exact lc_sends (by omega) hi I hc
    · refine yr_tabIn (tgt := 503) dL_law_39 (by decide) (by decide) rfl (by decide) ?_
      exact lc_runs (by omega) hi I hc
    · refine yr_tabIn (tgt := 528) dL_law_39 (by decide) (by decide) rfl (by decide) ?_
      exact lc_grips (by omega) hi I hc
    · refine yr_tabIn (tgt := 553) dL_law_39 (by decide) (by decide) rfl (by decide) ?_
      exact lc_seats (by omega) hi I hc
    · refine yr_tabIn (tgt := 578) dL_law_39 (by decide) (by decide) rfl (by decide) ?_
      exact lc_leaves (by omega) hi I hc
    · refine yr_tabIn (tgt := 615) dL_law_39 (by decide) (by decide) rfl (by decide) ?_
      exact lc_swaps (by omega) hi I hc
    · refine yr_tabIn (tgt := 652) dL_law_39 (by decide) (by decide) rfl (by decide) ?_
      exact lc_drains (by omega) hi I hc
    · refine yr_tabIn (tgt := 677) dL_law_39 (by decide) (by decide) rfl (by decide) ?_
      exact lc_day (by omega) hi I hc
    · refine yr_tabIn (tgt := 690) dL_law_39 (by decide) (by decide) rfl (by decide) ?_
      exact lc_undo (by omega) hi I hc
    · refine yr_tabIn (tgt := 703) dL_law_39 (by decide) (by decide) rfl (by decide) ?_
      exact lc_needs (by omega) hi I hc
    · refine yr_tabIn (tgt := 716) dL_law_39 (by decide) (by decide) rfl (by decide) ?_
      exact lc_later (by omega) hi I hc
    · refine yr_tabIn (tgt := 741) dL_law_39 (by decide) (by decide) rfl (by decide) ?_
      exact lc_done (by omega) hi I hc
    · refine yr_tabIn (tgt := 754) dL_law_39 (by decide) (by decide) rfl (by decide) ?_
      exact lc_dry (by omega) hi I hc
    · refine yr_tabIn (tgt := 779) dL_law_39 (by decide) (by decide) rfl (by decide) ?_
      exact lc_when (by omega) hi I hc
    · refine yr_tabIn (tgt := 816) dL_law_39 (by decide) (by decide) rfl (by decide) ?_
      exact lc_enough (by omega) hi I hc
    · refine yr_tabIn (tgt := 829) dL_law_39 (by decide) (by decide) rfl (by decide) ?_
      exact lc_waiting (by omega) hi I hc
    · refine yr_tabIn (tgt := 842) dL_law_39 (by decide) (by decide) rfl (by decide) ?_
      exact lc_holds (by omega) hi I hc
    · refine yr_tabIn (tgt := 867) dL_law_39 (by decide) (by decide) rfl (by decide) ?_
      exact lc_soonest (by omega) hi I hc
    · refine yr_tabIn (tgt := 880) dL_law_39 (by decide) (by decide) rfl (by decide) ?_
      exact lc_most (by omega) hi I hc
    · refine yr_tabIn (tgt := 905) dL_law_39 (by decide) (by decide) rfl (by decide) ?_
      exact lc_least (by omega) hi I hc
    · refine yr_tabIn (tgt := 930) dL_law_39 (by decide) (by decide) rfl (by decide) ?_
      exact lc_freely (by omega) hi I hc
    · refine yr_tabIn (tgt := 943) dL_law_39 (by decide) (by decide) rfl (by decide) ?_
      exact lc_best (by omega) hi I hc
    · refine yr_tabIn (tgt := 956) dL_law_39 (by decide) (by decide) rfl (by decide) ?_
      exact lc_alike (by omega) hi I hc
    · refine yr_tabIn (tgt := 969) dL_law_39 (by decide) (by decide) rfl (by decide) ?_
      exact lc_parts (by omega) hi I hc
    · refine yr_tabIn (tgt := 994) dL_law_39 (by decide) (by decide) rfl (by decide) ?_
      exact lc_spare (by omega) hi I hc
    · refine yr_tabIn (tgt := 1007) dL_law_39 (by decide) (by decide) rfl (by decide) ?_
      exact lc_odds (by omega) hi I hc
    · refine yr_tabIn (tgt := 1044) dL_law_39 (by decide) (by decide) rfl (by decide) ?_
      exact lc_heard (by omega) hi I hc
    · refine yr_tabIn (tgt := 1081) dL_law_39 (by decide) (by decide) rfl (by decide) ?_
      exact lc_forget (by omega) hi I hc
    · refine yr_tabIn (tgt := 1094) dL_law_39 (by decide) (by decide) rfl (by decide) ?_
      exact lc_fits (by omega) hi I hc
    · refine yr_tabIn (tgt := 1107) dL_law_39 (by decide) (by decide) rfl (by decide) ?_
      exact lc_asks (by omega) hi I hc
    · refine yr_tabIn (tgt := 1120) dL_law_39 (by decide) (by decide) rfl (by decide) ?_
      exact lc_saw (by omega) hi I hc
    · refine yr_tabIn (tgt := 1169) dL_law_39 (by decide) (by decide) rfl (by decide) ?_
      exact lc_denies (by omega) hi I hc
    · refine yr_tabIn (tgt := 1182) dL_law_39 (by decide) (by decide) rfl (by decide) ?_
      exact lc_laws (by omega) hi I hc
    · refine yr_tabIn (tgt := 1195) dL_law_39 (by decide) (by decide) rfl (by decide) ?_
      exact lc_looks (by omega) hi I hc
    · refine yr_tabIn (tgt := 1208) dL_law_39 (by decide) (by decide) rfl (by decide) ?_
      exact lc_pails (by omega) hi I hc
    · refine yr_tabIn (tgt := 1233) dL_law_39 (by decide) (by decide) rfl (by decide) ?_
      exact lc_rests (by omega) hi I hc
    · refine yr_tabIn (tgt := 1258) dL_law_39 (by decide) (by decide) rfl (by decide) ?_
      exact lc_law (by omega) hi I hc
    · refine yr_tabIn (tgt := 1271) dL_law_39 (by decide) (by decide) rfl (by decide) ?_
      exact lc_years (by omega) hi I hc
    · refine yr_tabIn (tgt := 1308) dL_law_39 (by decide) (by decide) rfl (by decide) ?_
      exact lc_keep (by omega) hi I hc
    · refine yr_tabIn (tgt := 1333) dL_law_39 (by decide) (by decide) rfl (by decide) ?_
      exact lc_again (by omega) hi I hc
    · refine yr_tabIn (tgt := 1358) dL_law_39 (by decide) (by decide) rfl (by decide) ?_
      exact lc_count (by omega) hi I hc
    · refine yr_tabIn (tgt := 1383) dL_law_39 (by decide) (by decide) rfl (by decide) ?_
      exact lc_row (by omega) hi hl I hc
set_option maxRecDepth 20000 in
theorem lp_whole {K : xK} {B : Nat} {l : Launch} {X b Ln : Nat} {sc : xs} {MC MS : Nat} (hLn : Ln ≤ 2560) (hl : l.stackTraces = false) : ∀ (r i : Nat) {h : xH} {x5 x6 x7 : Option Value}, i ≤ Ln → Ln < i + 5 * r + 5 → xLI K B l h X → yT (psL B b Ln sc) (ZM K B (fun v _ => v = some (.int 1)) MC MS) K B l 1312 RL false cL_law 8 (some .boolean) MC MS (3 * r) (21 * r) 23 [some (.ref b), some (.ref X), some (.ref (X + 39)), some (.ref (X + 63)), some (.int (nI i)), x5, x6, x7] [] h := by
  intro r
  induction r with
  | zero =>
    intro i h x5 x6 x7 h1 h2 I
    refine yr_il4 dL_law_23 ?_
    refine yr_al0 dL_law_25 ?_
    refine yr_slen dL_law_26 ?_
    refine yr_ic5 dL_law_27 ?_
    refine yr_isub dL_law_28 ?_
    refine yr_icmpgt (tgt := 1444) dL_law_29 (by decide) (fun zc => ?_) (fun zc => ?_)
    · refine yr_ic1 dL_law_1444 ?_
      exact yr_zmret dL_law_1445 rfl rfl rfl
    · exact absurd ((lw_cmp (by omega) (by omega)).mpr (by omega)) zc
  | succ r ih =>
    intro i h x5 x6 x7 h1 h2 I
    refine yr_il4 dL_law_23 ?_
    refine yr_al0 dL_law_25 ?_
    refine yr_slen dL_law_26 ?_
    refine yr_ic5 dL_law_27 ?_
    refine yr_isub dL_law_28 ?_
    refine yr_icmpgt (tgt := 1444) dL_law_29 (by decide) (fun zc => ?_) (fun zc => ?_)
    · refine yr_ic1 dL_law_1444 ?_
      exact yr_zmret dL_law_1445 rfl rfl rfl
    · have hi : i + 5 ≤ Ln := Decidable.not_not.mp (fun q => zc ((lw_cmp (by omega) (by omega)).mpr q))
      refine yr_al0 dL_law_32 ?_
      refine yr_il4 dL_law_33 ?_
      refine yr_sald (xix_nI (n := Ln) (j := i) (by omega) (by omega)) dL_law_35 ?_
      refine yr_bipush (v := 63) dL_law_36 (by decide) ?_
      refine yr_iand dL_law_38 ?_
      refine lp_sw hLn hl hi I (fun {h x5 x6 x7} I => ?_) _
      refine yr_inc4 dL_law_1438 (v := nI (i + 5)) (nI_add i 5) (by decide) rfl ?_
      refine yr_goto (tgt := 23) dL_law_1441 (by decide) ?_
      exact ih (i + 5) (by omega) (by omega) I
