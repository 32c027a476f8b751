/-! Cases of the law that catch (written by wip/whole/law3.py) -/
set_option maxRecDepth 20000 in
theorem lc_party2 {K : xK} {B : Nat} {l : Launch} {X b Ln : Nat} {sc : xs} {MC MS rc rs : Nat} {ZP : List Frame → Array Value → State → State → Prop} {i : Nat} {h : xH} {x5 x6 x7 : Option Value} (hLn : Ln < 2 ^ 31) (hi : i + 5 ≤ Ln) {tn : Nat} {tf : xs} {rk : Int32} {rv : Nat → Int64} {σ β γ : xs} {pn : Nat} {τ : Nat → xs} {ks : Nat → Bool} {κ : Nat → xs} {φ : xs → Int32} {hn : Nat} {hf hg : xs} {wn : Nat} {wf wg : xs} {th : Int32} {ov : Nat → Int64} (W : xCw K h h X (X + 64) tn tf rk rv σ β γ pn τ ks κ φ hn hf hg wn wf wg) (A : xMa K B l h h (X + 39) th tn tf rk rv σ pn τ ks κ φ hn hf hg wn wf wg) (ho : h.2 (X + 63) = some (lA K 1 ov)) {k : Int32} (hk : (hHas σ (sc (i + 1)) (sc (i + 2)) ∧ k = 0 ∧ ov 0 = (hWat σ (sc (i + 1)) (sc (i + 2))).toInt64) ∨ (¬ hHas σ (sc (i + 1)) (sc (i + 2)) ∧ k = 1)) (hc : ∀ {h : xH} {x5 x6 x7 : Option Value}, xLI K B l h X → yT (psL B b Ln sc) ZP K B l 1312 RL false cL_law 8 (some .boolean) MC MS rc rs 1438 [some (.ref b), some (.ref X), some (.ref (X + 39)), some (.ref (X + 63)), some (.int (nI i)), x5, x6, x7] [] h) : yT (psL B b Ln sc) ZP K B l 1312 RL false cL_law 8 (some .boolean) MC MS (rc + 2) (rs + 15) 341 [some (.ref b), some (.ref X), some (.ref (X + 39)), some (.ref (X + 63)), some (.int (nI i)), x5, x6, x7] [.int k] h := by
  refine yr_is5 dL_law_341 (by decide) rfl ?_
  refine yr_al2 dL_law_343 ?_
  refine yr_al0 dL_law_344 ?_
  refine yr_il4 dL_law_345 ?_
  refine yr_ic1 dL_law_347 ?_
  refine yr_iadd dL_law_348 ?_
  refine yr_eqi (y := nI (i + 1)) (nI_add i 1) ?_
  refine yr_sald (xix_nI (n := Ln) (j := i + 1) (by omega) hLn) dL_law_349 ?_
  refine yr_al0 dL_law_350 ?_
  refine yr_il4 dL_law_351 ?_
  refine yr_ic2 dL_law_353 ?_
  refine yr_iadd dL_law_354 ?_
  refine yr_eqi (y := nI (i + 2)) (nI_add i 2) ?_
  refine yr_sald (xix_nI (n := Ln) (j := i + 2) (by omega) hLn) dL_law_355 ?_
  refine yr_Vpi2 (a_party A (sc (i + 1)) (sc (i + 2))) kL_47 (Nat.le_of_ble_eq_true rfl) (Nat.le_of_ble_eq_true rfl) (Nat.zero_add _) (Nat.zero_add _) dL_law_356 (fun zv2 g2 q2 => ?_)
  rcases hk with ⟨zh, rfl, e0⟩ | ⟨zh, rfl⟩
  · rcases q2 with ⟨zd, rfl, A2⟩ | ⟨zd, A2⟩
    · skip
      refine yr_is6 dL_law_359 (by decide) rfl ?_
      refine yr_al2 dL_law_361 ?_
      refine yr_Vpi0 (a_thrown A2) kL_48 (Nat.le_of_ble_eq_true rfl) (Nat.le_of_ble_eq_true rfl) (Nat.zero_add _) (Nat.zero_add _) dL_law_362 (fun zv3 g3 q3 => ?_)
      obtain ⟨rfl, A3⟩ := q3
      refine yr_il5 dL_law_365 ?_
      refine yr_icmpeq (tgt := 372) dL_law_367 (by decide) (fun _ => ?_) (fun zc => absurd rfl zc)
      refine yr_il5 dL_law_372 ?_
      refine yr_ifne (tgt := 389) dL_law_374 (by decide) (fun zc => absurd rfl zc) (fun _ => ?_)
      refine yr_al3 dL_law_377 ?_
      refine yr_ic0 dL_law_378 ?_
      refine yr_lald ((A3.fr.2 (X + 63) (by omega)).trans ho) (xix_lit (j := 0) (by decide)) dL_law_379 ?_
      refine yr_il6 dL_law_380 ?_
      refine yr_i2l dL_law_382 ?_
      refine yr_lcmp dL_law_383 ?_
      refine yr_eqi (y := 0) (by rw [e0]; exact lg_cmp_s _) ?_
      refine yr_ifeq (tgt := 389) dL_law_384 (by decide) (fun _ => ?_) (fun zc => absurd rfl zc)
      refine yr_goto (tgt := 1438) dL_law_389 (by decide) ?_
      exact yT.budget (by omega) (by omega) (hc (lw_jn W A3 ho))
    · exact absurd zh zd
  · rcases q2 with ⟨zd, rfl, A2⟩ | ⟨zd, A2⟩
    · exact absurd zd zh
    · skip
      refine yr_is6 dL_law_359 (by decide) rfl ?_
      refine yr_al2 dL_law_361 ?_
      refine yr_Vpi0 (a_thrown A2) kL_48 (Nat.le_of_ble_eq_true rfl) (Nat.le_of_ble_eq_true rfl) (Nat.zero_add _) (Nat.zero_add _) dL_law_362 (fun zv3 g3 q3 => ?_)
      obtain ⟨rfl, A3⟩ := q3
      refine yr_il5 dL_law_365 ?_
      refine yr_icmpeq (tgt := 372) dL_law_367 (by decide) (fun _ => ?_) (fun zc => absurd rfl zc)
      refine yr_il5 dL_law_372 ?_
      refine yr_ifne (tgt := 389) dL_law_374 (by decide) (fun _ => ?_) (fun zc => absurd zc (by decide))
      refine yr_goto (tgt := 1438) dL_law_389 (by decide) ?_
      exact yT.budget (by omega) (by omega) (hc (lw_jn W A3 ho))
set_option maxRecDepth 20000 in
theorem lc_party {K : xK} {B : Nat} {l : Launch} {X b Ln : Nat} {sc : xs} {MC MS rc rs : Nat} {ZP : List Frame → Array Value → State → State → Prop} {i : Nat} {h : xH} {x5 x6 x7 : Option Value} (hLn : Ln < 2 ^ 31) (hi : i + 5 ≤ Ln) (hl : l.stackTraces = false) (I : xLI K B l h X) (hc : ∀ {h : xH} {x5 x6 x7 : Option Value}, xLI K B l h X → yT (psL B b Ln sc) ZP K B l 1312 RL false cL_law 8 (some .boolean) MC MS rc rs 1438 [some (.ref b), some (.ref X), some (.ref (X + 39)), some (.ref (X + 63)), some (.int (nI i)), x5, x6, x7] [] h) : yT (psL B b Ln sc) ZP K B l 1312 RL false cL_law 8 (some .boolean) MC MS (rc + 3) (rs + 21) 324 [some (.ref b), some (.ref X), some (.ref (X + 39)), some (.ref (X + 63)), some (.int (nI i)), x5, x6, x7] [] h := by
  obtain ⟨tn, tf, rk, rv, σ, β, γ, pn, τ, ks, κ, φ, hn, hf, hg, wn, wf, wg, th, ov, W, A, ho⟩ := I
  refine yr_al1 dL_law_324 ?_
  refine yr_al0 dL_law_325 ?_
  refine yr_il4 dL_law_326 ?_
  refine yr_ic1 dL_law_328 ?_
  refine yr_iadd dL_law_329 ?_
  refine yr_eqi (y := nI (i + 1)) (nI_add i 1) ?_
  refine yr_sald (xix_nI (n := Ln) (j := i + 1) (by omega) hLn) dL_law_330 ?_
  refine yr_al0 dL_law_331 ?_
  refine yr_il4 dL_law_332 ?_
  refine yr_ic2 dL_law_334 ?_
  refine yr_iadd dL_law_335 ?_
  refine yr_eqi (y := nI (i + 2)) (nI_add i 2) ?_
  refine yr_sald (xix_nI (n := Ln) (j := i + 2) (by omega) hLn) dL_law_336 ?_
  refine yr_al3 dL_law_337 ?_
  refine yr_callSW (y := yL_party) (av := [.ref X, .int (sc (i + 1)), .int (sc (i + 2)), .ref (X + 63)]) (m_Lparty W hl ho (sc (i + 1)) (sc (i + 2))) (xt5 (i := 38) rfl rfl) (xt1 (i := 0) rfl rfl) ⟨by decide, by decide⟩ rfl (by decide) (xt5 (i := 37) rfl rfl) (xt5 (i := 36) rfl rfl) (fun s c z => z.2) (Nat.le_of_ble_eq_true rfl) rfl (Nat.le_of_ble_eq_true rfl) (rc' := rc + 2) (rs' := rs + 15) (by omega) (by omega) dL_law_338 (fun r g1 q1 => ?_)
  rcases q1 with ⟨zh, rfl, e1⟩ | ⟨zh, rfl, e1, e2⟩
  · refine lc_party2 hLn hi (W.mv (g := g1) ⟨by rw [e1]; rfl, fun c hc => by rw [e1]; exact xup_ne _ _ (by omega)⟩) (A.mv (g := g1) (fun c h1 h2 => by rw [e1]; exact xup_ne _ _ (by omega))) (by rw [e1]; exact xup_eq _ _ _) (Or.inl ⟨zh, rfl, rfl⟩) hc
  · refine lc_party2 hLn hi (W.mvL (g := g1) e1 (fun c _ => by rw [e2])) (A.mv (g := g1) (fun c _ _ => by rw [e2])) (by rw [e2]; exact ho) (Or.inr ⟨zh, rfl⟩) hc
set_option maxRecDepth 20000 in
theorem lc_row2 {K : xK} {B : Nat} {l : Launch} {X b Ln : Nat} {sc : xs} {MC MS rc rs : Nat} {ZP : List Frame → Array Value → State → State → Prop} {i : Nat} {h : xH} {x5 x6 x7 : Option Value} (hLn : Ln < 2 ^ 31) (hi : i + 5 ≤ Ln) {tn : Nat} {tf : xs} {rk : Int32} {rv : Nat → Int64} {σ β γ : xs} {pn : Nat} {τ : Nat → xs} {ks : Nat → Bool} {κ : Nat → xs} {φ : xs → Int32} {hn : Nat} {hf hg : xs} {wn : Nat} {wf wg : xs} {th : Int32} {ov : Nat → Int64} (W : xCw K h h X (X + 64) tn tf rk rv σ β γ pn τ ks κ φ hn hf hg wn wf wg) (A : xMa K B l h h (X + 39) th tn tf rk rv σ pn τ ks κ φ hn hf hg wn wf wg) (ho : h.2 (X + 63) = some (lA K 1 ov)) {k : Int32} (hk : (nuHas rk (sc (i + 1)) ∧ k = 0 ∧ ov 0 = rv (sc (i + 1)).toNatClampNeg) ∨ (¬ nuHas rk (sc (i + 1)) ∧ k = 1)) (hc : ∀ {h : xH} {x5 x6 x7 : Option Value}, xLI K B l h X → yT (psL B b Ln sc) ZP K B l 1312 RL false cL_law 8 (some .boolean) MC MS rc rs 1438 [some (.ref b), some (.ref X), some (.ref (X + 39)), some (.ref (X + 63)), some (.int (nI i)), x5, x6, x7] [] h) : yT (psL B b Ln sc) ZP K B l 1312 RL false cL_law 8 (some .boolean) MC MS (rc + 2) (rs + 15) 1394 [some (.ref b), some (.ref X), some (.ref (X + 39)), some (.ref (X + 63)), some (.int (nI i)), x5, x6, x7] [.int k] h := by
  refine yr_is5 dL_law_1394 (by decide) rfl ?_
  refine yr_al2 dL_law_1396 ?_
  refine yr_al0 dL_law_1397 ?_
  refine yr_il4 dL_law_1398 ?_
  refine yr_ic1 dL_law_1400 ?_
  refine yr_iadd dL_law_1401 ?_
  refine yr_eqi (y := nI (i + 1)) (nI_add i 1) ?_
  refine yr_sald (xix_nI (n := Ln) (j := i + 1) (by omega) hLn) dL_law_1402 ?_
  refine yr_Vpl1 (a_row A (sc (i + 1))) kL_228 (Nat.le_of_ble_eq_true rfl) (Nat.le_of_ble_eq_true rfl) (Nat.zero_add _) (Nat.zero_add _) dL_law_1403 (fun zv2 g2 q2 => ?_)
  rcases hk with ⟨zh, rfl, e0⟩ | ⟨zh, rfl⟩
  · rcases q2 with ⟨zd, rfl, A2⟩ | ⟨zd, A2⟩
    · skip
      refine yr_ls6 dL_law_1406 (by decide) rfl ?_
      refine yr_al2 dL_law_1408 ?_
      refine yr_Vpi0 (a_thrown A2) kL_48 (Nat.le_of_ble_eq_true rfl) (Nat.le_of_ble_eq_true rfl) (Nat.zero_add _) (Nat.zero_add _) dL_law_1409 (fun zv3 g3 q3 => ?_)
      obtain ⟨rfl, A3⟩ := q3
      refine yr_il5 dL_law_1412 ?_
      refine yr_icmpeq (tgt := 1419) dL_law_1414 (by decide) (fun _ => ?_) (fun zc => absurd rfl zc)
      refine yr_il5 dL_law_1419 ?_
      refine yr_ifne (tgt := 1435) dL_law_1421 (by decide) (fun zc => absurd rfl zc) (fun _ => ?_)
      refine yr_al3 dL_law_1424 ?_
      refine yr_ic0 dL_law_1425 ?_
      refine yr_lald ((A3.fr.2 (X + 63) (by omega)).trans ho) (xix_lit (j := 0) (by decide)) dL_law_1426 ?_
      refine yr_ll6 dL_law_1427 ?_
      refine yr_lcmp dL_law_1429 ?_
      refine yr_eqi (y := 0) (by rw [e0]; exact lg_cmp_s _) ?_
      refine yr_ifeq (tgt := 1435) dL_law_1430 (by decide) (fun _ => ?_) (fun zc => absurd rfl zc)
      refine yr_goto (tgt := 1438) dL_law_1435 (by decide) ?_
      exact yT.budget (by omega) (by omega) (hc (lw_jn W A3 ho))
    · exact absurd zh zd
  · rcases q2 with ⟨zd, rfl, A2⟩ | ⟨zd, A2⟩
    · exact absurd zd zh
    · skip
      refine yr_ls6 dL_law_1406 (by decide) rfl ?_
      refine yr_al2 dL_law_1408 ?_
      refine yr_Vpi0 (a_thrown A2) kL_48 (Nat.le_of_ble_eq_true rfl) (Nat.le_of_ble_eq_true rfl) (Nat.zero_add _) (Nat.zero_add _) dL_law_1409 (fun zv3 g3 q3 => ?_)
      obtain ⟨rfl, A3⟩ := q3
      refine yr_il5 dL_law_1412 ?_
      refine yr_icmpeq (tgt := 1419) dL_law_1414 (by decide) (fun _ => ?_) (fun zc => absurd rfl zc)
      refine yr_il5 dL_law_1419 ?_
      refine yr_ifne (tgt := 1435) dL_law_1421 (by decide) (fun _ => ?_) (fun zc => absurd zc (by decide))
      refine yr_goto (tgt := 1438) dL_law_1435 (by decide) ?_
      exact yT.budget (by omega) (by omega) (hc (lw_jn W A3 ho))
set_option maxRecDepth 20000 in
theorem lc_row {K : xK} {B : Nat} {l : Launch} {X b Ln : Nat} {sc : xs} {MC MS rc rs : Nat} {ZP : List Frame → Array Value → State → State → Prop} {i : Nat} {h : xH} {x5 x6 x7 : Option Value} (hLn : Ln < 2 ^ 31) (hi : i + 5 ≤ Ln) (hl : l.stackTraces = false) (I : xLI K B l h X) (hc : ∀ {h : xH} {x5 x6 x7 : Option Value}, xLI K B l h X → yT (psL B b Ln sc) ZP K B l 1312 RL false cL_law 8 (some .boolean) MC MS rc rs 1438 [some (.ref b), some (.ref X), some (.ref (X + 39)), some (.ref (X + 63)), some (.int (nI i)), x5, x6, x7] [] h) : yT (psL B b Ln sc) ZP K B l 1312 RL false cL_law 8 (some .boolean) MC MS (rc + 3) (rs + 21) 1383 [some (.ref b), some (.ref X), some (.ref (X + 39)), some (.ref (X + 63)), some (.int (nI i)), x5, x6, x7] [] h := by
  obtain ⟨tn, tf, rk, rv, σ, β, γ, pn, τ, ks, κ, φ, hn, hf, hg, wn, wf, wg, th, ov, W, A, ho⟩ := I
  refine yr_al1 dL_law_1383 ?_
  refine yr_al0 dL_law_1384 ?_
  refine yr_il4 dL_law_1385 ?_
  refine yr_ic1 dL_law_1387 ?_
  refine yr_iadd dL_law_1388 ?_
  refine yr_eqi (y := nI (i + 1)) (nI_add i 1) ?_
  refine yr_sald (xix_nI (n := Ln) (j := i + 1) (by omega) hLn) dL_law_1389 ?_
  refine yr_al3 dL_law_1390 ?_
  refine yr_callSW (y := yL_row) (av := [.ref X, .int (sc (i + 1)), .ref (X + 63)]) (m_Lrow W hl ho (sc (i + 1))) (xt5 (i := 107) rfl rfl) (xt1 (i := 0) rfl rfl) ⟨by decide, by decide⟩ rfl (by decide) (xt5 (i := 106) rfl rfl) (xt5 (i := 105) rfl rfl) (fun s c z => z.2) (Nat.le_of_ble_eq_true rfl) rfl (Nat.le_of_ble_eq_true rfl) (rc' := rc + 2) (rs' := rs + 15) (by omega) (by omega) dL_law_1391 (fun r g1 q1 => ?_)
  rcases q1 with ⟨zh, rfl, e1⟩ | ⟨zh, rfl, e1, e2⟩
  · refine lc_row2 hLn hi (W.mv (g := g1) ⟨by rw [e1]; rfl, fun c hc => by rw [e1]; exact xup_ne _ _ (by omega)⟩) (A.mv (g := g1) (fun c h1 h2 => by rw [e1]; exact xup_ne _ _ (by omega))) (by rw [e1]; exact xup_eq _ _ _) (Or.inl ⟨zh, rfl, rfl⟩) hc
  · refine lc_row2 hLn hi (W.mvL (g := g1) e1 (fun c _ => by rw [e2])) (A.mv (g := g1) (fun c _ _ => by rw [e2])) (by rw [e2]; exact ho) (Or.inr ⟨zh, rfl⟩) hc
