/-! Cases of the law (written by wip/whole/law2.py) -/
set_option maxRecDepth 20000 in
theorem lc_sign {K : xK} {B : Nat} {l : Launch} {X b Ln : Nat} {sc : xs} {MC MS rc rs : Nat} {ZP : List Frame → Array Value → State → State → Prop} {i : Nat} {h : xH} {x5 x6 x7 : Option Value} (hLn : Ln < 2 ^ 31) (hi : i + 5 ≤ Ln) (I : xLI K B l h X) (hc : ∀ {h : xH} {x5 x6 x7 : Option Value}, xLI K B l h X → yT (psL B b Ln sc) ZP K B l 1312 RL false cL_law 8 (some .boolean) MC MS rc rs 1438 [some (.ref b), some (.ref X), some (.ref (X + 39)), some (.ref (X + 63)), some (.int (nI i)), x5, x6, x7] [] h) : yT (psL B b Ln sc) ZP K B l 1312 RL false cL_law 8 (some .boolean) MC MS (rc + 3) (rs + 21) 248 [some (.ref b), some (.ref X), some (.ref (X + 39)), some (.ref (X + 63)), some (.int (nI i)), x5, x6, x7] [] h := by
  obtain ⟨tn, tf, rk, rv, σ, β, γ, pn, τ, ks, κ, φ, hn, hf, hg, wn, wf, wg, th, ov, W, A, ho⟩ := I
  refine yr_al1 dL_law_248 ?_
  refine yr_al0 dL_law_249 ?_
  refine yr_il4 dL_law_250 ?_
  refine yr_ic1 dL_law_252 ?_
  refine yr_iadd dL_law_253 ?_
  refine yr_eqi (y := nI (i + 1)) (nI_add i 1) ?_
  refine yr_sald (xix_nI (n := Ln) (j := i + 1) (by omega) hLn) dL_law_254 ?_
  refine yr_Vpi1 (s_sign W (sc (i + 1))) kL_23 (Nat.le_of_ble_eq_true rfl) (Nat.le_of_ble_eq_true rfl) (rc' := rc + 3) (rs' := rs + 21) (Nat.zero_add _) (Nat.zero_add _) dL_law_255 (fun zv1 g1 q1 => ?_)
  obtain ⟨rfl, W1⟩ := q1
  have A1 := lw_am W1 A
  have ho1 := (W1.pf (X + 63) (by omega) (by omega)).trans ho
  refine yr_al2 dL_law_258 ?_
  refine yr_al0 dL_law_259 ?_
  refine yr_il4 dL_law_260 ?_
  refine yr_ic1 dL_law_262 ?_
  refine yr_iadd dL_law_263 ?_
  refine yr_eqi (y := nI (i + 1)) (nI_add i 1) ?_
  refine yr_sald (xix_nI (n := Ln) (j := i + 1) (by omega) hLn) dL_law_264 ?_
  refine yr_Vpi1 (a_sign A1 (sc (i + 1))) kL_27 (Nat.le_of_ble_eq_true rfl) (Nat.le_of_ble_eq_true rfl) (Nat.zero_add _) (Nat.zero_add _) dL_law_265 (fun zv2 g2 q2 => ?_)
  obtain ⟨rfl, A2⟩ := q2
  refine yr_icmpeq (tgt := 1438) dL_law_268 (by decide) (fun _ => ?_) (fun zc => absurd rfl zc)
  exact yT.budget (by omega) (by omega) (hc (lw_jn W1 A2 ho1))
set_option maxRecDepth 20000 in
theorem lc_end {K : xK} {B : Nat} {l : Launch} {X b Ln : Nat} {sc : xs} {MC MS rc rs : Nat} {ZP : List Frame → Array Value → State → State → Prop} {i : Nat} {h : xH} {x5 x6 x7 : Option Value} (hLn : Ln < 2 ^ 31) (hi : i + 5 ≤ Ln) (I : xLI K B l h X) (hc : ∀ {h : xH} {x5 x6 x7 : Option Value}, xLI K B l h X → yT (psL B b Ln sc) ZP K B l 1312 RL false cL_law 8 (some .boolean) MC MS rc rs 1438 [some (.ref b), some (.ref X), some (.ref (X + 39)), some (.ref (X + 63)), some (.int (nI i)), x5, x6, x7] [] h) : yT (psL B b Ln sc) ZP K B l 1312 RL false cL_law 8 (some .boolean) MC MS (rc + 3) (rs + 21) 273 [some (.ref b), some (.ref X), some (.ref (X + 39)), some (.ref (X + 63)), some (.int (nI i)), x5, x6, x7] [] h := by
  obtain ⟨tn, tf, rk, rv, σ, β, γ, pn, τ, ks, κ, φ, hn, hf, hg, wn, wf, wg, th, ov, W, A, ho⟩ := I
  refine yr_al1 dL_law_273 ?_
  refine yr_al0 dL_law_274 ?_
  refine yr_il4 dL_law_275 ?_
  refine yr_ic1 dL_law_277 ?_
  refine yr_iadd dL_law_278 ?_
  refine yr_eqi (y := nI (i + 1)) (nI_add i 1) ?_
  refine yr_sald (xix_nI (n := Ln) (j := i + 1) (by omega) hLn) dL_law_279 ?_
  refine yr_Vpi1 (s_end W (sc (i + 1))) kL_28 (Nat.le_of_ble_eq_true rfl) (Nat.le_of_ble_eq_true rfl) (rc' := rc + 3) (rs' := rs + 21) (Nat.zero_add _) (Nat.zero_add _) dL_law_280 (fun zv1 g1 q1 => ?_)
  obtain ⟨rfl, W1⟩ := q1
  have A1 := lw_am W1 A
  have ho1 := (W1.pf (X + 63) (by omega) (by omega)).trans ho
  refine yr_al2 dL_law_283 ?_
  refine yr_al0 dL_law_284 ?_
  refine yr_il4 dL_law_285 ?_
  refine yr_ic1 dL_law_287 ?_
  refine yr_iadd dL_law_288 ?_
  refine yr_eqi (y := nI (i + 1)) (nI_add i 1) ?_
  refine yr_sald (xix_nI (n := Ln) (j := i + 1) (by omega) hLn) dL_law_289 ?_
  refine yr_Vpi1 (a_end A1 (sc (i + 1))) kL_32 (Nat.le_of_ble_eq_true rfl) (Nat.le_of_ble_eq_true rfl) (Nat.zero_add _) (Nat.zero_add _) dL_law_290 (fun zv2 g2 q2 => ?_)
  obtain ⟨rfl, A2⟩ := q2
  refine yr_icmpeq (tgt := 1438) dL_law_293 (by decide) (fun _ => ?_) (fun zc => absurd rfl zc)
  exact yT.budget (by omega) (by omega) (hc (lw_jn W1 A2 ho1))
set_option maxRecDepth 20000 in
theorem lc_parties {K : xK} {B : Nat} {l : Launch} {X b Ln : Nat} {sc : xs} {MC MS rc rs : Nat} {ZP : List Frame → Array Value → State → State → Prop} {i : Nat} {h : xH} {x5 x6 x7 : Option Value} (hLn : Ln < 2 ^ 31) (hi : i + 5 ≤ Ln) (I : xLI K B l h X) (hc : ∀ {h : xH} {x5 x6 x7 : Option Value}, xLI K B l h X → yT (psL B b Ln sc) ZP K B l 1312 RL false cL_law 8 (some .boolean) MC MS rc rs 1438 [some (.ref b), some (.ref X), some (.ref (X + 39)), some (.ref (X + 63)), some (.int (nI i)), x5, x6, x7] [] h) : yT (psL B b Ln sc) ZP K B l 1312 RL false cL_law 8 (some .boolean) MC MS (rc + 3) (rs + 21) 298 [some (.ref b), some (.ref X), some (.ref (X + 39)), some (.ref (X + 63)), some (.int (nI i)), x5, x6, x7] [] h := by
  obtain ⟨tn, tf, rk, rv, σ, β, γ, pn, τ, ks, κ, φ, hn, hf, hg, wn, wf, wg, th, ov, W, A, ho⟩ := I
  refine yr_al1 dL_law_298 ?_
  refine yr_Vpi0 (s_parties W ) kL_33 (Nat.le_of_ble_eq_true rfl) (Nat.le_of_ble_eq_true rfl) (rc' := rc + 3) (rs' := rs + 21) (Nat.zero_add _) (Nat.zero_add _) dL_law_299 (fun zv1 g1 q1 => ?_)
  obtain ⟨rfl, W1⟩ := q1
  have A1 := lw_am W1 A
  have ho1 := (W1.pf (X + 63) (by omega) (by omega)).trans ho
  refine yr_al2 dL_law_302 ?_
  refine yr_Vpi0 (a_parties A1 ) kL_37 (Nat.le_of_ble_eq_true rfl) (Nat.le_of_ble_eq_true rfl) (Nat.zero_add _) (Nat.zero_add _) dL_law_303 (fun zv2 g2 q2 => ?_)
  obtain ⟨rfl, A2⟩ := q2
  refine yr_icmpeq (tgt := 1438) dL_law_306 (by decide) (fun _ => ?_) (fun zc => absurd rfl zc)
  exact yT.budget (by omega) (by omega) (hc (lw_jn W1 A2 ho1))
set_option maxRecDepth 20000 in
theorem lc_rule {K : xK} {B : Nat} {l : Launch} {X b Ln : Nat} {sc : xs} {MC MS rc rs : Nat} {ZP : List Frame → Array Value → State → State → Prop} {i : Nat} {h : xH} {x5 x6 x7 : Option Value} (hLn : Ln < 2 ^ 31) (hi : i + 5 ≤ Ln) (I : xLI K B l h X) (hc : ∀ {h : xH} {x5 x6 x7 : Option Value}, xLI K B l h X → yT (psL B b Ln sc) ZP K B l 1312 RL false cL_law 8 (some .boolean) MC MS rc rs 1438 [some (.ref b), some (.ref X), some (.ref (X + 39)), some (.ref (X + 63)), some (.int (nI i)), x5, x6, x7] [] h) : yT (psL B b Ln sc) ZP K B l 1312 RL false cL_law 8 (some .boolean) MC MS (rc + 3) (rs + 21) 311 [some (.ref b), some (.ref X), some (.ref (X + 39)), some (.ref (X + 63)), some (.int (nI i)), x5, x6, x7] [] h := by
  obtain ⟨tn, tf, rk, rv, σ, β, γ, pn, τ, ks, κ, φ, hn, hf, hg, wn, wf, wg, th, ov, W, A, ho⟩ := I
  refine yr_al1 dL_law_311 ?_
  refine yr_Vpi0 (s_rule W (ruF tf tn) (fun e => ru_ok e) ) kL_38 (Nat.le_of_ble_eq_true rfl) (Nat.le_of_ble_eq_true rfl) (rc' := rc + 3) (rs' := rs + 21) (Nat.zero_add _) (Nat.zero_add _) dL_law_312 (fun zv1 g1 q1 => ?_)
  obtain ⟨rfl, W1⟩ := q1
  have A1 := lw_am W1 A
  have ho1 := (W1.pf (X + 63) (by omega) (by omega)).trans ho
  refine yr_al2 dL_law_315 ?_
  refine yr_Vpi0 (a_rule A1 ) kL_41 (Nat.le_of_ble_eq_true rfl) (Nat.le_of_ble_eq_true rfl) (Nat.zero_add _) (Nat.zero_add _) dL_law_316 (fun zv2 g2 q2 => ?_)
  obtain ⟨rfl, A2⟩ := q2
  refine yr_icmpeq (tgt := 1438) dL_law_319 (by decide) (fun _ => ?_) (fun zc => absurd rfl zc)
  exact yT.budget (by omega) (by omega) (hc (lw_jn W1 A2 ho1))
set_option maxRecDepth 20000 in
theorem lc_sheet {K : xK} {B : Nat} {l : Launch} {X b Ln : Nat} {sc : xs} {MC MS rc rs : Nat} {ZP : List Frame → Array Value → State → State → Prop} {i : Nat} {h : xH} {x5 x6 x7 : Option Value} (hLn : Ln < 2 ^ 31) (hi : i + 5 ≤ Ln) (I : xLI K B l h X) (hc : ∀ {h : xH} {x5 x6 x7 : Option Value}, xLI K B l h X → yT (psL B b Ln sc) ZP K B l 1312 RL false cL_law 8 (some .boolean) MC MS rc rs 1438 [some (.ref b), some (.ref X), some (.ref (X + 39)), some (.ref (X + 63)), some (.int (nI i)), x5, x6, x7] [] h) : yT (psL B b Ln sc) ZP K B l 1312 RL false cL_law 8 (some .boolean) MC MS (rc + 3) (rs + 21) 392 [some (.ref b), some (.ref X), some (.ref (X + 39)), some (.ref (X + 63)), some (.int (nI i)), x5, x6, x7] [] h := by
  obtain ⟨tn, tf, rk, rv, σ, β, γ, pn, τ, ks, κ, φ, hn, hf, hg, wn, wf, wg, th, ov, W, A, ho⟩ := I
  refine yr_al1 dL_law_392 ?_
  refine yr_al0 dL_law_393 ?_
  refine yr_il4 dL_law_394 ?_
  refine yr_ic1 dL_law_396 ?_
  refine yr_iadd dL_law_397 ?_
  refine yr_eqi (y := nI (i + 1)) (nI_add i 1) ?_
  refine yr_sald (xix_nI (n := Ln) (j := i + 1) (by omega) hLn) dL_law_398 ?_
  refine yr_al0 dL_law_399 ?_
  refine yr_il4 dL_law_400 ?_
  refine yr_ic2 dL_law_402 ?_
  refine yr_iadd dL_law_403 ?_
  refine yr_eqi (y := nI (i + 2)) (nI_add i 2) ?_
  refine yr_sald (xix_nI (n := Ln) (j := i + 2) (by omega) hLn) dL_law_404 ?_
  refine yr_al0 dL_law_405 ?_
  refine yr_il4 dL_law_406 ?_
  refine yr_ic3 dL_law_408 ?_
  refine yr_iadd dL_law_409 ?_
  refine yr_eqi (y := nI (i + 3)) (nI_add i 3) ?_
  refine yr_sald (xix_nI (n := Ln) (j := i + 3) (by omega) hLn) dL_law_410 ?_
  refine yr_al0 dL_law_411 ?_
  refine yr_il4 dL_law_412 ?_
  refine yr_ic4 dL_law_414 ?_
  refine yr_iadd dL_law_415 ?_
  refine yr_eqi (y := nI (i + 4)) (nI_add i 4) ?_
  refine yr_sald (xix_nI (n := Ln) (j := i + 4) (by omega) hLn) dL_law_416 ?_
  refine yr_Vpi4 (s_sheet W (sc (i + 1)) (sc (i + 2)) (sc (i + 3)) (sc (i + 4))) kL_51 (Nat.le_of_ble_eq_true rfl) (Nat.le_of_ble_eq_true rfl) (rc' := rc + 3) (rs' := rs + 21) (Nat.zero_add _) (Nat.zero_add _) dL_law_417 (fun zv1 g1 q1 => ?_)
  obtain ⟨rfl, W1⟩ := q1
  have A1 := lw_am W1 A
  have ho1 := (W1.pf (X + 63) (by omega) (by omega)).trans ho
  refine yr_al2 dL_law_420 ?_
  refine yr_al0 dL_law_421 ?_
  refine yr_il4 dL_law_422 ?_
  refine yr_ic1 dL_law_424 ?_
  refine yr_iadd dL_law_425 ?_
  refine yr_eqi (y := nI (i + 1)) (nI_add i 1) ?_
  refine yr_sald (xix_nI (n := Ln) (j := i + 1) (by omega) hLn) dL_law_426 ?_
  refine yr_al0 dL_law_427 ?_
  refine yr_il4 dL_law_428 ?_
  refine yr_ic2 dL_law_430 ?_
  refine yr_iadd dL_law_431 ?_
  refine yr_eqi (y := nI (i + 2)) (nI_add i 2) ?_
  refine yr_sald (xix_nI (n := Ln) (j := i + 2) (by omega) hLn) dL_law_432 ?_
  refine yr_al0 dL_law_433 ?_
  refine yr_il4 dL_law_434 ?_
  refine yr_ic3 dL_law_436 ?_
  refine yr_iadd dL_law_437 ?_
  refine yr_eqi (y := nI (i + 3)) (nI_add i 3) ?_
  refine yr_sald (xix_nI (n := Ln) (j := i + 3) (by omega) hLn) dL_law_438 ?_
  refine yr_al0 dL_law_439 ?_
  refine yr_il4 dL_law_440 ?_
  refine yr_ic4 dL_law_442 ?_
  refine yr_iadd dL_law_443 ?_
  refine yr_eqi (y := nI (i + 4)) (nI_add i 4) ?_
  refine yr_sald (xix_nI (n := Ln) (j := i + 4) (by omega) hLn) dL_law_444 ?_
  refine yr_Vpi4 (a_sheet A1 (sc (i + 1)) (sc (i + 2)) (sc (i + 3)) (sc (i + 4))) kL_55 (Nat.le_of_ble_eq_true rfl) (Nat.le_of_ble_eq_true rfl) (Nat.zero_add _) (Nat.zero_add _) dL_law_445 (fun zv2 g2 q2 => ?_)
  obtain ⟨rfl, A2⟩ := q2
  refine yr_icmpeq (tgt := 1438) dL_law_448 (by decide) (fun _ => ?_) (fun zc => absurd rfl zc)
  exact yT.budget (by omega) (by omega) (hc (lw_jn W1 A2 ho1))
set_option maxRecDepth 20000 in
theorem lc_trip {K : xK} {B : Nat} {l : Launch} {X b Ln : Nat} {sc : xs} {MC MS rc rs : Nat} {ZP : List Frame → Array Value → State → State → Prop} {i : Nat} {h : xH} {x5 x6 x7 : Option Value} (hLn : Ln < 2 ^ 31) (hi : i + 5 ≤ Ln) (I : xLI K B l h X) (hc : ∀ {h : xH} {x5 x6 x7 : Option Value}, xLI K B l h X → yT (psL B b Ln sc) ZP K B l 1312 RL false cL_law 8 (some .boolean) MC MS rc rs 1438 [some (.ref b), some (.ref X), some (.ref (X + 39)), some (.ref (X + 63)), some (.int (nI i)), x5, x6, x7] [] h) : yT (psL B b Ln sc) ZP K B l 1312 RL false cL_law 8 (some .boolean) MC MS (rc + 3) (rs + 21) 453 [some (.ref b), some (.ref X), some (.ref (X + 39)), some (.ref (X + 63)), some (.int (nI i)), x5, x6, x7] [] h := by
  obtain ⟨tn, tf, rk, rv, σ, β, γ, pn, τ, ks, κ, φ, hn, hf, hg, wn, wf, wg, th, ov, W, A, ho⟩ := I
  refine yr_al1 dL_law_453 ?_
  refine yr_Vpi0 (s_trip W ) kL_56 (Nat.le_of_ble_eq_true rfl) (Nat.le_of_ble_eq_true rfl) (rc' := rc) (rs' := rs) (Nat.add_comm _ _) (Nat.add_comm _ _) dL_law_454 (fun zv1 g1 q1 => ?_)
  obtain ⟨rfl, W1⟩ := q1
  have A1 := lw_am W1 A
  have ho1 := (W1.pf (X + 63) (by omega) (by omega)).trans ho
  refine yr_al2 dL_law_457 ?_
  refine yr_Vpi0 (a_trip A1 ) kL_59 (Nat.le_of_ble_eq_true rfl) (Nat.le_of_ble_eq_true rfl) (Nat.zero_add _) (Nat.zero_add _) dL_law_458 (fun zv2 g2 q2 => ?_)
  obtain ⟨rfl, A2⟩ := q2
  refine yr_icmpeq (tgt := 1438) dL_law_461 (by decide) (fun _ => ?_) (fun zc => absurd rfl zc)
  exact yT.budget (by omega) (by omega) (hc (lw_jn W1 A2 ho1))
set_option maxRecDepth 20000 in
theorem lc_sends {K : xK} {B : Nat} {l : Launch} {X b Ln : Nat} {sc : xs} {MC MS rc rs : Nat} {ZP : List Frame → Array Value → State → State → Prop} {i : Nat} {h : xH} {x5 x6 x7 : Option Value} (hLn : Ln < 2 ^ 31) (hi : i + 5 ≤ Ln) (I : xLI K B l h X) (hc : ∀ {h : xH} {x5 x6 x7 : Option Value}, xLI K B l h X → yT (psL B b Ln sc) ZP K B l 1312 RL false cL_law 8 (some .boolean) MC MS rc rs 1438 [some (.ref b), some (.ref X), some (.ref (X + 39)), some (.ref (X + 63)), some (.int (nI i)), x5, x6, x7] [] h) : yT (psL B b Ln sc) ZP K B l 1312 RL false cL_law 8 (some .boolean) MC MS (rc + 3) (rs + 21) 466 [some (.ref b), some (.ref X), some (.ref (X + 39)), some (.ref (X + 63)), some (.int (nI i)), x5, x6, x7] [] h := by
  obtain ⟨tn, tf, rk, rv, σ, β, γ, pn, τ, ks, κ, φ, hn, hf, hg, wn, wf, wg, th, ov, W, A, ho⟩ := I
  refine yr_al1 dL_law_466 ?_
  refine yr_al0 dL_law_467 ?_
  refine yr_il4 dL_law_468 ?_
  refine yr_ic1 dL_law_470 ?_
  refine yr_iadd dL_law_471 ?_
  refine yr_eqi (y := nI (i + 1)) (nI_add i 1) ?_
  refine yr_sald (xix_nI (n := Ln) (j := i + 1) (by omega) hLn) dL_law_472 ?_
  refine yr_al0 dL_law_473 ?_
  refine yr_il4 dL_law_474 ?_
  refine yr_ic2 dL_law_476 ?_
  refine yr_iadd dL_law_477 ?_
  refine yr_eqi (y := nI (i + 2)) (nI_add i 2) ?_
  refine yr_sald (xix_nI (n := Ln) (j := i + 2) (by omega) hLn) dL_law_478 ?_
  refine yr_Vpi2 (s_sends W (sc (i + 1)) (sc (i + 2))) kL_60 (Nat.le_of_ble_eq_true rfl) (Nat.le_of_ble_eq_true rfl) (rc' := rc) (rs' := rs) (Nat.add_comm _ _) (Nat.add_comm _ _) dL_law_479 (fun zv1 g1 q1 => ?_)
  rcases q1 with ⟨zc1, q1⟩ | ⟨zc1, q1⟩
  · obtain ⟨rfl, W1⟩ := q1
    have A1 := lw_am W1 A
    have ho1 := (W1.pf (X + 63) (by omega) (by omega)).trans ho
    refine yr_al2 dL_law_482 ?_
    refine yr_al0 dL_law_483 ?_
    refine yr_il4 dL_law_484 ?_
    refine yr_ic1 dL_law_486 ?_
    refine yr_iadd dL_law_487 ?_
    refine yr_eqi (y := nI (i + 1)) (nI_add i 1) ?_
    refine yr_sald (xix_nI (n := Ln) (j := i + 1) (by omega) hLn) dL_law_488 ?_
    refine yr_al0 dL_law_489 ?_
    refine yr_il4 dL_law_490 ?_
    refine yr_ic2 dL_law_492 ?_
    refine yr_iadd dL_law_493 ?_
    refine yr_eqi (y := nI (i + 2)) (nI_add i 2) ?_
    refine yr_sald (xix_nI (n := Ln) (j := i + 2) (by omega) hLn) dL_law_494 ?_
    refine yr_Vpi2 (a_sends A1 (sc (i + 1)) (sc (i + 2))) kL_63 (Nat.le_of_ble_eq_true rfl) (Nat.le_of_ble_eq_true rfl) (Nat.zero_add _) (Nat.zero_add _) dL_law_495 (fun zv2 g2 q2 => ?_)
    rcases q2 with ⟨zd, q2⟩ | ⟨zd, q2⟩
    · obtain ⟨rfl, A2⟩ := q2
      refine yr_icmpeq (tgt := 1438) dL_law_498 (by decide) (fun _ => ?_) (fun zc => absurd rfl zc)
      exact yT.budget (by omega) (by omega) (hc (lw_jn W1 A2 ho1))
    · exact absurd zd zc1
  · obtain ⟨rfl, W1⟩ := q1
    have A1 := lw_am W1 A
    have ho1 := (W1.pf (X + 63) (by omega) (by omega)).trans ho
    refine yr_al2 dL_law_482 ?_
    refine yr_al0 dL_law_483 ?_
    refine yr_il4 dL_law_484 ?_
    refine yr_ic1 dL_law_486 ?_
    refine yr_iadd dL_law_487 ?_
    refine yr_eqi (y := nI (i + 1)) (nI_add i 1) ?_
    refine yr_sald (xix_nI (n := Ln) (j := i + 1) (by omega) hLn) dL_law_488 ?_
    refine yr_al0 dL_law_489 ?_
    refine yr_il4 dL_law_490 ?_
    refine yr_ic2 dL_law_492 ?_
    refine yr_iadd dL_law_493 ?_
    refine yr_eqi (y := nI (i + 2)) (nI_add i 2) ?_
    refine yr_sald (xix_nI (n := Ln) (j := i + 2) (by omega) hLn) dL_law_494 ?_
    refine yr_Vpi2 (a_sends A1 (sc (i + 1)) (sc (i + 2))) kL_63 (Nat.le_of_ble_eq_true rfl) (Nat.le_of_ble_eq_true rfl) (Nat.zero_add _) (Nat.zero_add _) dL_law_495 (fun zv2 g2 q2 => ?_)
    rcases q2 with ⟨zd, q2⟩ | ⟨zd, q2⟩
    · exact absurd zc1 zd
    · obtain ⟨rfl, A2⟩ := q2
      refine yr_icmpeq (tgt := 1438) dL_law_498 (by decide) (fun _ => ?_) (fun zc => absurd rfl zc)
      exact yT.budget (by omega) (by omega) (hc (lw_jn W1 A2 ho1))
set_option maxRecDepth 20000 in
theorem lc_runs {K : xK} {B : Nat} {l : Launch} {X b Ln : Nat} {sc : xs} {MC MS rc rs : Nat} {ZP : List Frame → Array Value → State → State → Prop} {i : Nat} {h : xH} {x5 x6 x7 : Option Value} (hLn : Ln < 2 ^ 31) (hi : i + 5 ≤ Ln) (I : xLI K B l h X) (hc : ∀ {h : xH} {x5 x6 x7 : Option Value}, xLI K B l h X → yT (psL B b Ln sc) ZP K B l 1312 RL false cL_law 8 (some .boolean) MC MS rc rs 1438 [some (.ref b), some (.ref X), some (.ref (X + 39)), some (.ref (X + 63)), some (.int (nI i)), x5, x6, x7] [] h) : yT (psL B b Ln sc) ZP K B l 1312 RL false cL_law 8 (some .boolean) MC MS (rc + 3) (rs + 21) 503 [some (.ref b), some (.ref X), some (.ref (X + 39)), some (.ref (X + 63)), some (.int (nI i)), x5, x6, x7] [] h := by
  obtain ⟨tn, tf, rk, rv, σ, β, γ, pn, τ, ks, κ, φ, hn, hf, hg, wn, wf, wg, th, ov, W, A, ho⟩ := I
  refine yr_al1 dL_law_503 ?_
  refine yr_al0 dL_law_504 ?_
  refine yr_il4 dL_law_505 ?_
  refine yr_ic1 dL_law_507 ?_
  refine yr_iadd dL_law_508 ?_
  refine yr_eqi (y := nI (i + 1)) (nI_add i 1) ?_
  refine yr_sald (xix_nI (n := Ln) (j := i + 1) (by omega) hLn) dL_law_509 ?_
  refine yr_Vpi1 (s_runs W (sc (i + 1))) kL_64 (Nat.le_of_ble_eq_true rfl) (Nat.le_of_ble_eq_true rfl) (rc' := rc) (rs' := rs) (Nat.add_comm _ _) (Nat.add_comm _ _) dL_law_510 (fun zv1 g1 q1 => ?_)
  obtain ⟨rfl, W1⟩ := q1
  have A1 := lw_am W1 A
  have ho1 := (W1.pf (X + 63) (by omega) (by omega)).trans ho
  refine yr_al2 dL_law_513 ?_
  refine yr_al0 dL_law_514 ?_
  refine yr_il4 dL_law_515 ?_
  refine yr_ic1 dL_law_517 ?_
  refine yr_iadd dL_law_518 ?_
  refine yr_eqi (y := nI (i + 1)) (nI_add i 1) ?_
  refine yr_sald (xix_nI (n := Ln) (j := i + 1) (by omega) hLn) dL_law_519 ?_
  refine yr_Vpi1 (a_runs A1 (sc (i + 1))) kL_67 (Nat.le_of_ble_eq_true rfl) (Nat.le_of_ble_eq_true rfl) (Nat.zero_add _) (Nat.zero_add _) dL_law_520 (fun zv2 g2 q2 => ?_)
  obtain ⟨rfl, A2⟩ := q2
  refine yr_icmpeq (tgt := 1438) dL_law_523 (by decide) (fun _ => ?_) (fun zc => absurd rfl zc)
  exact yT.budget (by omega) (by omega) (hc (lw_jn W1 A2 ho1))
set_option maxRecDepth 20000 in
theorem lc_grips {K : xK} {B : Nat} {l : Launch} {X b Ln : Nat} {sc : xs} {MC MS rc rs : Nat} {ZP : List Frame → Array Value → State → State → Prop} {i : Nat} {h : xH} {x5 x6 x7 : Option Value} (hLn : Ln < 2 ^ 31) (hi : i + 5 ≤ Ln) (I : xLI K B l h X) (hc : ∀ {h : xH} {x5 x6 x7 : Option Value}, xLI K B l h X → yT (psL B b Ln sc) ZP K B l 1312 RL false cL_law 8 (some .boolean) MC MS rc rs 1438 [some (.ref b), some (.ref X), some (.ref (X + 39)), some (.ref (X + 63)), some (.int (nI i)), x5, x6, x7] [] h) : yT (psL B b Ln sc) ZP K B l 1312 RL false cL_law 8 (some .boolean) MC MS (rc + 3) (rs + 21) 528 [some (.ref b), some (.ref X), some (.ref (X + 39)), some (.ref (X + 63)), some (.int (nI i)), x5, x6, x7] [] h := by
  obtain ⟨tn, tf, rk, rv, σ, β, γ, pn, τ, ks, κ, φ, hn, hf, hg, wn, wf, wg, th, ov, W, A, ho⟩ := I
  refine yr_al1 dL_law_528 ?_
  refine yr_al0 dL_law_529 ?_
  refine yr_il4 dL_law_530 ?_
  refine yr_ic1 dL_law_532 ?_
  refine yr_iadd dL_law_533 ?_
  refine yr_eqi (y := nI (i + 1)) (nI_add i 1) ?_
  refine yr_sald (xix_nI (n := Ln) (j := i + 1) (by omega) hLn) dL_law_534 ?_
  refine yr_Vpi1 (s_grips W (sc (i + 1))) kL_68 (Nat.le_of_ble_eq_true rfl) (Nat.le_of_ble_eq_true rfl) (rc' := rc) (rs' := rs) (Nat.add_comm _ _) (Nat.add_comm _ _) dL_law_535 (fun zv1 g1 q1 => ?_)
  obtain ⟨rfl, W1⟩ := q1
  have A1 := lw_am W1 A
  have ho1 := (W1.pf (X + 63) (by omega) (by omega)).trans ho
  refine yr_al2 dL_law_538 ?_
  refine yr_al0 dL_law_539 ?_
  refine yr_il4 dL_law_540 ?_
  refine yr_ic1 dL_law_542 ?_
  refine yr_iadd dL_law_543 ?_
  refine yr_eqi (y := nI (i + 1)) (nI_add i 1) ?_
  refine yr_sald (xix_nI (n := Ln) (j := i + 1) (by omega) hLn) dL_law_544 ?_
  refine yr_Vpi1 (a_grips A1 (sc (i + 1))) kL_71 (Nat.le_of_ble_eq_true rfl) (Nat.le_of_ble_eq_true rfl) (Nat.zero_add _) (Nat.zero_add _) dL_law_545 (fun zv2 g2 q2 => ?_)
  obtain ⟨rfl, A2⟩ := q2
  refine yr_icmpeq (tgt := 1438) dL_law_548 (by decide) (fun _ => ?_) (fun zc => absurd rfl zc)
  exact yT.budget (by omega) (by omega) (hc (lw_jn W1 A2 ho1))
set_option maxRecDepth 20000 in
theorem lc_seats {K : xK} {B : Nat} {l : Launch} {X b Ln : Nat} {sc : xs} {MC MS rc rs : Nat} {ZP : List Frame → Array Value → State → State → Prop} {i : Nat} {h : xH} {x5 x6 x7 : Option Value} (hLn : Ln < 2 ^ 31) (hi : i + 5 ≤ Ln) (I : xLI K B l h X) (hc : ∀ {h : xH} {x5 x6 x7 : Option Value}, xLI K B l h X → yT (psL B b Ln sc) ZP K B l 1312 RL false cL_law 8 (some .boolean) MC MS rc rs 1438 [some (.ref b), some (.ref X), some (.ref (X + 39)), some (.ref (X + 63)), some (.int (nI i)), x5, x6, x7] [] h) : yT (psL B b Ln sc) ZP K B l 1312 RL false cL_law 8 (some .boolean) MC MS (rc + 3) (rs + 21) 553 [some (.ref b), some (.ref X), some (.ref (X + 39)), some (.ref (X + 63)), some (.int (nI i)), x5, x6, x7] [] h := by
  obtain ⟨tn, tf, rk, rv, σ, β, γ, pn, τ, ks, κ, φ, hn, hf, hg, wn, wf, wg, th, ov, W, A, ho⟩ := I
  refine yr_al1 dL_law_553 ?_
  refine yr_al0 dL_law_554 ?_
  refine yr_il4 dL_law_555 ?_
  refine yr_ic1 dL_law_557 ?_
  refine yr_iadd dL_law_558 ?_
  refine yr_eqi (y := nI (i + 1)) (nI_add i 1) ?_
  refine yr_sald (xix_nI (n := Ln) (j := i + 1) (by omega) hLn) dL_law_559 ?_
  refine yr_Vpi1 (s_seats W (sc (i + 1))) kL_72 (Nat.le_of_ble_eq_true rfl) (Nat.le_of_ble_eq_true rfl) (rc' := rc) (rs' := rs) (Nat.add_comm _ _) (Nat.add_comm _ _) dL_law_560 (fun zv1 g1 q1 => ?_)
  obtain ⟨rfl, W1⟩ := q1
  have A1 := lw_am W1 A
  have ho1 := (W1.pf (X + 63) (by omega) (by omega)).trans ho
  refine yr_al2 dL_law_563 ?_
  refine yr_al0 dL_law_564 ?_
  refine yr_il4 dL_law_565 ?_
  refine yr_ic1 dL_law_567 ?_
  refine yr_iadd dL_law_568 ?_
  refine yr_eqi (y := nI (i + 1)) (nI_add i 1) ?_
  refine yr_sald (xix_nI (n := Ln) (j := i + 1) (by omega) hLn) dL_law_569 ?_
  refine yr_Vpi1 (a_seats A1 (sc (i + 1))) kL_75 (Nat.le_of_ble_eq_true rfl) (Nat.le_of_ble_eq_true rfl) (Nat.zero_add _) (Nat.zero_add _) dL_law_570 (fun zv2 g2 q2 => ?_)
  obtain ⟨rfl, A2⟩ := q2
  refine yr_icmpeq (tgt := 1438) dL_law_573 (by decide) (fun _ => ?_) (fun zc => absurd rfl zc)
  exact yT.budget (by omega) (by omega) (hc (lw_jn W1 A2 ho1))
set_option maxRecDepth 20000 in
theorem lc_leaves {K : xK} {B : Nat} {l : Launch} {X b Ln : Nat} {sc : xs} {MC MS rc rs : Nat} {ZP : List Frame → Array Value → State → State → Prop} {i : Nat} {h : xH} {x5 x6 x7 : Option Value} (hLn : Ln < 2 ^ 31) (hi : i + 5 ≤ Ln) (I : xLI K B l h X) (hc : ∀ {h : xH} {x5 x6 x7 : Option Value}, xLI K B l h X → yT (psL B b Ln sc) ZP K B l 1312 RL false cL_law 8 (some .boolean) MC MS rc rs 1438 [some (.ref b), some (.ref X), some (.ref (X + 39)), some (.ref (X + 63)), some (.int (nI i)), x5, x6, x7] [] h) : yT (psL B b Ln sc) ZP K B l 1312 RL false cL_law 8 (some .boolean) MC MS (rc + 3) (rs + 21) 578 [some (.ref b), some (.ref X), some (.ref (X + 39)), some (.ref (X + 63)), some (.int (nI i)), x5, x6, x7] [] h := by
  obtain ⟨tn, tf, rk, rv, σ, β, γ, pn, τ, ks, κ, φ, hn, hf, hg, wn, wf, wg, th, ov, W, A, ho⟩ := I
  refine yr_al1 dL_law_578 ?_
  refine yr_al0 dL_law_579 ?_
  refine yr_il4 dL_law_580 ?_
  refine yr_ic1 dL_law_582 ?_
  refine yr_iadd dL_law_583 ?_
  refine yr_eqi (y := nI (i + 1)) (nI_add i 1) ?_
  refine yr_sald (xix_nI (n := Ln) (j := i + 1) (by omega) hLn) dL_law_584 ?_
  refine yr_al0 dL_law_585 ?_
  refine yr_il4 dL_law_586 ?_
  refine yr_ic2 dL_law_588 ?_
  refine yr_iadd dL_law_589 ?_
  refine yr_eqi (y := nI (i + 2)) (nI_add i 2) ?_
  refine yr_sald (xix_nI (n := Ln) (j := i + 2) (by omega) hLn) dL_law_590 ?_
  refine yr_Vpi2 (s_leaves W (sc (i + 1)) (sc (i + 2))) kL_76 (Nat.le_of_ble_eq_true rfl) (Nat.le_of_ble_eq_true rfl) (rc' := rc) (rs' := rs) (Nat.add_comm _ _) (Nat.add_comm _ _) dL_law_591 (fun zv1 g1 q1 => ?_)
  obtain ⟨rfl, W1⟩ := q1
  have A1 := lw_am W1 A
  have ho1 := (W1.pf (X + 63) (by omega) (by omega)).trans ho
  refine yr_al2 dL_law_594 ?_
  refine yr_al0 dL_law_595 ?_
  refine yr_il4 dL_law_596 ?_
  refine yr_ic1 dL_law_598 ?_
  refine yr_iadd dL_law_599 ?_
  refine yr_eqi (y := nI (i + 1)) (nI_add i 1) ?_
  refine yr_sald (xix_nI (n := Ln) (j := i + 1) (by omega) hLn) dL_law_600 ?_
  refine yr_al0 dL_law_601 ?_
  refine yr_il4 dL_law_602 ?_
  refine yr_ic2 dL_law_604 ?_
  refine yr_iadd dL_law_605 ?_
  refine yr_eqi (y := nI (i + 2)) (nI_add i 2) ?_
  refine yr_sald (xix_nI (n := Ln) (j := i + 2) (by omega) hLn) dL_law_606 ?_
  refine yr_Vpi2 (a_leaves A1 (sc (i + 1)) (sc (i + 2))) kL_79 (Nat.le_of_ble_eq_true rfl) (Nat.le_of_ble_eq_true rfl) (Nat.zero_add _) (Nat.zero_add _) dL_law_607 (fun zv2 g2 q2 => ?_)
  obtain ⟨rfl, A2⟩ := q2
  refine yr_icmpeq (tgt := 1438) dL_law_610 (by decide) (fun _ => ?_) (fun zc => absurd rfl zc)
  exact yT.budget (by omega) (by omega) (hc (lw_jn W1 A2 ho1))
set_option maxRecDepth 20000 in
theorem lc_swaps {K : xK} {B : Nat} {l : Launch} {X b Ln : Nat} {sc : xs} {MC MS rc rs : Nat} {ZP : List Frame → Array Value → State → State → Prop} {i : Nat} {h : xH} {x5 x6 x7 : Option Value} (hLn : Ln < 2 ^ 31) (hi : i + 5 ≤ Ln) (I : xLI K B l h X) (hc : ∀ {h : xH} {x5 x6 x7 : Option Value}, xLI K B l h X → yT (psL B b Ln sc) ZP K B l 1312 RL false cL_law 8 (some .boolean) MC MS rc rs 1438 [some (.ref b), some (.ref X), some (.ref (X + 39)), some (.ref (X + 63)), some (.int (nI i)), x5, x6, x7] [] h) : yT (psL B b Ln sc) ZP K B l 1312 RL false cL_law 8 (some .boolean) MC MS (rc + 3) (rs + 21) 615 [some (.ref b), some (.ref X), some (.ref (X + 39)), some (.ref (X + 63)), some (.int (nI i)), x5, x6, x7] [] h := by
  obtain ⟨tn, tf, rk, rv, σ, β, γ, pn, τ, ks, κ, φ, hn, hf, hg, wn, wf, wg, th, ov, W, A, ho⟩ := I
  refine yr_al1 dL_law_615 ?_
  refine yr_al0 dL_law_616 ?_
  refine yr_il4 dL_law_617 ?_
  refine yr_ic1 dL_law_619 ?_
  refine yr_iadd dL_law_620 ?_
  refine yr_eqi (y := nI (i + 1)) (nI_add i 1) ?_
  refine yr_sald (xix_nI (n := Ln) (j := i + 1) (by omega) hLn) dL_law_621 ?_
  refine yr_al0 dL_law_622 ?_
  refine yr_il4 dL_law_623 ?_
  refine yr_ic2 dL_law_625 ?_
  refine yr_iadd dL_law_626 ?_
  refine yr_eqi (y := nI (i + 2)) (nI_add i 2) ?_
  refine yr_sald (xix_nI (n := Ln) (j := i + 2) (by omega) hLn) dL_law_627 ?_
  refine yr_Vpi2 (s_swaps W (sc (i + 1)) (sc (i + 2))) kL_80 (Nat.le_of_ble_eq_true rfl) (Nat.le_of_ble_eq_true rfl) (rc' := rc) (rs' := rs) (Nat.add_comm _ _) (Nat.add_comm _ _) dL_law_628 (fun zv1 g1 q1 => ?_)
  obtain ⟨rfl, W1⟩ := q1
  have A1 := lw_am W1 A
  have ho1 := (W1.pf (X + 63) (by omega) (by omega)).trans ho
  refine yr_al2 dL_law_631 ?_
  refine yr_al0 dL_law_632 ?_
  refine yr_il4 dL_law_633 ?_
  refine yr_ic1 dL_law_635 ?_
  refine yr_iadd dL_law_636 ?_
  refine yr_eqi (y := nI (i + 1)) (nI_add i 1) ?_
  refine yr_sald (xix_nI (n := Ln) (j := i + 1) (by omega) hLn) dL_law_637 ?_
  refine yr_al0 dL_law_638 ?_
  refine yr_il4 dL_law_639 ?_
  refine yr_ic2 dL_law_641 ?_
  refine yr_iadd dL_law_642 ?_
  refine yr_eqi (y := nI (i + 2)) (nI_add i 2) ?_
  refine yr_sald (xix_nI (n := Ln) (j := i + 2) (by omega) hLn) dL_law_643 ?_
  refine yr_Vpi2 (a_swaps A1 (sc (i + 1)) (sc (i + 2))) kL_83 (Nat.le_of_ble_eq_true rfl) (Nat.le_of_ble_eq_true rfl) (Nat.zero_add _) (Nat.zero_add _) dL_law_644 (fun zv2 g2 q2 => ?_)
  obtain ⟨rfl, A2⟩ := q2
  refine yr_icmpeq (tgt := 1438) dL_law_647 (by decide) (fun _ => ?_) (fun zc => absurd rfl zc)
  exact yT.budget (by omega) (by omega) (hc (lw_jn W1 A2 ho1))
set_option maxRecDepth 20000 in
theorem lc_drains {K : xK} {B : Nat} {l : Launch} {X b Ln : Nat} {sc : xs} {MC MS rc rs : Nat} {ZP : List Frame → Array Value → State → State → Prop} {i : Nat} {h : xH} {x5 x6 x7 : Option Value} (hLn : Ln < 2 ^ 31) (hi : i + 5 ≤ Ln) (I : xLI K B l h X) (hc : ∀ {h : xH} {x5 x6 x7 : Option Value}, xLI K B l h X → yT (psL B b Ln sc) ZP K B l 1312 RL false cL_law 8 (some .boolean) MC MS rc rs 1438 [some (.ref b), some (.ref X), some (.ref (X + 39)), some (.ref (X + 63)), some (.int (nI i)), x5, x6, x7] [] h) : yT (psL B b Ln sc) ZP K B l 1312 RL false cL_law 8 (some .boolean) MC MS (rc + 3) (rs + 21) 652 [some (.ref b), some (.ref X), some (.ref (X + 39)), some (.ref (X + 63)), some (.int (nI i)), x5, x6, x7] [] h := by
  obtain ⟨tn, tf, rk, rv, σ, β, γ, pn, τ, ks, κ, φ, hn, hf, hg, wn, wf, wg, th, ov, W, A, ho⟩ := I
  refine yr_al1 dL_law_652 ?_
  refine yr_al0 dL_law_653 ?_
  refine yr_il4 dL_law_654 ?_
  refine yr_ic1 dL_law_656 ?_
  refine yr_iadd dL_law_657 ?_
  refine yr_eqi (y := nI (i + 1)) (nI_add i 1) ?_
  refine yr_sald (xix_nI (n := Ln) (j := i + 1) (by omega) hLn) dL_law_658 ?_
  refine yr_Vpi1 (s_drains W (sc (i + 1))) kL_84 (Nat.le_of_ble_eq_true rfl) (Nat.le_of_ble_eq_true rfl) (rc' := rc) (rs' := rs) (Nat.add_comm _ _) (Nat.add_comm _ _) dL_law_659 (fun zv1 g1 q1 => ?_)
  obtain ⟨rfl, W1⟩ := q1
  have A1 := lw_am W1 A
  have ho1 := (W1.pf (X + 63) (by omega) (by omega)).trans ho
  refine yr_al2 dL_law_662 ?_
  refine yr_al0 dL_law_663 ?_
  refine yr_il4 dL_law_664 ?_
  refine yr_ic1 dL_law_666 ?_
  refine yr_iadd dL_law_667 ?_
  refine yr_eqi (y := nI (i + 1)) (nI_add i 1) ?_
  refine yr_sald (xix_nI (n := Ln) (j := i + 1) (by omega) hLn) dL_law_668 ?_
  refine yr_Vpi1 (a_drains A1 (sc (i + 1))) kL_87 (Nat.le_of_ble_eq_true rfl) (Nat.le_of_ble_eq_true rfl) (Nat.zero_add _) (Nat.zero_add _) dL_law_669 (fun zv2 g2 q2 => ?_)
  obtain ⟨rfl, A2⟩ := q2
  refine yr_icmpeq (tgt := 1438) dL_law_672 (by decide) (fun _ => ?_) (fun zc => absurd rfl zc)
  exact yT.budget (by omega) (by omega) (hc (lw_jn W1 A2 ho1))
set_option maxRecDepth 20000 in
theorem lc_day {K : xK} {B : Nat} {l : Launch} {X b Ln : Nat} {sc : xs} {MC MS rc rs : Nat} {ZP : List Frame → Array Value → State → State → Prop} {i : Nat} {h : xH} {x5 x6 x7 : Option Value} (hLn : Ln < 2 ^ 31) (hi : i + 5 ≤ Ln) (I : xLI K B l h X) (hc : ∀ {h : xH} {x5 x6 x7 : Option Value}, xLI K B l h X → yT (psL B b Ln sc) ZP K B l 1312 RL false cL_law 8 (some .boolean) MC MS rc rs 1438 [some (.ref b), some (.ref X), some (.ref (X + 39)), some (.ref (X + 63)), some (.int (nI i)), x5, x6, x7] [] h) : yT (psL B b Ln sc) ZP K B l 1312 RL false cL_law 8 (some .boolean) MC MS (rc + 3) (rs + 21) 677 [some (.ref b), some (.ref X), some (.ref (X + 39)), some (.ref (X + 63)), some (.int (nI i)), x5, x6, x7] [] h := by
  obtain ⟨tn, tf, rk, rv, σ, β, γ, pn, τ, ks, κ, φ, hn, hf, hg, wn, wf, wg, th, ov, W, A, ho⟩ := I
  refine yr_al1 dL_law_677 ?_
  refine yr_Vpi0 (s_day W ) kL_88 (Nat.le_of_ble_eq_true rfl) (Nat.le_of_ble_eq_true rfl) (rc' := rc) (rs' := rs) (Nat.add_comm _ _) (Nat.add_comm _ _) dL_law_678 (fun zv1 g1 q1 => ?_)
  rcases q1 with ⟨zc1, q1⟩ | ⟨zc1, q1⟩
  · obtain ⟨rfl, W1⟩ := q1
    have A1 := lw_am W1 A
    have ho1 := (W1.pf (X + 63) (by omega) (by omega)).trans ho
    refine yr_al2 dL_law_681 ?_
    refine yr_Vpi0 (a_day A1 ) kL_91 (Nat.le_of_ble_eq_true rfl) (Nat.le_of_ble_eq_true rfl) (Nat.zero_add _) (Nat.zero_add _) dL_law_682 (fun zv2 g2 q2 => ?_)
    rcases q2 with ⟨zd, q2⟩ | ⟨zd, q2⟩
    · obtain ⟨rfl, A2⟩ := q2
      refine yr_icmpeq (tgt := 1438) dL_law_685 (by decide) (fun _ => ?_) (fun zc => absurd rfl zc)
      exact yT.budget (by omega) (by omega) (hc (lw_jn W1 A2 ho1))
    · exact absurd zd zc1
  · obtain ⟨rfl, rw', W1⟩ := q1
    have A1 := lw_am W1 A
    have ho1 := (W1.pf (X + 63) (by omega) (by omega)).trans ho
    refine yr_al2 dL_law_681 ?_
    refine yr_Vpi0 (a_day A1 ) kL_91 (Nat.le_of_ble_eq_true rfl) (Nat.le_of_ble_eq_true rfl) (Nat.zero_add _) (Nat.zero_add _) dL_law_682 (fun zv2 g2 q2 => ?_)
    rcases q2 with ⟨zd, q2⟩ | ⟨zd, q2⟩
    · exact absurd zc1 zd
    · obtain ⟨rfl, A2⟩ := q2
      refine yr_icmpeq (tgt := 1438) dL_law_685 (by decide) (fun _ => ?_) (fun zc => absurd rfl zc)
      exact yT.budget (by omega) (by omega) (hc (lw_jn W1 (A2 rw') ho1))
set_option maxRecDepth 20000 in
theorem lc_undo {K : xK} {B : Nat} {l : Launch} {X b Ln : Nat} {sc : xs} {MC MS rc rs : Nat} {ZP : List Frame → Array Value → State → State → Prop} {i : Nat} {h : xH} {x5 x6 x7 : Option Value} (hLn : Ln < 2 ^ 31) (hi : i + 5 ≤ Ln) (I : xLI K B l h X) (hc : ∀ {h : xH} {x5 x6 x7 : Option Value}, xLI K B l h X → yT (psL B b Ln sc) ZP K B l 1312 RL false cL_law 8 (some .boolean) MC MS rc rs 1438 [some (.ref b), some (.ref X), some (.ref (X + 39)), some (.ref (X + 63)), some (.int (nI i)), x5, x6, x7] [] h) : yT (psL B b Ln sc) ZP K B l 1312 RL false cL_law 8 (some .boolean) MC MS (rc + 3) (rs + 21) 690 [some (.ref b), some (.ref X), some (.ref (X + 39)), some (.ref (X + 63)), some (.int (nI i)), x5, x6, x7] [] h := by
  obtain ⟨tn, tf, rk, rv, σ, β, γ, pn, τ, ks, κ, φ, hn, hf, hg, wn, wf, wg, th, ov, W, A, ho⟩ := I
  refine yr_al1 dL_law_690 ?_
  refine yr_Vpi0 (s_undo W ) kL_92 (Nat.le_of_ble_eq_true rfl) (Nat.le_of_ble_eq_true rfl) (rc' := rc + 3) (rs' := rs + 21) (Nat.zero_add _) (Nat.zero_add _) dL_law_691 (fun zv1 g1 q1 => ?_)
  obtain ⟨rfl, W1⟩ := q1
  have A1 := lw_am W1 A
  have ho1 := (W1.pf (X + 63) (by omega) (by omega)).trans ho
  refine yr_al2 dL_law_694 ?_
  refine yr_Vpi0 (a_undo A1 ) kL_95 (Nat.le_of_ble_eq_true rfl) (Nat.le_of_ble_eq_true rfl) (Nat.zero_add _) (Nat.zero_add _) dL_law_695 (fun zv2 g2 q2 => ?_)
  obtain ⟨rfl, A2⟩ := q2
  refine yr_icmpeq (tgt := 1438) dL_law_698 (by decide) (fun _ => ?_) (fun zc => absurd rfl zc)
  exact yT.budget (by omega) (by omega) (hc (lw_jn W1 A2 ho1))
set_option maxRecDepth 20000 in
theorem lc_needs {K : xK} {B : Nat} {l : Launch} {X b Ln : Nat} {sc : xs} {MC MS rc rs : Nat} {ZP : List Frame → Array Value → State → State → Prop} {i : Nat} {h : xH} {x5 x6 x7 : Option Value} (hLn : Ln < 2 ^ 31) (hi : i + 5 ≤ Ln) (I : xLI K B l h X) (hc : ∀ {h : xH} {x5 x6 x7 : Option Value}, xLI K B l h X → yT (psL B b Ln sc) ZP K B l 1312 RL false cL_law 8 (some .boolean) MC MS rc rs 1438 [some (.ref b), some (.ref X), some (.ref (X + 39)), some (.ref (X + 63)), some (.int (nI i)), x5, x6, x7] [] h) : yT (psL B b Ln sc) ZP K B l 1312 RL false cL_law 8 (some .boolean) MC MS (rc + 3) (rs + 21) 703 [some (.ref b), some (.ref X), some (.ref (X + 39)), some (.ref (X + 63)), some (.int (nI i)), x5, x6, x7] [] h := by
  obtain ⟨tn, tf, rk, rv, σ, β, γ, pn, τ, ks, κ, φ, hn, hf, hg, wn, wf, wg, th, ov, W, A, ho⟩ := I
  refine yr_al1 dL_law_703 ?_
  refine yr_Vpi0 (s_needs W ) kL_96 (Nat.le_of_ble_eq_true rfl) (Nat.le_of_ble_eq_true rfl) (rc' := rc + 3) (rs' := rs + 21) (Nat.zero_add _) (Nat.zero_add _) dL_law_704 (fun zv1 g1 q1 => ?_)
  obtain ⟨rfl, W1⟩ := q1
  have A1 := lw_am W1 A
  have ho1 := (W1.pf (X + 63) (by omega) (by omega)).trans ho
  refine yr_al2 dL_law_707 ?_
  refine yr_Vpi0 (a_needs A1 ) kL_99 (Nat.le_of_ble_eq_true rfl) (Nat.le_of_ble_eq_true rfl) (Nat.zero_add _) (Nat.zero_add _) dL_law_708 (fun zv2 g2 q2 => ?_)
  obtain ⟨rfl, A2⟩ := q2
  refine yr_icmpeq (tgt := 1438) dL_law_711 (by decide) (fun _ => ?_) (fun zc => absurd rfl zc)
  exact yT.budget (by omega) (by omega) (hc (lw_jn W1 A2 ho1))
