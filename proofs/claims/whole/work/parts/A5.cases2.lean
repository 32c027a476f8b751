/-! Cases of the law (written by wip/whole/law2.py) -/
set_option maxRecDepth 20000 in
theorem lc_later {K : xK} {B : Nat} {l : Launch} {X b Ln : Nat} {sc : xs} {MC MS rc rs : Nat} {ZP : List Frame → Array Value → State → State → Prop} {i : Nat} {h : xH} {x5 x6 x7 : Option Value} (hLn : Ln < 2 ^ 31) (hi : i + 5 ≤ Ln) (I : xLI K B l h X) (hc : ∀ {h : xH} {x5 x6 x7 : Option Value}, xLI K B l h X → yT (psL B b Ln sc) ZP K B l 1312 RL false cL_law 8 (some .boolean) MC MS rc rs 1438 [some (.ref b), some (.ref X), some (.ref (X + 39)), some (.ref (X + 63)), some (.int (nI i)), x5, x6, x7] [] h) : yT (psL B b Ln sc) ZP K B l 1312 RL false cL_law 8 (some .boolean) MC MS (rc + 3) (rs + 21) 716 [some (.ref b), some (.ref X), some (.ref (X + 39)), some (.ref (X + 63)), some (.int (nI i)), x5, x6, x7] [] h := by
  obtain ⟨tn, tf, rk, rv, σ, β, γ, pn, τ, ks, κ, φ, hn, hf, hg, wn, wf, wg, th, ov, W, A, ho⟩ := I
  refine yr_al1 dL_law_716 ?_
  refine yr_al0 dL_law_717 ?_
  refine yr_il4 dL_law_718 ?_
  refine yr_ic1 dL_law_720 ?_
  refine yr_iadd dL_law_721 ?_
  refine yr_eqi (y := nI (i + 1)) (nI_add i 1) ?_
  refine yr_sald (xix_nI (n := Ln) (j := i + 1) (by omega) hLn) dL_law_722 ?_
  refine yr_Vpi1 (s_later W (sc (i + 1))) kL_100 (Nat.le_of_ble_eq_true rfl) (Nat.le_of_ble_eq_true rfl) (rc' := rc + 3) (rs' := rs + 21) (Nat.zero_add _) (Nat.zero_add _) dL_law_723 (fun zv1 g1 q1 => ?_)
  obtain ⟨rfl, γ', W1⟩ := q1
  have A1 := lw_am W1 A
  have ho1 := (W1.pf (X + 63) (by omega) (by omega)).trans ho
  refine yr_al2 dL_law_726 ?_
  refine yr_al0 dL_law_727 ?_
  refine yr_il4 dL_law_728 ?_
  refine yr_ic1 dL_law_730 ?_
  refine yr_iadd dL_law_731 ?_
  refine yr_eqi (y := nI (i + 1)) (nI_add i 1) ?_
  refine yr_sald (xix_nI (n := Ln) (j := i + 1) (by omega) hLn) dL_law_732 ?_
  refine yr_Vpi1 (a_later A1 (sc (i + 1))) kL_103 (Nat.le_of_ble_eq_true rfl) (Nat.le_of_ble_eq_true rfl) (Nat.zero_add _) (Nat.zero_add _) dL_law_733 (fun zv2 g2 q2 => ?_)
  obtain ⟨rfl, A2⟩ := q2
  refine yr_icmpeq (tgt := 1438) dL_law_736 (by decide) (fun _ => ?_) (fun zc => absurd rfl zc)
  exact yT.budget (by omega) (by omega) (hc (lw_jn W1 A2 ho1))
set_option maxRecDepth 20000 in
theorem lc_done {K : xK} {B : Nat} {l : Launch} {X b Ln : Nat} {sc : xs} {MC MS rc rs : Nat} {ZP : List Frame → Array Value → State → State → Prop} {i : Nat} {h : xH} {x5 x6 x7 : Option Value} (hLn : Ln < 2 ^ 31) (hi : i + 5 ≤ Ln) (I : xLI K B l h X) (hc : ∀ {h : xH} {x5 x6 x7 : Option Value}, xLI K B l h X → yT (psL B b Ln sc) ZP K B l 1312 RL false cL_law 8 (some .boolean) MC MS rc rs 1438 [some (.ref b), some (.ref X), some (.ref (X + 39)), some (.ref (X + 63)), some (.int (nI i)), x5, x6, x7] [] h) : yT (psL B b Ln sc) ZP K B l 1312 RL false cL_law 8 (some .boolean) MC MS (rc + 3) (rs + 21) 741 [some (.ref b), some (.ref X), some (.ref (X + 39)), some (.ref (X + 63)), some (.int (nI i)), x5, x6, x7] [] h := by
  obtain ⟨tn, tf, rk, rv, σ, β, γ, pn, τ, ks, κ, φ, hn, hf, hg, wn, wf, wg, th, ov, W, A, ho⟩ := I
  refine yr_al1 dL_law_741 ?_
  refine yr_Vpi0 (s_done W ) kL_104 (Nat.le_of_ble_eq_true rfl) (Nat.le_of_ble_eq_true rfl) (rc' := rc + 3) (rs' := rs + 21) (Nat.zero_add _) (Nat.zero_add _) dL_law_742 (fun zv1 g1 q1 => ?_)
  obtain ⟨rfl, γ', W1⟩ := q1
  have A1 := lw_am W1 A
  have ho1 := (W1.pf (X + 63) (by omega) (by omega)).trans ho
  refine yr_al2 dL_law_745 ?_
  refine yr_Vpi0 (a_done A1 ) kL_107 (Nat.le_of_ble_eq_true rfl) (Nat.le_of_ble_eq_true rfl) (Nat.zero_add _) (Nat.zero_add _) dL_law_746 (fun zv2 g2 q2 => ?_)
  obtain ⟨rfl, A2⟩ := q2
  refine yr_icmpeq (tgt := 1438) dL_law_749 (by decide) (fun _ => ?_) (fun zc => absurd rfl zc)
  exact yT.budget (by omega) (by omega) (hc (lw_jn W1 A2 ho1))
set_option maxRecDepth 20000 in
theorem lc_dry {K : xK} {B : Nat} {l : Launch} {X b Ln : Nat} {sc : xs} {MC MS rc rs : Nat} {ZP : List Frame → Array Value → State → State → Prop} {i : Nat} {h : xH} {x5 x6 x7 : Option Value} (hLn : Ln < 2 ^ 31) (hi : i + 5 ≤ Ln) (I : xLI K B l h X) (hc : ∀ {h : xH} {x5 x6 x7 : Option Value}, xLI K B l h X → yT (psL B b Ln sc) ZP K B l 1312 RL false cL_law 8 (some .boolean) MC MS rc rs 1438 [some (.ref b), some (.ref X), some (.ref (X + 39)), some (.ref (X + 63)), some (.int (nI i)), x5, x6, x7] [] h) : yT (psL B b Ln sc) ZP K B l 1312 RL false cL_law 8 (some .boolean) MC MS (rc + 3) (rs + 21) 754 [some (.ref b), some (.ref X), some (.ref (X + 39)), some (.ref (X + 63)), some (.int (nI i)), x5, x6, x7] [] h := by
  obtain ⟨tn, tf, rk, rv, σ, β, γ, pn, τ, ks, κ, φ, hn, hf, hg, wn, wf, wg, th, ov, W, A, ho⟩ := I
  refine yr_al1 dL_law_754 ?_
  refine yr_al0 dL_law_755 ?_
  refine yr_il4 dL_law_756 ?_
  refine yr_ic1 dL_law_758 ?_
  refine yr_iadd dL_law_759 ?_
  refine yr_eqi (y := nI (i + 1)) (nI_add i 1) ?_
  refine yr_sald (xix_nI (n := Ln) (j := i + 1) (by omega) hLn) dL_law_760 ?_
  refine yr_Vpi1 (s_dry W (sc (i + 1))) kL_108 (Nat.le_of_ble_eq_true rfl) (Nat.le_of_ble_eq_true rfl) (rc' := rc + 3) (rs' := rs + 21) (Nat.zero_add _) (Nat.zero_add _) dL_law_761 (fun zv1 g1 q1 => ?_)
  obtain ⟨rfl, γ', W1⟩ := q1
  have A1 := lw_am W1 A
  have ho1 := (W1.pf (X + 63) (by omega) (by omega)).trans ho
  refine yr_al2 dL_law_764 ?_
  refine yr_al0 dL_law_765 ?_
  refine yr_il4 dL_law_766 ?_
  refine yr_ic1 dL_law_768 ?_
  refine yr_iadd dL_law_769 ?_
  refine yr_eqi (y := nI (i + 1)) (nI_add i 1) ?_
  refine yr_sald (xix_nI (n := Ln) (j := i + 1) (by omega) hLn) dL_law_770 ?_
  refine yr_Vpi1 (a_dry A1 (sc (i + 1))) kL_111 (Nat.le_of_ble_eq_true rfl) (Nat.le_of_ble_eq_true rfl) (Nat.zero_add _) (Nat.zero_add _) dL_law_771 (fun zv2 g2 q2 => ?_)
  obtain ⟨rfl, A2⟩ := q2
  refine yr_icmpeq (tgt := 1438) dL_law_774 (by decide) (fun _ => ?_) (fun zc => absurd rfl zc)
  exact yT.budget (by omega) (by omega) (hc (lw_jn W1 A2 ho1))
set_option maxRecDepth 20000 in
theorem lc_when {K : xK} {B : Nat} {l : Launch} {X b Ln : Nat} {sc : xs} {MC MS rc rs : Nat} {ZP : List Frame → Array Value → State → State → Prop} {i : Nat} {h : xH} {x5 x6 x7 : Option Value} (hLn : Ln < 2 ^ 31) (hi : i + 5 ≤ Ln) (I : xLI K B l h X) (hc : ∀ {h : xH} {x5 x6 x7 : Option Value}, xLI K B l h X → yT (psL B b Ln sc) ZP K B l 1312 RL false cL_law 8 (some .boolean) MC MS rc rs 1438 [some (.ref b), some (.ref X), some (.ref (X + 39)), some (.ref (X + 63)), some (.int (nI i)), x5, x6, x7] [] h) : yT (psL B b Ln sc) ZP K B l 1312 RL false cL_law 8 (some .boolean) MC MS (rc + 3) (rs + 21) 779 [some (.ref b), some (.ref X), some (.ref (X + 39)), some (.ref (X + 63)), some (.int (nI i)), x5, x6, x7] [] h := by
  obtain ⟨tn, tf, rk, rv, σ, β, γ, pn, τ, ks, κ, φ, hn, hf, hg, wn, wf, wg, th, ov, W, A, ho⟩ := I
  refine yr_al1 dL_law_779 ?_
  refine yr_al0 dL_law_780 ?_
  refine yr_il4 dL_law_781 ?_
  refine yr_ic1 dL_law_783 ?_
  refine yr_iadd dL_law_784 ?_
  refine yr_eqi (y := nI (i + 1)) (nI_add i 1) ?_
  refine yr_sald (xix_nI (n := Ln) (j := i + 1) (by omega) hLn) dL_law_785 ?_
  refine yr_al0 dL_law_786 ?_
  refine yr_il4 dL_law_787 ?_
  refine yr_ic2 dL_law_789 ?_
  refine yr_iadd dL_law_790 ?_
  refine yr_eqi (y := nI (i + 2)) (nI_add i 2) ?_
  refine yr_sald (xix_nI (n := Ln) (j := i + 2) (by omega) hLn) dL_law_791 ?_
  refine yr_Vpi2 (s_when W (sc (i + 1)) (sc (i + 2))) kL_112 (Nat.le_of_ble_eq_true rfl) (Nat.le_of_ble_eq_true rfl) (rc' := rc + 3) (rs' := rs + 21) (Nat.zero_add _) (Nat.zero_add _) dL_law_792 (fun zv1 g1 q1 => ?_)
  obtain ⟨rfl, γ', W1⟩ := q1
  have A1 := lw_am W1 A
  have ho1 := (W1.pf (X + 63) (by omega) (by omega)).trans ho
  refine yr_al2 dL_law_795 ?_
  refine yr_al0 dL_law_796 ?_
  refine yr_il4 dL_law_797 ?_
  refine yr_ic1 dL_law_799 ?_
  refine yr_iadd dL_law_800 ?_
  refine yr_eqi (y := nI (i + 1)) (nI_add i 1) ?_
  refine yr_sald (xix_nI (n := Ln) (j := i + 1) (by omega) hLn) dL_law_801 ?_
  refine yr_al0 dL_law_802 ?_
  refine yr_il4 dL_law_803 ?_
  refine yr_ic2 dL_law_805 ?_
  refine yr_iadd dL_law_806 ?_
  refine yr_eqi (y := nI (i + 2)) (nI_add i 2) ?_
  refine yr_sald (xix_nI (n := Ln) (j := i + 2) (by omega) hLn) dL_law_807 ?_
  refine yr_Vpi2 (a_when A1 (sc (i + 1)) (sc (i + 2))) kL_115 (Nat.le_of_ble_eq_true rfl) (Nat.le_of_ble_eq_true rfl) (Nat.zero_add _) (Nat.zero_add _) dL_law_808 (fun zv2 g2 q2 => ?_)
  obtain ⟨rfl, A2⟩ := q2
  refine yr_icmpeq (tgt := 1438) dL_law_811 (by decide) (fun _ => ?_) (fun zc => absurd rfl zc)
  exact yT.budget (by omega) (by omega) (hc (lw_jn W1 A2 ho1))
set_option maxRecDepth 20000 in
theorem lc_enough {K : xK} {B : Nat} {l : Launch} {X b Ln : Nat} {sc : xs} {MC MS rc rs : Nat} {ZP : List Frame → Array Value → State → State → Prop} {i : Nat} {h : xH} {x5 x6 x7 : Option Value} (hLn : Ln < 2 ^ 31) (hi : i + 5 ≤ Ln) (I : xLI K B l h X) (hc : ∀ {h : xH} {x5 x6 x7 : Option Value}, xLI K B l h X → yT (psL B b Ln sc) ZP K B l 1312 RL false cL_law 8 (some .boolean) MC MS rc rs 1438 [some (.ref b), some (.ref X), some (.ref (X + 39)), some (.ref (X + 63)), some (.int (nI i)), x5, x6, x7] [] h) : yT (psL B b Ln sc) ZP K B l 1312 RL false cL_law 8 (some .boolean) MC MS (rc + 3) (rs + 21) 816 [some (.ref b), some (.ref X), some (.ref (X + 39)), some (.ref (X + 63)), some (.int (nI i)), x5, x6, x7] [] h := by
  obtain ⟨tn, tf, rk, rv, σ, β, γ, pn, τ, ks, κ, φ, hn, hf, hg, wn, wf, wg, th, ov, W, A, ho⟩ := I
  refine yr_al1 dL_law_816 ?_
  refine yr_Vpi0 (s_enough W ) kL_116 (Nat.le_of_ble_eq_true rfl) (Nat.le_of_ble_eq_true rfl) (rc' := rc + 3) (rs' := rs + 21) (Nat.zero_add _) (Nat.zero_add _) dL_law_817 (fun zv1 g1 q1 => ?_)
  obtain ⟨rfl, γ', W1⟩ := q1
  have A1 := lw_am W1 A
  have ho1 := (W1.pf (X + 63) (by omega) (by omega)).trans ho
  refine yr_al2 dL_law_820 ?_
  refine yr_Vpi0 (a_enough A1 ) kL_119 (Nat.le_of_ble_eq_true rfl) (Nat.le_of_ble_eq_true rfl) (Nat.zero_add _) (Nat.zero_add _) dL_law_821 (fun zv2 g2 q2 => ?_)
  obtain ⟨rfl, A2⟩ := q2
  refine yr_icmpeq (tgt := 1438) dL_law_824 (by decide) (fun _ => ?_) (fun zc => absurd rfl zc)
  exact yT.budget (by omega) (by omega) (hc (lw_jn W1 A2 ho1))
set_option maxRecDepth 20000 in
theorem lc_waiting {K : xK} {B : Nat} {l : Launch} {X b Ln : Nat} {sc : xs} {MC MS rc rs : Nat} {ZP : List Frame → Array Value → State → State → Prop} {i : Nat} {h : xH} {x5 x6 x7 : Option Value} (hLn : Ln < 2 ^ 31) (hi : i + 5 ≤ Ln) (I : xLI K B l h X) (hc : ∀ {h : xH} {x5 x6 x7 : Option Value}, xLI K B l h X → yT (psL B b Ln sc) ZP K B l 1312 RL false cL_law 8 (some .boolean) MC MS rc rs 1438 [some (.ref b), some (.ref X), some (.ref (X + 39)), some (.ref (X + 63)), some (.int (nI i)), x5, x6, x7] [] h) : yT (psL B b Ln sc) ZP K B l 1312 RL false cL_law 8 (some .boolean) MC MS (rc + 3) (rs + 21) 829 [some (.ref b), some (.ref X), some (.ref (X + 39)), some (.ref (X + 63)), some (.int (nI i)), x5, x6, x7] [] h := by
  obtain ⟨tn, tf, rk, rv, σ, β, γ, pn, τ, ks, κ, φ, hn, hf, hg, wn, wf, wg, th, ov, W, A, ho⟩ := I
  refine yr_al1 dL_law_829 ?_
  refine yr_Vpi0 (s_waiting W ) kL_120 (Nat.le_of_ble_eq_true rfl) (Nat.le_of_ble_eq_true rfl) (rc' := rc + 3) (rs' := rs + 21) (Nat.zero_add _) (Nat.zero_add _) dL_law_830 (fun zv1 g1 q1 => ?_)
  obtain ⟨rfl, γ', W1⟩ := q1
  have A1 := lw_am W1 A
  have ho1 := (W1.pf (X + 63) (by omega) (by omega)).trans ho
  refine yr_al2 dL_law_833 ?_
  refine yr_Vpi0 (a_waiting A1 ) kL_123 (Nat.le_of_ble_eq_true rfl) (Nat.le_of_ble_eq_true rfl) (Nat.zero_add _) (Nat.zero_add _) dL_law_834 (fun zv2 g2 q2 => ?_)
  obtain ⟨rfl, A2⟩ := q2
  refine yr_icmpeq (tgt := 1438) dL_law_837 (by decide) (fun _ => ?_) (fun zc => absurd rfl zc)
  exact yT.budget (by omega) (by omega) (hc (lw_jn W1 A2 ho1))
set_option maxRecDepth 20000 in
theorem lc_holds {K : xK} {B : Nat} {l : Launch} {X b Ln : Nat} {sc : xs} {MC MS rc rs : Nat} {ZP : List Frame → Array Value → State → State → Prop} {i : Nat} {h : xH} {x5 x6 x7 : Option Value} (hLn : Ln < 2 ^ 31) (hi : i + 5 ≤ Ln) (I : xLI K B l h X) (hc : ∀ {h : xH} {x5 x6 x7 : Option Value}, xLI K B l h X → yT (psL B b Ln sc) ZP K B l 1312 RL false cL_law 8 (some .boolean) MC MS rc rs 1438 [some (.ref b), some (.ref X), some (.ref (X + 39)), some (.ref (X + 63)), some (.int (nI i)), x5, x6, x7] [] h) : yT (psL B b Ln sc) ZP K B l 1312 RL false cL_law 8 (some .boolean) MC MS (rc + 3) (rs + 21) 842 [some (.ref b), some (.ref X), some (.ref (X + 39)), some (.ref (X + 63)), some (.int (nI i)), x5, x6, x7] [] h := by
  obtain ⟨tn, tf, rk, rv, σ, β, γ, pn, τ, ks, κ, φ, hn, hf, hg, wn, wf, wg, th, ov, W, A, ho⟩ := I
  refine yr_al1 dL_law_842 ?_
  refine yr_al0 dL_law_843 ?_
  refine yr_il4 dL_law_844 ?_
  refine yr_ic1 dL_law_846 ?_
  refine yr_iadd dL_law_847 ?_
  refine yr_eqi (y := nI (i + 1)) (nI_add i 1) ?_
  refine yr_sald (xix_nI (n := Ln) (j := i + 1) (by omega) hLn) dL_law_848 ?_
  refine yr_Vpi1 (s_holds W (sc (i + 1))) kL_124 (Nat.le_of_ble_eq_true rfl) (Nat.le_of_ble_eq_true rfl) (rc' := rc + 3) (rs' := rs + 21) (Nat.zero_add _) (Nat.zero_add _) dL_law_849 (fun zv1 g1 q1 => ?_)
  obtain ⟨rfl, γ', W1⟩ := q1
  have A1 := lw_am W1 A
  have ho1 := (W1.pf (X + 63) (by omega) (by omega)).trans ho
  refine yr_al2 dL_law_852 ?_
  refine yr_al0 dL_law_853 ?_
  refine yr_il4 dL_law_854 ?_
  refine yr_ic1 dL_law_856 ?_
  refine yr_iadd dL_law_857 ?_
  refine yr_eqi (y := nI (i + 1)) (nI_add i 1) ?_
  refine yr_sald (xix_nI (n := Ln) (j := i + 1) (by omega) hLn) dL_law_858 ?_
  refine yr_Vpi1 (a_holds A1 (sc (i + 1))) kL_127 (Nat.le_of_ble_eq_true rfl) (Nat.le_of_ble_eq_true rfl) (Nat.zero_add _) (Nat.zero_add _) dL_law_859 (fun zv2 g2 q2 => ?_)
  obtain ⟨rfl, A2⟩ := q2
  refine yr_icmpeq (tgt := 1438) dL_law_862 (by decide) (fun _ => ?_) (fun zc => absurd rfl zc)
  exact yT.budget (by omega) (by omega) (hc (lw_jn W1 A2 ho1))
set_option maxRecDepth 20000 in
theorem lc_soonest {K : xK} {B : Nat} {l : Launch} {X b Ln : Nat} {sc : xs} {MC MS rc rs : Nat} {ZP : List Frame → Array Value → State → State → Prop} {i : Nat} {h : xH} {x5 x6 x7 : Option Value} (hLn : Ln < 2 ^ 31) (hi : i + 5 ≤ Ln) (I : xLI K B l h X) (hc : ∀ {h : xH} {x5 x6 x7 : Option Value}, xLI K B l h X → yT (psL B b Ln sc) ZP K B l 1312 RL false cL_law 8 (some .boolean) MC MS rc rs 1438 [some (.ref b), some (.ref X), some (.ref (X + 39)), some (.ref (X + 63)), some (.int (nI i)), x5, x6, x7] [] h) : yT (psL B b Ln sc) ZP K B l 1312 RL false cL_law 8 (some .boolean) MC MS (rc + 3) (rs + 21) 867 [some (.ref b), some (.ref X), some (.ref (X + 39)), some (.ref (X + 63)), some (.int (nI i)), x5, x6, x7] [] h := by
  obtain ⟨tn, tf, rk, rv, σ, β, γ, pn, τ, ks, κ, φ, hn, hf, hg, wn, wf, wg, th, ov, W, A, ho⟩ := I
  refine yr_al1 dL_law_867 ?_
  refine yr_Vpi0 (s_soonest W ) kL_128 (Nat.le_of_ble_eq_true rfl) (Nat.le_of_ble_eq_true rfl) (rc' := rc + 3) (rs' := rs + 21) (Nat.zero_add _) (Nat.zero_add _) dL_law_868 (fun zv1 g1 q1 => ?_)
  obtain ⟨rfl, γ', W1⟩ := q1
  have A1 := lw_am W1 A
  have ho1 := (W1.pf (X + 63) (by omega) (by omega)).trans ho
  refine yr_al2 dL_law_871 ?_
  refine yr_Vpi0 (a_soonest A1 ) kL_131 (Nat.le_of_ble_eq_true rfl) (Nat.le_of_ble_eq_true rfl) (Nat.zero_add _) (Nat.zero_add _) dL_law_872 (fun zv2 g2 q2 => ?_)
  obtain ⟨rfl, A2⟩ := q2
  refine yr_icmpeq (tgt := 1438) dL_law_875 (by decide) (fun _ => ?_) (fun zc => absurd rfl zc)
  exact yT.budget (by omega) (by omega) (hc (lw_jn W1 A2 ho1))
set_option maxRecDepth 20000 in
theorem lc_most {K : xK} {B : Nat} {l : Launch} {X b Ln : Nat} {sc : xs} {MC MS rc rs : Nat} {ZP : List Frame → Array Value → State → State → Prop} {i : Nat} {h : xH} {x5 x6 x7 : Option Value} (hLn : Ln < 2 ^ 31) (hi : i + 5 ≤ Ln) (I : xLI K B l h X) (hc : ∀ {h : xH} {x5 x6 x7 : Option Value}, xLI K B l h X → yT (psL B b Ln sc) ZP K B l 1312 RL false cL_law 8 (some .boolean) MC MS rc rs 1438 [some (.ref b), some (.ref X), some (.ref (X + 39)), some (.ref (X + 63)), some (.int (nI i)), x5, x6, x7] [] h) : yT (psL B b Ln sc) ZP K B l 1312 RL false cL_law 8 (some .boolean) MC MS (rc + 3) (rs + 21) 880 [some (.ref b), some (.ref X), some (.ref (X + 39)), some (.ref (X + 63)), some (.int (nI i)), x5, x6, x7] [] h := by
  obtain ⟨tn, tf, rk, rv, σ, β, γ, pn, τ, ks, κ, φ, hn, hf, hg, wn, wf, wg, th, ov, W, A, ho⟩ := I
  refine yr_al1 dL_law_880 ?_
  refine yr_al0 dL_law_881 ?_
  refine yr_il4 dL_law_882 ?_
  refine yr_ic1 dL_law_884 ?_
  refine yr_iadd dL_law_885 ?_
  refine yr_eqi (y := nI (i + 1)) (nI_add i 1) ?_
  refine yr_sald (xix_nI (n := Ln) (j := i + 1) (by omega) hLn) dL_law_886 ?_
  refine yr_Vpi1 (s_most W (sc (i + 1))) kL_132 (Nat.le_of_ble_eq_true rfl) (Nat.le_of_ble_eq_true rfl) (rc' := rc + 3) (rs' := rs + 21) (Nat.zero_add _) (Nat.zero_add _) dL_law_887 (fun zv1 g1 q1 => ?_)
  obtain ⟨rfl, γ', W1⟩ := q1
  have A1 := lw_am W1 A
  have ho1 := (W1.pf (X + 63) (by omega) (by omega)).trans ho
  refine yr_al2 dL_law_890 ?_
  refine yr_al0 dL_law_891 ?_
  refine yr_il4 dL_law_892 ?_
  refine yr_ic1 dL_law_894 ?_
  refine yr_iadd dL_law_895 ?_
  refine yr_eqi (y := nI (i + 1)) (nI_add i 1) ?_
  refine yr_sald (xix_nI (n := Ln) (j := i + 1) (by omega) hLn) dL_law_896 ?_
  refine yr_Vpi1 (a_most A1 (sc (i + 1))) kL_135 (Nat.le_of_ble_eq_true rfl) (Nat.le_of_ble_eq_true rfl) (Nat.zero_add _) (Nat.zero_add _) dL_law_897 (fun zv2 g2 q2 => ?_)
  obtain ⟨rfl, A2⟩ := q2
  refine yr_icmpeq (tgt := 1438) dL_law_900 (by decide) (fun _ => ?_) (fun zc => absurd rfl zc)
  exact yT.budget (by omega) (by omega) (hc (lw_jn W1 A2 ho1))
set_option maxRecDepth 20000 in
theorem lc_least {K : xK} {B : Nat} {l : Launch} {X b Ln : Nat} {sc : xs} {MC MS rc rs : Nat} {ZP : List Frame → Array Value → State → State → Prop} {i : Nat} {h : xH} {x5 x6 x7 : Option Value} (hLn : Ln < 2 ^ 31) (hi : i + 5 ≤ Ln) (I : xLI K B l h X) (hc : ∀ {h : xH} {x5 x6 x7 : Option Value}, xLI K B l h X → yT (psL B b Ln sc) ZP K B l 1312 RL false cL_law 8 (some .boolean) MC MS rc rs 1438 [some (.ref b), some (.ref X), some (.ref (X + 39)), some (.ref (X + 63)), some (.int (nI i)), x5, x6, x7] [] h) : yT (psL B b Ln sc) ZP K B l 1312 RL false cL_law 8 (some .boolean) MC MS (rc + 3) (rs + 21) 905 [some (.ref b), some (.ref X), some (.ref (X + 39)), some (.ref (X + 63)), some (.int (nI i)), x5, x6, x7] [] h := by
  obtain ⟨tn, tf, rk, rv, σ, β, γ, pn, τ, ks, κ, φ, hn, hf, hg, wn, wf, wg, th, ov, W, A, ho⟩ := I
  refine yr_al1 dL_law_905 ?_
  refine yr_al0 dL_law_906 ?_
  refine yr_il4 dL_law_907 ?_
  refine yr_ic1 dL_law_909 ?_
  refine yr_iadd dL_law_910 ?_
  refine yr_eqi (y := nI (i + 1)) (nI_add i 1) ?_
  refine yr_sald (xix_nI (n := Ln) (j := i + 1) (by omega) hLn) dL_law_911 ?_
  refine yr_Vpi1 (s_least W (sc (i + 1))) kL_136 (Nat.le_of_ble_eq_true rfl) (Nat.le_of_ble_eq_true rfl) (rc' := rc + 3) (rs' := rs + 21) (Nat.zero_add _) (Nat.zero_add _) dL_law_912 (fun zv1 g1 q1 => ?_)
  obtain ⟨nx, fa, fb, rfl, γ', W1⟩ := q1
  have A1 := lw_am W1 A
  have ho1 := (W1.pf (X + 63) (by omega) (by omega)).trans ho
  refine yr_al2 dL_law_915 ?_
  refine yr_al0 dL_law_916 ?_
  refine yr_il4 dL_law_917 ?_
  refine yr_ic1 dL_law_919 ?_
  refine yr_iadd dL_law_920 ?_
  refine yr_eqi (y := nI (i + 1)) (nI_add i 1) ?_
  refine yr_sald (xix_nI (n := Ln) (j := i + 1) (by omega) hLn) dL_law_921 ?_
  refine yr_Vpi1 (a_least A1 nx fa fb (sc (i + 1))) kL_139 (Nat.le_of_ble_eq_true rfl) (Nat.le_of_ble_eq_true rfl) (Nat.zero_add _) (Nat.zero_add _) dL_law_922 (fun zv2 g2 q2 => ?_)
  obtain ⟨rfl, A2⟩ := q2
  refine yr_icmpeq (tgt := 1438) dL_law_925 (by decide) (fun _ => ?_) (fun zc => absurd rfl zc)
  exact yT.budget (by omega) (by omega) (hc (lw_jn W1 A2 ho1))
set_option maxRecDepth 20000 in
theorem lc_freely {K : xK} {B : Nat} {l : Launch} {X b Ln : Nat} {sc : xs} {MC MS rc rs : Nat} {ZP : List Frame → Array Value → State → State → Prop} {i : Nat} {h : xH} {x5 x6 x7 : Option Value} (hLn : Ln < 2 ^ 31) (hi : i + 5 ≤ Ln) (I : xLI K B l h X) (hc : ∀ {h : xH} {x5 x6 x7 : Option Value}, xLI K B l h X → yT (psL B b Ln sc) ZP K B l 1312 RL false cL_law 8 (some .boolean) MC MS rc rs 1438 [some (.ref b), some (.ref X), some (.ref (X + 39)), some (.ref (X + 63)), some (.int (nI i)), x5, x6, x7] [] h) : yT (psL B b Ln sc) ZP K B l 1312 RL false cL_law 8 (some .boolean) MC MS (rc + 3) (rs + 21) 930 [some (.ref b), some (.ref X), some (.ref (X + 39)), some (.ref (X + 63)), some (.int (nI i)), x5, x6, x7] [] h := by
  obtain ⟨tn, tf, rk, rv, σ, β, γ, pn, τ, ks, κ, φ, hn, hf, hg, wn, wf, wg, th, ov, W, A, ho⟩ := I
  refine yr_al1 dL_law_930 ?_
  refine yr_Vpi0 (s_freely W ) kL_140 (Nat.le_of_ble_eq_true rfl) (Nat.le_of_ble_eq_true rfl) (rc' := rc + 3) (rs' := rs + 21) (Nat.zero_add _) (Nat.zero_add _) dL_law_931 (fun zv1 g1 q1 => ?_)
  obtain ⟨nx, fa, fb, rfl, γ', W1⟩ := q1
  have A1 := lw_am W1 A
  have ho1 := (W1.pf (X + 63) (by omega) (by omega)).trans ho
  refine yr_al2 dL_law_934 ?_
  refine yr_Vpi0 (a_freely A1 nx fa fb ) kL_143 (Nat.le_of_ble_eq_true rfl) (Nat.le_of_ble_eq_true rfl) (Nat.zero_add _) (Nat.zero_add _) dL_law_935 (fun zv2 g2 q2 => ?_)
  obtain ⟨rfl, A2⟩ := q2
  refine yr_icmpeq (tgt := 1438) dL_law_938 (by decide) (fun _ => ?_) (fun zc => absurd rfl zc)
  exact yT.budget (by omega) (by omega) (hc (lw_jn W1 A2 ho1))
set_option maxRecDepth 20000 in
theorem lc_best {K : xK} {B : Nat} {l : Launch} {X b Ln : Nat} {sc : xs} {MC MS rc rs : Nat} {ZP : List Frame → Array Value → State → State → Prop} {i : Nat} {h : xH} {x5 x6 x7 : Option Value} (hLn : Ln < 2 ^ 31) (hi : i + 5 ≤ Ln) (I : xLI K B l h X) (hc : ∀ {h : xH} {x5 x6 x7 : Option Value}, xLI K B l h X → yT (psL B b Ln sc) ZP K B l 1312 RL false cL_law 8 (some .boolean) MC MS rc rs 1438 [some (.ref b), some (.ref X), some (.ref (X + 39)), some (.ref (X + 63)), some (.int (nI i)), x5, x6, x7] [] h) : yT (psL B b Ln sc) ZP K B l 1312 RL false cL_law 8 (some .boolean) MC MS (rc + 3) (rs + 21) 943 [some (.ref b), some (.ref X), some (.ref (X + 39)), some (.ref (X + 63)), some (.int (nI i)), x5, x6, x7] [] h := by
  obtain ⟨tn, tf, rk, rv, σ, β, γ, pn, τ, ks, κ, φ, hn, hf, hg, wn, wf, wg, th, ov, W, A, ho⟩ := I
  refine yr_al1 dL_law_943 ?_
  refine yr_Vpi0 (s_best W ) kL_144 (Nat.le_of_ble_eq_true rfl) (Nat.le_of_ble_eq_true rfl) (rc' := rc + 3) (rs' := rs + 21) (Nat.zero_add _) (Nat.zero_add _) dL_law_944 (fun zv1 g1 q1 => ?_)
  obtain ⟨rfl, γ', W1⟩ := q1
  have A1 := lw_am W1 A
  have ho1 := (W1.pf (X + 63) (by omega) (by omega)).trans ho
  refine yr_al2 dL_law_947 ?_
  refine yr_Vpi0 (a_best A1 ) kL_147 (Nat.le_of_ble_eq_true rfl) (Nat.le_of_ble_eq_true rfl) (Nat.zero_add _) (Nat.zero_add _) dL_law_948 (fun zv2 g2 q2 => ?_)
  obtain ⟨rfl, A2⟩ := q2
  refine yr_icmpeq (tgt := 1438) dL_law_951 (by decide) (fun _ => ?_) (fun zc => absurd rfl zc)
  exact yT.budget (by omega) (by omega) (hc (lw_jn W1 A2 ho1))
set_option maxRecDepth 20000 in
theorem lc_alike {K : xK} {B : Nat} {l : Launch} {X b Ln : Nat} {sc : xs} {MC MS rc rs : Nat} {ZP : List Frame → Array Value → State → State → Prop} {i : Nat} {h : xH} {x5 x6 x7 : Option Value} (hLn : Ln < 2 ^ 31) (hi : i + 5 ≤ Ln) (I : xLI K B l h X) (hc : ∀ {h : xH} {x5 x6 x7 : Option Value}, xLI K B l h X → yT (psL B b Ln sc) ZP K B l 1312 RL false cL_law 8 (some .boolean) MC MS rc rs 1438 [some (.ref b), some (.ref X), some (.ref (X + 39)), some (.ref (X + 63)), some (.int (nI i)), x5, x6, x7] [] h) : yT (psL B b Ln sc) ZP K B l 1312 RL false cL_law 8 (some .boolean) MC MS (rc + 3) (rs + 21) 956 [some (.ref b), some (.ref X), some (.ref (X + 39)), some (.ref (X + 63)), some (.int (nI i)), x5, x6, x7] [] h := by
  obtain ⟨tn, tf, rk, rv, σ, β, γ, pn, τ, ks, κ, φ, hn, hf, hg, wn, wf, wg, th, ov, W, A, ho⟩ := I
  refine yr_al1 dL_law_956 ?_
  refine yr_Vpi0 (s_alike W ) kL_148 (Nat.le_of_ble_eq_true rfl) (Nat.le_of_ble_eq_true rfl) (rc' := rc + 3) (rs' := rs + 21) (Nat.zero_add _) (Nat.zero_add _) dL_law_957 (fun zv1 g1 q1 => ?_)
  obtain ⟨rfl, γ', W1⟩ := q1
  have A1 := lw_am W1 A
  have ho1 := (W1.pf (X + 63) (by omega) (by omega)).trans ho
  refine yr_al2 dL_law_960 ?_
  refine yr_Vpi0 (a_alike A1 ) kL_151 (Nat.le_of_ble_eq_true rfl) (Nat.le_of_ble_eq_true rfl) (Nat.zero_add _) (Nat.zero_add _) dL_law_961 (fun zv2 g2 q2 => ?_)
  obtain ⟨rfl, A2⟩ := q2
  refine yr_icmpeq (tgt := 1438) dL_law_964 (by decide) (fun _ => ?_) (fun zc => absurd rfl zc)
  exact yT.budget (by omega) (by omega) (hc (lw_jn W1 A2 ho1))
set_option maxRecDepth 20000 in
theorem lc_parts {K : xK} {B : Nat} {l : Launch} {X b Ln : Nat} {sc : xs} {MC MS rc rs : Nat} {ZP : List Frame → Array Value → State → State → Prop} {i : Nat} {h : xH} {x5 x6 x7 : Option Value} (hLn : Ln < 2 ^ 31) (hi : i + 5 ≤ Ln) (I : xLI K B l h X) (hc : ∀ {h : xH} {x5 x6 x7 : Option Value}, xLI K B l h X → yT (psL B b Ln sc) ZP K B l 1312 RL false cL_law 8 (some .boolean) MC MS rc rs 1438 [some (.ref b), some (.ref X), some (.ref (X + 39)), some (.ref (X + 63)), some (.int (nI i)), x5, x6, x7] [] h) : yT (psL B b Ln sc) ZP K B l 1312 RL false cL_law 8 (some .boolean) MC MS (rc + 3) (rs + 21) 969 [some (.ref b), some (.ref X), some (.ref (X + 39)), some (.ref (X + 63)), some (.int (nI i)), x5, x6, x7] [] h := by
  obtain ⟨tn, tf, rk, rv, σ, β, γ, pn, τ, ks, κ, φ, hn, hf, hg, wn, wf, wg, th, ov, W, A, ho⟩ := I
  refine yr_al1 dL_law_969 ?_
  refine yr_al0 dL_law_970 ?_
  refine yr_il4 dL_law_971 ?_
  refine yr_ic1 dL_law_973 ?_
  refine yr_iadd dL_law_974 ?_
  refine yr_eqi (y := nI (i + 1)) (nI_add i 1) ?_
  refine yr_sald (xix_nI (n := Ln) (j := i + 1) (by omega) hLn) dL_law_975 ?_
  refine yr_Vpi1 (s_parts W (sc (i + 1))) kL_152 (Nat.le_of_ble_eq_true rfl) (Nat.le_of_ble_eq_true rfl) (rc' := rc + 3) (rs' := rs + 21) (Nat.zero_add _) (Nat.zero_add _) dL_law_976 (fun zv1 g1 q1 => ?_)
  obtain ⟨rfl, γ', W1⟩ := q1
  have A1 := lw_am W1 A
  have ho1 := (W1.pf (X + 63) (by omega) (by omega)).trans ho
  refine yr_al2 dL_law_979 ?_
  refine yr_al0 dL_law_980 ?_
  refine yr_il4 dL_law_981 ?_
  refine yr_ic1 dL_law_983 ?_
  refine yr_iadd dL_law_984 ?_
  refine yr_eqi (y := nI (i + 1)) (nI_add i 1) ?_
  refine yr_sald (xix_nI (n := Ln) (j := i + 1) (by omega) hLn) dL_law_985 ?_
  refine yr_Vpi1 (a_parts A1 (sc (i + 1))) kL_155 (Nat.le_of_ble_eq_true rfl) (Nat.le_of_ble_eq_true rfl) (Nat.zero_add _) (Nat.zero_add _) dL_law_986 (fun zv2 g2 q2 => ?_)
  obtain ⟨rfl, A2⟩ := q2
  refine yr_icmpeq (tgt := 1438) dL_law_989 (by decide) (fun _ => ?_) (fun zc => absurd rfl zc)
  exact yT.budget (by omega) (by omega) (hc (lw_jn W1 A2 ho1))
set_option maxRecDepth 20000 in
theorem lc_spare {K : xK} {B : Nat} {l : Launch} {X b Ln : Nat} {sc : xs} {MC MS rc rs : Nat} {ZP : List Frame → Array Value → State → State → Prop} {i : Nat} {h : xH} {x5 x6 x7 : Option Value} (hLn : Ln < 2 ^ 31) (hi : i + 5 ≤ Ln) (I : xLI K B l h X) (hc : ∀ {h : xH} {x5 x6 x7 : Option Value}, xLI K B l h X → yT (psL B b Ln sc) ZP K B l 1312 RL false cL_law 8 (some .boolean) MC MS rc rs 1438 [some (.ref b), some (.ref X), some (.ref (X + 39)), some (.ref (X + 63)), some (.int (nI i)), x5, x6, x7] [] h) : yT (psL B b Ln sc) ZP K B l 1312 RL false cL_law 8 (some .boolean) MC MS (rc + 3) (rs + 21) 994 [some (.ref b), some (.ref X), some (.ref (X + 39)), some (.ref (X + 63)), some (.int (nI i)), x5, x6, x7] [] h := by
  obtain ⟨tn, tf, rk, rv, σ, β, γ, pn, τ, ks, κ, φ, hn, hf, hg, wn, wf, wg, th, ov, W, A, ho⟩ := I
  refine yr_al1 dL_law_994 ?_
  refine yr_Vpi0 (s_spare W ) kL_156 (Nat.le_of_ble_eq_true rfl) (Nat.le_of_ble_eq_true rfl) (rc' := rc + 3) (rs' := rs + 21) (Nat.zero_add _) (Nat.zero_add _) dL_law_995 (fun zv1 g1 q1 => ?_)
  obtain ⟨rfl, γ', W1⟩ := q1
  have A1 := lw_am W1 A
  have ho1 := (W1.pf (X + 63) (by omega) (by omega)).trans ho
  refine yr_al2 dL_law_998 ?_
  refine yr_Vpi0 (a_spare A1 ) kL_159 (Nat.le_of_ble_eq_true rfl) (Nat.le_of_ble_eq_true rfl) (Nat.zero_add _) (Nat.zero_add _) dL_law_999 (fun zv2 g2 q2 => ?_)
  obtain ⟨rfl, A2⟩ := q2
  refine yr_icmpeq (tgt := 1438) dL_law_1002 (by decide) (fun _ => ?_) (fun zc => absurd rfl zc)
  exact yT.budget (by omega) (by omega) (hc (lw_jn W1 A2 ho1))
set_option maxRecDepth 20000 in
theorem lc_odds {K : xK} {B : Nat} {l : Launch} {X b Ln : Nat} {sc : xs} {MC MS rc rs : Nat} {ZP : List Frame → Array Value → State → State → Prop} {i : Nat} {h : xH} {x5 x6 x7 : Option Value} (hLn : Ln < 2 ^ 31) (hi : i + 5 ≤ Ln) (I : xLI K B l h X) (hc : ∀ {h : xH} {x5 x6 x7 : Option Value}, xLI K B l h X → yT (psL B b Ln sc) ZP K B l 1312 RL false cL_law 8 (some .boolean) MC MS rc rs 1438 [some (.ref b), some (.ref X), some (.ref (X + 39)), some (.ref (X + 63)), some (.int (nI i)), x5, x6, x7] [] h) : yT (psL B b Ln sc) ZP K B l 1312 RL false cL_law 8 (some .boolean) MC MS (rc + 3) (rs + 21) 1007 [some (.ref b), some (.ref X), some (.ref (X + 39)), some (.ref (X + 63)), some (.int (nI i)), x5, x6, x7] [] h := by
  obtain ⟨tn, tf, rk, rv, σ, β, γ, pn, τ, ks, κ, φ, hn, hf, hg, wn, wf, wg, th, ov, W, A, ho⟩ := I
  refine yr_al1 dL_law_1007 ?_
  refine yr_al0 dL_law_1008 ?_
  refine yr_il4 dL_law_1009 ?_
  refine yr_ic1 dL_law_1011 ?_
  refine yr_iadd dL_law_1012 ?_
  refine yr_eqi (y := nI (i + 1)) (nI_add i 1) ?_
  refine yr_sald (xix_nI (n := Ln) (j := i + 1) (by omega) hLn) dL_law_1013 ?_
  refine yr_al0 dL_law_1014 ?_
  refine yr_il4 dL_law_1015 ?_
  refine yr_ic2 dL_law_1017 ?_
  refine yr_iadd dL_law_1018 ?_
  refine yr_eqi (y := nI (i + 2)) (nI_add i 2) ?_
  refine yr_sald (xix_nI (n := Ln) (j := i + 2) (by omega) hLn) dL_law_1019 ?_
  refine yr_Vpi2 (s_odds W (sc (i + 1)) (sc (i + 2))) kL_160 (Nat.le_of_ble_eq_true rfl) (Nat.le_of_ble_eq_true rfl) (rc' := rc + 3) (rs' := rs + 21) (Nat.zero_add _) (Nat.zero_add _) dL_law_1020 (fun zv1 g1 q1 => ?_)
  obtain ⟨rfl, W1⟩ := q1
  have A1 := lw_am W1 A
  have ho1 := (W1.pf (X + 63) (by omega) (by omega)).trans ho
  refine yr_al2 dL_law_1023 ?_
  refine yr_al0 dL_law_1024 ?_
  refine yr_il4 dL_law_1025 ?_
  refine yr_ic1 dL_law_1027 ?_
  refine yr_iadd dL_law_1028 ?_
  refine yr_eqi (y := nI (i + 1)) (nI_add i 1) ?_
  refine yr_sald (xix_nI (n := Ln) (j := i + 1) (by omega) hLn) dL_law_1029 ?_
  refine yr_al0 dL_law_1030 ?_
  refine yr_il4 dL_law_1031 ?_
  refine yr_ic2 dL_law_1033 ?_
  refine yr_iadd dL_law_1034 ?_
  refine yr_eqi (y := nI (i + 2)) (nI_add i 2) ?_
  refine yr_sald (xix_nI (n := Ln) (j := i + 2) (by omega) hLn) dL_law_1035 ?_
  refine yr_Vpi2 (a_odds A1 (sc (i + 1)) (sc (i + 2))) kL_163 (Nat.le_of_ble_eq_true rfl) (Nat.le_of_ble_eq_true rfl) (Nat.zero_add _) (Nat.zero_add _) dL_law_1036 (fun zv2 g2 q2 => ?_)
  obtain ⟨rfl, A2⟩ := q2
  refine yr_icmpeq (tgt := 1438) dL_law_1039 (by decide) (fun _ => ?_) (fun zc => absurd rfl zc)
  exact yT.budget (by omega) (by omega) (hc (lw_jn W1 A2 ho1))
