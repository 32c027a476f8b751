/-! Cases of the law (written by wip/whole/law2.py) -/
set_option maxRecDepth 20000 in
theorem lc_heard {K : xK} {B : Nat} {l : Launch} {X b Ln : Nat} {sc : xs} {MC MS rc rs : Nat} {ZP : List Frame → Array Value → State → State → Prop} {i : Nat} {h : xH} {x5 x6 x7 : Option Value} (hLn : Ln < 2 ^ 31) (hi : i + 5 ≤ Ln) (I : xLI K B l h X) (hc : ∀ {h : xH} {x5 x6 x7 : Option Value}, xLI K B l h X → yT (psL B b Ln sc) ZP K B l 1312 RL false cL_law 8 (some .boolean) MC MS rc rs 1438 [some (.ref b), some (.ref X), some (.ref (X + 39)), some (.ref (X + 63)), some (.int (nI i)), x5, x6, x7] [] h) : yT (psL B b Ln sc) ZP K B l 1312 RL false cL_law 8 (some .boolean) MC MS (rc + 3) (rs + 21) 1044 [some (.ref b), some (.ref X), some (.ref (X + 39)), some (.ref (X + 63)), some (.int (nI i)), x5, x6, x7] [] h := by
  obtain ⟨tn, tf, rk, rv, σ, β, γ, pn, τ, ks, κ, φ, hn, hf, hg, wn, wf, wg, th, ov, W, A, ho⟩ := I
  refine yr_al1 dL_law_1044 ?_
  refine yr_al0 dL_law_1045 ?_
  refine yr_il4 dL_law_1046 ?_
  refine yr_ic1 dL_law_1048 ?_
  refine yr_iadd dL_law_1049 ?_
  refine yr_eqi (y := nI (i + 1)) (nI_add i 1) ?_
  refine yr_sald (xix_nI (n := Ln) (j := i + 1) (by omega) hLn) dL_law_1050 ?_
  refine yr_al0 dL_law_1051 ?_
  refine yr_il4 dL_law_1052 ?_
  refine yr_ic2 dL_law_1054 ?_
  refine yr_iadd dL_law_1055 ?_
  refine yr_eqi (y := nI (i + 2)) (nI_add i 2) ?_
  refine yr_sald (xix_nI (n := Ln) (j := i + 2) (by omega) hLn) dL_law_1056 ?_
  refine yr_Vpi2 (s_heard W (sc (i + 1)) (sc (i + 2))) kL_164 (Nat.le_of_ble_eq_true rfl) (Nat.le_of_ble_eq_true rfl) (rc' := rc + 3) (rs' := rs + 21) (Nat.zero_add _) (Nat.zero_add _) dL_law_1057 (fun zv1 g1 q1 => ?_)
  obtain ⟨rfl, W1⟩ := q1
  have A1 := lw_am W1 A
  have ho1 := (W1.pf (X + 63) (by omega) (by omega)).trans ho
  refine yr_al2 dL_law_1060 ?_
  refine yr_al0 dL_law_1061 ?_
  refine yr_il4 dL_law_1062 ?_
  refine yr_ic1 dL_law_1064 ?_
  refine yr_iadd dL_law_1065 ?_
  refine yr_eqi (y := nI (i + 1)) (nI_add i 1) ?_
  refine yr_sald (xix_nI (n := Ln) (j := i + 1) (by omega) hLn) dL_law_1066 ?_
  refine yr_al0 dL_law_1067 ?_
  refine yr_il4 dL_law_1068 ?_
  refine yr_ic2 dL_law_1070 ?_
  refine yr_iadd dL_law_1071 ?_
  refine yr_eqi (y := nI (i + 2)) (nI_add i 2) ?_
  refine yr_sald (xix_nI (n := Ln) (j := i + 2) (by omega) hLn) dL_law_1072 ?_
  refine yr_Vpi2 (a_heard A1 (sc (i + 1)) (sc (i + 2))) kL_167 (Nat.le_of_ble_eq_true rfl) (Nat.le_of_ble_eq_true rfl) (Nat.zero_add _) (Nat.zero_add _) dL_law_1073 (fun zv2 g2 q2 => ?_)
  obtain ⟨rfl, A2⟩ := q2
  refine yr_icmpeq (tgt := 1438) dL_law_1076 (by decide) (fun _ => ?_) (fun zc => absurd rfl zc)
  exact yT.budget (by omega) (by omega) (hc (lw_jn W1 A2 ho1))
set_option maxRecDepth 20000 in
theorem lc_forget {K : xK} {B : Nat} {l : Launch} {X b Ln : Nat} {sc : xs} {MC MS rc rs : Nat} {ZP : List Frame → Array Value → State → State → Prop} {i : Nat} {h : xH} {x5 x6 x7 : Option Value} (hLn : Ln < 2 ^ 31) (hi : i + 5 ≤ Ln) (I : xLI K B l h X) (hc : ∀ {h : xH} {x5 x6 x7 : Option Value}, xLI K B l h X → yT (psL B b Ln sc) ZP K B l 1312 RL false cL_law 8 (some .boolean) MC MS rc rs 1438 [some (.ref b), some (.ref X), some (.ref (X + 39)), some (.ref (X + 63)), some (.int (nI i)), x5, x6, x7] [] h) : yT (psL B b Ln sc) ZP K B l 1312 RL false cL_law 8 (some .boolean) MC MS (rc + 3) (rs + 21) 1081 [some (.ref b), some (.ref X), some (.ref (X + 39)), some (.ref (X + 63)), some (.int (nI i)), x5, x6, x7] [] h := by
  obtain ⟨tn, tf, rk, rv, σ, β, γ, pn, τ, ks, κ, φ, hn, hf, hg, wn, wf, wg, th, ov, W, A, ho⟩ := I
  refine yr_al1 dL_law_1081 ?_
  refine yr_Vpi0 (s_forget W ) kL_168 (Nat.le_of_ble_eq_true rfl) (Nat.le_of_ble_eq_true rfl) (rc' := rc + 3) (rs' := rs + 21) (Nat.zero_add _) (Nat.zero_add _) dL_law_1082 (fun zv1 g1 q1 => ?_)
  obtain ⟨rfl, W1⟩ := q1
  have A1 := lw_am W1 A
  have ho1 := (W1.pf (X + 63) (by omega) (by omega)).trans ho
  refine yr_al2 dL_law_1085 ?_
  refine yr_Vpi0 (a_forget A1 ) kL_171 (Nat.le_of_ble_eq_true rfl) (Nat.le_of_ble_eq_true rfl) (Nat.zero_add _) (Nat.zero_add _) dL_law_1086 (fun zv2 g2 q2 => ?_)
  obtain ⟨rfl, A2⟩ := q2
  refine yr_icmpeq (tgt := 1438) dL_law_1089 (by decide) (fun _ => ?_) (fun zc => absurd rfl zc)
  exact yT.budget (by omega) (by omega) (hc (lw_jn W1 A2 ho1))
set_option maxRecDepth 20000 in
theorem lc_fits {K : xK} {B : Nat} {l : Launch} {X b Ln : Nat} {sc : xs} {MC MS rc rs : Nat} {ZP : List Frame → Array Value → State → State → Prop} {i : Nat} {h : xH} {x5 x6 x7 : Option Value} (hLn : Ln < 2 ^ 31) (hi : i + 5 ≤ Ln) (I : xLI K B l h X) (hc : ∀ {h : xH} {x5 x6 x7 : Option Value}, xLI K B l h X → yT (psL B b Ln sc) ZP K B l 1312 RL false cL_law 8 (some .boolean) MC MS rc rs 1438 [some (.ref b), some (.ref X), some (.ref (X + 39)), some (.ref (X + 63)), some (.int (nI i)), x5, x6, x7] [] h) : yT (psL B b Ln sc) ZP K B l 1312 RL false cL_law 8 (some .boolean) MC MS (rc + 3) (rs + 21) 1094 [some (.ref b), some (.ref X), some (.ref (X + 39)), some (.ref (X + 63)), some (.int (nI i)), x5, x6, x7] [] h := by
  obtain ⟨tn, tf, rk, rv, σ, β, γ, pn, τ, ks, κ, φ, hn, hf, hg, wn, wf, wg, th, ov, W, A, ho⟩ := I
  refine yr_al1 dL_law_1094 ?_
  refine yr_Vpi0 (s_fits W ) kL_172 (Nat.le_of_ble_eq_true rfl) (Nat.le_of_ble_eq_true rfl) (rc' := rc + 3) (rs' := rs + 21) (Nat.zero_add _) (Nat.zero_add _) dL_law_1095 (fun zv1 g1 q1 => ?_)
  obtain ⟨rfl, W1⟩ := q1
  have A1 := lw_am W1 A
  have ho1 := (W1.pf (X + 63) (by omega) (by omega)).trans ho
  refine yr_al2 dL_law_1098 ?_
  refine yr_Vpi0 (a_fits A1 ) kL_175 (Nat.le_of_ble_eq_true rfl) (Nat.le_of_ble_eq_true rfl) (Nat.zero_add _) (Nat.zero_add _) dL_law_1099 (fun zv2 g2 q2 => ?_)
  obtain ⟨rfl, A2⟩ := q2
  refine yr_icmpeq (tgt := 1438) dL_law_1102 (by decide) (fun _ => ?_) (fun zc => absurd rfl zc)
  exact yT.budget (by omega) (by omega) (hc (lw_jn W1 A2 ho1))
set_option maxRecDepth 20000 in
theorem lc_asks {K : xK} {B : Nat} {l : Launch} {X b Ln : Nat} {sc : xs} {MC MS rc rs : Nat} {ZP : List Frame → Array Value → State → State → Prop} {i : Nat} {h : xH} {x5 x6 x7 : Option Value} (hLn : Ln < 2 ^ 31) (hi : i + 5 ≤ Ln) (I : xLI K B l h X) (hc : ∀ {h : xH} {x5 x6 x7 : Option Value}, xLI K B l h X → yT (psL B b Ln sc) ZP K B l 1312 RL false cL_law 8 (some .boolean) MC MS rc rs 1438 [some (.ref b), some (.ref X), some (.ref (X + 39)), some (.ref (X + 63)), some (.int (nI i)), x5, x6, x7] [] h) : yT (psL B b Ln sc) ZP K B l 1312 RL false cL_law 8 (some .boolean) MC MS (rc + 3) (rs + 21) 1107 [some (.ref b), some (.ref X), some (.ref (X + 39)), some (.ref (X + 63)), some (.int (nI i)), x5, x6, x7] [] h := by
  obtain ⟨tn, tf, rk, rv, σ, β, γ, pn, τ, ks, κ, φ, hn, hf, hg, wn, wf, wg, th, ov, W, A, ho⟩ := I
  refine yr_al1 dL_law_1107 ?_
  refine yr_Vpi0 (s_asks W ) kL_176 (Nat.le_of_ble_eq_true rfl) (Nat.le_of_ble_eq_true rfl) (rc' := rc + 3) (rs' := rs + 21) (Nat.zero_add _) (Nat.zero_add _) dL_law_1108 (fun zv1 g1 q1 => ?_)
  obtain ⟨rfl, W1⟩ := q1
  have A1 := lw_am W1 A
  have ho1 := (W1.pf (X + 63) (by omega) (by omega)).trans ho
  refine yr_al2 dL_law_1111 ?_
  refine yr_Vpi0 (a_asks A1 ) kL_179 (Nat.le_of_ble_eq_true rfl) (Nat.le_of_ble_eq_true rfl) (Nat.zero_add _) (Nat.zero_add _) dL_law_1112 (fun zv2 g2 q2 => ?_)
  obtain ⟨rfl, A2⟩ := q2
  refine yr_icmpeq (tgt := 1438) dL_law_1115 (by decide) (fun _ => ?_) (fun zc => absurd rfl zc)
  exact yT.budget (by omega) (by omega) (hc (lw_jn W1 A2 ho1))
set_option maxRecDepth 20000 in
theorem lc_saw {K : xK} {B : Nat} {l : Launch} {X b Ln : Nat} {sc : xs} {MC MS rc rs : Nat} {ZP : List Frame → Array Value → State → State → Prop} {i : Nat} {h : xH} {x5 x6 x7 : Option Value} (hLn : Ln < 2 ^ 31) (hi : i + 5 ≤ Ln) (I : xLI K B l h X) (hc : ∀ {h : xH} {x5 x6 x7 : Option Value}, xLI K B l h X → yT (psL B b Ln sc) ZP K B l 1312 RL false cL_law 8 (some .boolean) MC MS rc rs 1438 [some (.ref b), some (.ref X), some (.ref (X + 39)), some (.ref (X + 63)), some (.int (nI i)), x5, x6, x7] [] h) : yT (psL B b Ln sc) ZP K B l 1312 RL false cL_law 8 (some .boolean) MC MS (rc + 3) (rs + 21) 1120 [some (.ref b), some (.ref X), some (.ref (X + 39)), some (.ref (X + 63)), some (.int (nI i)), x5, x6, x7] [] h := by
  obtain ⟨tn, tf, rk, rv, σ, β, γ, pn, τ, ks, κ, φ, hn, hf, hg, wn, wf, wg, th, ov, W, A, ho⟩ := I
  refine yr_al1 dL_law_1120 ?_
  refine yr_al0 dL_law_1121 ?_
  refine yr_il4 dL_law_1122 ?_
  refine yr_ic1 dL_law_1124 ?_
  refine yr_iadd dL_law_1125 ?_
  refine yr_eqi (y := nI (i + 1)) (nI_add i 1) ?_
  refine yr_sald (xix_nI (n := Ln) (j := i + 1) (by omega) hLn) dL_law_1126 ?_
  refine yr_al0 dL_law_1127 ?_
  refine yr_il4 dL_law_1128 ?_
  refine yr_ic2 dL_law_1130 ?_
  refine yr_iadd dL_law_1131 ?_
  refine yr_eqi (y := nI (i + 2)) (nI_add i 2) ?_
  refine yr_sald (xix_nI (n := Ln) (j := i + 2) (by omega) hLn) dL_law_1132 ?_
  refine yr_al0 dL_law_1133 ?_
  refine yr_il4 dL_law_1134 ?_
  refine yr_ic3 dL_law_1136 ?_
  refine yr_iadd dL_law_1137 ?_
  refine yr_eqi (y := nI (i + 3)) (nI_add i 3) ?_
  refine yr_sald (xix_nI (n := Ln) (j := i + 3) (by omega) hLn) dL_law_1138 ?_
  refine yr_Vpi3 (s_saw W (sc (i + 1)) (sc (i + 2)) (sc (i + 3))) kL_180 (Nat.le_of_ble_eq_true rfl) (Nat.le_of_ble_eq_true rfl) (rc' := rc + 3) (rs' := rs + 21) (Nat.zero_add _) (Nat.zero_add _) dL_law_1139 (fun zv1 g1 q1 => ?_)
  obtain ⟨rfl, W1⟩ := q1
  have A1 := lw_am W1 A
  have ho1 := (W1.pf (X + 63) (by omega) (by omega)).trans ho
  refine yr_al2 dL_law_1142 ?_
  refine yr_al0 dL_law_1143 ?_
  refine yr_il4 dL_law_1144 ?_
  refine yr_ic1 dL_law_1146 ?_
  refine yr_iadd dL_law_1147 ?_
  refine yr_eqi (y := nI (i + 1)) (nI_add i 1) ?_
  refine yr_sald (xix_nI (n := Ln) (j := i + 1) (by omega) hLn) dL_law_1148 ?_
  refine yr_al0 dL_law_1149 ?_
  refine yr_il4 dL_law_1150 ?_
  refine yr_ic2 dL_law_1152 ?_
  refine yr_iadd dL_law_1153 ?_
  refine yr_eqi (y := nI (i + 2)) (nI_add i 2) ?_
  refine yr_sald (xix_nI (n := Ln) (j := i + 2) (by omega) hLn) dL_law_1154 ?_
  refine yr_al0 dL_law_1155 ?_
  refine yr_il4 dL_law_1156 ?_
  refine yr_ic3 dL_law_1158 ?_
  refine yr_iadd dL_law_1159 ?_
  refine yr_eqi (y := nI (i + 3)) (nI_add i 3) ?_
  refine yr_sald (xix_nI (n := Ln) (j := i + 3) (by omega) hLn) dL_law_1160 ?_
  refine yr_Vpi3 (a_saw A1 (sc (i + 1)) (sc (i + 2)) (sc (i + 3))) kL_184 (Nat.le_of_ble_eq_true rfl) (Nat.le_of_ble_eq_true rfl) (Nat.zero_add _) (Nat.zero_add _) dL_law_1161 (fun zv2 g2 q2 => ?_)
  obtain ⟨rfl, A2⟩ := q2
  refine yr_icmpeq (tgt := 1438) dL_law_1164 (by decide) (fun _ => ?_) (fun zc => absurd rfl zc)
  exact yT.budget (by omega) (by omega) (hc (lw_jn W1 A2 ho1))
set_option maxRecDepth 20000 in
theorem lc_denies {K : xK} {B : Nat} {l : Launch} {X b Ln : Nat} {sc : xs} {MC MS rc rs : Nat} {ZP : List Frame → Array Value → State → State → Prop} {i : Nat} {h : xH} {x5 x6 x7 : Option Value} (hLn : Ln < 2 ^ 31) (hi : i + 5 ≤ Ln) (I : xLI K B l h X) (hc : ∀ {h : xH} {x5 x6 x7 : Option Value}, xLI K B l h X → yT (psL B b Ln sc) ZP K B l 1312 RL false cL_law 8 (some .boolean) MC MS rc rs 1438 [some (.ref b), some (.ref X), some (.ref (X + 39)), some (.ref (X + 63)), some (.int (nI i)), x5, x6, x7] [] h) : yT (psL B b Ln sc) ZP K B l 1312 RL false cL_law 8 (some .boolean) MC MS (rc + 3) (rs + 21) 1169 [some (.ref b), some (.ref X), some (.ref (X + 39)), some (.ref (X + 63)), some (.int (nI i)), x5, x6, x7] [] h := by
  obtain ⟨tn, tf, rk, rv, σ, β, γ, pn, τ, ks, κ, φ, hn, hf, hg, wn, wf, wg, th, ov, W, A, ho⟩ := I
  refine yr_al1 dL_law_1169 ?_
  refine yr_Vpi0 (s_denies W ) kL_185 (Nat.le_of_ble_eq_true rfl) (Nat.le_of_ble_eq_true rfl) (rc' := rc + 3) (rs' := rs + 21) (Nat.zero_add _) (Nat.zero_add _) dL_law_1170 (fun zv1 g1 q1 => ?_)
  obtain ⟨rfl, W1⟩ := q1
  have A1 := lw_am W1 A
  have ho1 := (W1.pf (X + 63) (by omega) (by omega)).trans ho
  refine yr_al2 dL_law_1173 ?_
  refine yr_Vpi0 (a_denies A1 ) kL_188 (Nat.le_of_ble_eq_true rfl) (Nat.le_of_ble_eq_true rfl) (Nat.zero_add _) (Nat.zero_add _) dL_law_1174 (fun zv2 g2 q2 => ?_)
  obtain ⟨rfl, A2⟩ := q2
  refine yr_icmpeq (tgt := 1438) dL_law_1177 (by decide) (fun _ => ?_) (fun zc => absurd rfl zc)
  exact yT.budget (by omega) (by omega) (hc (lw_jn W1 A2 ho1))
set_option maxRecDepth 20000 in
theorem lc_laws {K : xK} {B : Nat} {l : Launch} {X b Ln : Nat} {sc : xs} {MC MS rc rs : Nat} {ZP : List Frame → Array Value → State → State → Prop} {i : Nat} {h : xH} {x5 x6 x7 : Option Value} (hLn : Ln < 2 ^ 31) (hi : i + 5 ≤ Ln) (I : xLI K B l h X) (hc : ∀ {h : xH} {x5 x6 x7 : Option Value}, xLI K B l h X → yT (psL B b Ln sc) ZP K B l 1312 RL false cL_law 8 (some .boolean) MC MS rc rs 1438 [some (.ref b), some (.ref X), some (.ref (X + 39)), some (.ref (X + 63)), some (.int (nI i)), x5, x6, x7] [] h) : yT (psL B b Ln sc) ZP K B l 1312 RL false cL_law 8 (some .boolean) MC MS (rc + 3) (rs + 21) 1182 [some (.ref b), some (.ref X), some (.ref (X + 39)), some (.ref (X + 63)), some (.int (nI i)), x5, x6, x7] [] h := by
  obtain ⟨tn, tf, rk, rv, σ, β, γ, pn, τ, ks, κ, φ, hn, hf, hg, wn, wf, wg, th, ov, W, A, ho⟩ := I
  refine yr_al1 dL_law_1182 ?_
  refine yr_Vpi0 (s_laws W ) kL_189 (Nat.le_of_ble_eq_true rfl) (Nat.le_of_ble_eq_true rfl) (rc' := rc + 3) (rs' := rs + 21) (Nat.zero_add _) (Nat.zero_add _) dL_law_1183 (fun zv1 g1 q1 => ?_)
  obtain ⟨rfl, W1⟩ := q1
  have A1 := lw_am W1 A
  have ho1 := (W1.pf (X + 63) (by omega) (by omega)).trans ho
  refine yr_al2 dL_law_1186 ?_
  refine yr_Vpi0 (a_laws A1 ) kL_192 (Nat.le_of_ble_eq_true rfl) (Nat.le_of_ble_eq_true rfl) (Nat.zero_add _) (Nat.zero_add _) dL_law_1187 (fun zv2 g2 q2 => ?_)
  obtain ⟨rfl, A2⟩ := q2
  refine yr_icmpeq (tgt := 1438) dL_law_1190 (by decide) (fun _ => ?_) (fun zc => absurd rfl zc)
  exact yT.budget (by omega) (by omega) (hc (lw_jn W1 A2 ho1))
set_option maxRecDepth 20000 in
theorem lc_looks {K : xK} {B : Nat} {l : Launch} {X b Ln : Nat} {sc : xs} {MC MS rc rs : Nat} {ZP : List Frame → Array Value → State → State → Prop} {i : Nat} {h : xH} {x5 x6 x7 : Option Value} (hLn : Ln < 2 ^ 31) (hi : i + 5 ≤ Ln) (I : xLI K B l h X) (hc : ∀ {h : xH} {x5 x6 x7 : Option Value}, xLI K B l h X → yT (psL B b Ln sc) ZP K B l 1312 RL false cL_law 8 (some .boolean) MC MS rc rs 1438 [some (.ref b), some (.ref X), some (.ref (X + 39)), some (.ref (X + 63)), some (.int (nI i)), x5, x6, x7] [] h) : yT (psL B b Ln sc) ZP K B l 1312 RL false cL_law 8 (some .boolean) MC MS (rc + 3) (rs + 21) 1195 [some (.ref b), some (.ref X), some (.ref (X + 39)), some (.ref (X + 63)), some (.int (nI i)), x5, x6, x7] [] h := by
  obtain ⟨tn, tf, rk, rv, σ, β, γ, pn, τ, ks, κ, φ, hn, hf, hg, wn, wf, wg, th, ov, W, A, ho⟩ := I
  refine yr_al1 dL_law_1195 ?_
  refine yr_Vpi0 (s_looks W ) kL_193 (Nat.le_of_ble_eq_true rfl) (Nat.le_of_ble_eq_true rfl) (rc' := rc + 3) (rs' := rs + 21) (Nat.zero_add _) (Nat.zero_add _) dL_law_1196 (fun zv1 g1 q1 => ?_)
  obtain ⟨rfl, W1⟩ := q1
  have A1 := lw_am W1 A
  have ho1 := (W1.pf (X + 63) (by omega) (by omega)).trans ho
  refine yr_al2 dL_law_1199 ?_
  refine yr_Vpi0 (a_looks A1 ) kL_196 (Nat.le_of_ble_eq_true rfl) (Nat.le_of_ble_eq_true rfl) (Nat.zero_add _) (Nat.zero_add _) dL_law_1200 (fun zv2 g2 q2 => ?_)
  obtain ⟨rfl, A2⟩ := q2
  refine yr_icmpeq (tgt := 1438) dL_law_1203 (by decide) (fun _ => ?_) (fun zc => absurd rfl zc)
  exact yT.budget (by omega) (by omega) (hc (lw_jn W1 A2 ho1))
set_option maxRecDepth 20000 in
theorem lc_pails {K : xK} {B : Nat} {l : Launch} {X b Ln : Nat} {sc : xs} {MC MS rc rs : Nat} {ZP : List Frame → Array Value → State → State → Prop} {i : Nat} {h : xH} {x5 x6 x7 : Option Value} (hLn : Ln < 2 ^ 31) (hi : i + 5 ≤ Ln) (I : xLI K B l h X) (hc : ∀ {h : xH} {x5 x6 x7 : Option Value}, xLI K B l h X → yT (psL B b Ln sc) ZP K B l 1312 RL false cL_law 8 (some .boolean) MC MS rc rs 1438 [some (.ref b), some (.ref X), some (.ref (X + 39)), some (.ref (X + 63)), some (.int (nI i)), x5, x6, x7] [] h) : yT (psL B b Ln sc) ZP K B l 1312 RL false cL_law 8 (some .boolean) MC MS (rc + 3) (rs + 21) 1208 [some (.ref b), some (.ref X), some (.ref (X + 39)), some (.ref (X + 63)), some (.int (nI i)), x5, x6, x7] [] h := by
  obtain ⟨tn, tf, rk, rv, σ, β, γ, pn, τ, ks, κ, φ, hn, hf, hg, wn, wf, wg, th, ov, W, A, ho⟩ := I
  refine yr_al1 dL_law_1208 ?_
  refine yr_al0 dL_law_1209 ?_
  refine yr_il4 dL_law_1210 ?_
  refine yr_ic1 dL_law_1212 ?_
  refine yr_iadd dL_law_1213 ?_
  refine yr_eqi (y := nI (i + 1)) (nI_add i 1) ?_
  refine yr_sald (xix_nI (n := Ln) (j := i + 1) (by omega) hLn) dL_law_1214 ?_
  refine yr_Vpi1 (s_pails W (sc (i + 1))) kL_197 (Nat.le_of_ble_eq_true rfl) (Nat.le_of_ble_eq_true rfl) (rc' := rc + 3) (rs' := rs + 21) (Nat.zero_add _) (Nat.zero_add _) dL_law_1215 (fun zv1 g1 q1 => ?_)
  obtain ⟨f, rfl, W1⟩ := q1
  have A1 := lw_am W1 A
  have ho1 := (W1.pf (X + 63) (by omega) (by omega)).trans ho
  refine yr_al2 dL_law_1218 ?_
  refine yr_al0 dL_law_1219 ?_
  refine yr_il4 dL_law_1220 ?_
  refine yr_ic1 dL_law_1222 ?_
  refine yr_iadd dL_law_1223 ?_
  refine yr_eqi (y := nI (i + 1)) (nI_add i 1) ?_
  refine yr_sald (xix_nI (n := Ln) (j := i + 1) (by omega) hLn) dL_law_1224 ?_
  refine yr_Vpi1 (a_pails A1 f (sc (i + 1))) kL_200 (Nat.le_of_ble_eq_true rfl) (Nat.le_of_ble_eq_true rfl) (Nat.zero_add _) (Nat.zero_add _) dL_law_1225 (fun zv2 g2 q2 => ?_)
  obtain ⟨rfl, A2⟩ := q2
  refine yr_icmpeq (tgt := 1438) dL_law_1228 (by decide) (fun _ => ?_) (fun zc => absurd rfl zc)
  exact yT.budget (by omega) (by omega) (hc (lw_jn W1 A2 ho1))
set_option maxRecDepth 20000 in
theorem lc_rests {K : xK} {B : Nat} {l : Launch} {X b Ln : Nat} {sc : xs} {MC MS rc rs : Nat} {ZP : List Frame → Array Value → State → State → Prop} {i : Nat} {h : xH} {x5 x6 x7 : Option Value} (hLn : Ln < 2 ^ 31) (hi : i + 5 ≤ Ln) (I : xLI K B l h X) (hc : ∀ {h : xH} {x5 x6 x7 : Option Value}, xLI K B l h X → yT (psL B b Ln sc) ZP K B l 1312 RL false cL_law 8 (some .boolean) MC MS rc rs 1438 [some (.ref b), some (.ref X), some (.ref (X + 39)), some (.ref (X + 63)), some (.int (nI i)), x5, x6, x7] [] h) : yT (psL B b Ln sc) ZP K B l 1312 RL false cL_law 8 (some .boolean) MC MS (rc + 3) (rs + 21) 1233 [some (.ref b), some (.ref X), some (.ref (X + 39)), some (.ref (X + 63)), some (.int (nI i)), x5, x6, x7] [] h := by
  obtain ⟨tn, tf, rk, rv, σ, β, γ, pn, τ, ks, κ, φ, hn, hf, hg, wn, wf, wg, th, ov, W, A, ho⟩ := I
  refine yr_al1 dL_law_1233 ?_
  refine yr_al0 dL_law_1234 ?_
  refine yr_il4 dL_law_1235 ?_
  refine yr_ic1 dL_law_1237 ?_
  refine yr_iadd dL_law_1238 ?_
  refine yr_eqi (y := nI (i + 1)) (nI_add i 1) ?_
  refine yr_sald (xix_nI (n := Ln) (j := i + 1) (by omega) hLn) dL_law_1239 ?_
  refine yr_Vpi1 (s_rests W (sc (i + 1))) kL_201 (Nat.le_of_ble_eq_true rfl) (Nat.le_of_ble_eq_true rfl) (rc' := rc + 3) (rs' := rs + 21) (Nat.zero_add _) (Nat.zero_add _) dL_law_1240 (fun zv1 g1 q1 => ?_)
  obtain ⟨rfl, W1⟩ := q1
  have A1 := lw_am W1 A
  have ho1 := (W1.pf (X + 63) (by omega) (by omega)).trans ho
  refine yr_al2 dL_law_1243 ?_
  refine yr_al0 dL_law_1244 ?_
  refine yr_il4 dL_law_1245 ?_
  refine yr_ic1 dL_law_1247 ?_
  refine yr_iadd dL_law_1248 ?_
  refine yr_eqi (y := nI (i + 1)) (nI_add i 1) ?_
  refine yr_sald (xix_nI (n := Ln) (j := i + 1) (by omega) hLn) dL_law_1249 ?_
  refine yr_Vpi1 (a_rests A1 (sc (i + 1))) kL_204 (Nat.le_of_ble_eq_true rfl) (Nat.le_of_ble_eq_true rfl) (Nat.zero_add _) (Nat.zero_add _) dL_law_1250 (fun zv2 g2 q2 => ?_)
  obtain ⟨rfl, A2⟩ := q2
  refine yr_icmpeq (tgt := 1438) dL_law_1253 (by decide) (fun _ => ?_) (fun zc => absurd rfl zc)
  exact yT.budget (by omega) (by omega) (hc (lw_jn W1 A2 ho1))
set_option maxRecDepth 20000 in
theorem lc_law {K : xK} {B : Nat} {l : Launch} {X b Ln : Nat} {sc : xs} {MC MS rc rs : Nat} {ZP : List Frame → Array Value → State → State → Prop} {i : Nat} {h : xH} {x5 x6 x7 : Option Value} (hLn : Ln < 2 ^ 31) (hi : i + 5 ≤ Ln) (I : xLI K B l h X) (hc : ∀ {h : xH} {x5 x6 x7 : Option Value}, xLI K B l h X → yT (psL B b Ln sc) ZP K B l 1312 RL false cL_law 8 (some .boolean) MC MS rc rs 1438 [some (.ref b), some (.ref X), some (.ref (X + 39)), some (.ref (X + 63)), some (.int (nI i)), x5, x6, x7] [] h) : yT (psL B b Ln sc) ZP K B l 1312 RL false cL_law 8 (some .boolean) MC MS (rc + 3) (rs + 21) 1258 [some (.ref b), some (.ref X), some (.ref (X + 39)), some (.ref (X + 63)), some (.int (nI i)), x5, x6, x7] [] h := by
  obtain ⟨tn, tf, rk, rv, σ, β, γ, pn, τ, ks, κ, φ, hn, hf, hg, wn, wf, wg, th, ov, W, A, ho⟩ := I
  refine yr_al1 dL_law_1258 ?_
  refine yr_Vpi0 (s_law W (ruF tf tn) (fun e => ru_ok e) ) kL_205 (Nat.le_of_ble_eq_true rfl) (Nat.le_of_ble_eq_true rfl) (rc' := rc + 3) (rs' := rs + 21) (Nat.zero_add _) (Nat.zero_add _) dL_law_1259 (fun zv1 g1 q1 => ?_)
  obtain ⟨rfl, γ', W1⟩ := q1
  have A1 := lw_am W1 A
  have ho1 := (W1.pf (X + 63) (by omega) (by omega)).trans ho
  refine yr_al2 dL_law_1262 ?_
  refine yr_Vpi0 (a_law A1 ) kL_208 (Nat.le_of_ble_eq_true rfl) (Nat.le_of_ble_eq_true rfl) (Nat.zero_add _) (Nat.zero_add _) dL_law_1263 (fun zv2 g2 q2 => ?_)
  obtain ⟨rfl, A2⟩ := q2
  refine yr_icmpeq (tgt := 1438) dL_law_1266 (by decide) (fun _ => ?_) (fun zc => absurd rfl zc)
  exact yT.budget (by omega) (by omega) (hc (lw_jn W1 A2 ho1))
set_option maxRecDepth 20000 in
theorem lc_years {K : xK} {B : Nat} {l : Launch} {X b Ln : Nat} {sc : xs} {MC MS rc rs : Nat} {ZP : List Frame → Array Value → State → State → Prop} {i : Nat} {h : xH} {x5 x6 x7 : Option Value} (hLn : Ln < 2 ^ 31) (hi : i + 5 ≤ Ln) (I : xLI K B l h X) (hc : ∀ {h : xH} {x5 x6 x7 : Option Value}, xLI K B l h X → yT (psL B b Ln sc) ZP K B l 1312 RL false cL_law 8 (some .boolean) MC MS rc rs 1438 [some (.ref b), some (.ref X), some (.ref (X + 39)), some (.ref (X + 63)), some (.int (nI i)), x5, x6, x7] [] h) : yT (psL B b Ln sc) ZP K B l 1312 RL false cL_law 8 (some .boolean) MC MS (rc + 3) (rs + 21) 1271 [some (.ref b), some (.ref X), some (.ref (X + 39)), some (.ref (X + 63)), some (.int (nI i)), x5, x6, x7] [] h := by
  obtain ⟨tn, tf, rk, rv, σ, β, γ, pn, τ, ks, κ, φ, hn, hf, hg, wn, wf, wg, th, ov, W, A, ho⟩ := I
  refine yr_al1 dL_law_1271 ?_
  refine yr_al0 dL_law_1272 ?_
  refine yr_il4 dL_law_1273 ?_
  refine yr_ic1 dL_law_1275 ?_
  refine yr_iadd dL_law_1276 ?_
  refine yr_eqi (y := nI (i + 1)) (nI_add i 1) ?_
  refine yr_sald (xix_nI (n := Ln) (j := i + 1) (by omega) hLn) dL_law_1277 ?_
  refine yr_al0 dL_law_1278 ?_
  refine yr_il4 dL_law_1279 ?_
  refine yr_ic2 dL_law_1281 ?_
  refine yr_iadd dL_law_1282 ?_
  refine yr_eqi (y := nI (i + 2)) (nI_add i 2) ?_
  refine yr_sald (xix_nI (n := Ln) (j := i + 2) (by omega) hLn) dL_law_1283 ?_
  refine yr_Vpi2 (s_years W (sc (i + 1)) (sc (i + 2))) kL_209 (Nat.le_of_ble_eq_true rfl) (Nat.le_of_ble_eq_true rfl) (rc' := rc + 3) (rs' := rs + 21) (Nat.zero_add _) (Nat.zero_add _) dL_law_1284 (fun zv1 g1 q1 => ?_)
  obtain ⟨rfl, γ', W1⟩ := q1
  have A1 := lw_am W1 A
  have ho1 := (W1.pf (X + 63) (by omega) (by omega)).trans ho
  refine yr_al2 dL_law_1287 ?_
  refine yr_al0 dL_law_1288 ?_
  refine yr_il4 dL_law_1289 ?_
  refine yr_ic1 dL_law_1291 ?_
  refine yr_iadd dL_law_1292 ?_
  refine yr_eqi (y := nI (i + 1)) (nI_add i 1) ?_
  refine yr_sald (xix_nI (n := Ln) (j := i + 1) (by omega) hLn) dL_law_1293 ?_
  refine yr_al0 dL_law_1294 ?_
  refine yr_il4 dL_law_1295 ?_
  refine yr_ic2 dL_law_1297 ?_
  refine yr_iadd dL_law_1298 ?_
  refine yr_eqi (y := nI (i + 2)) (nI_add i 2) ?_
  refine yr_sald (xix_nI (n := Ln) (j := i + 2) (by omega) hLn) dL_law_1299 ?_
  refine yr_Vpi2 (a_years A1 (sc (i + 1)) (sc (i + 2))) kL_212 (Nat.le_of_ble_eq_true rfl) (Nat.le_of_ble_eq_true rfl) (Nat.zero_add _) (Nat.zero_add _) dL_law_1300 (fun zv2 g2 q2 => ?_)
  obtain ⟨rfl, A2⟩ := q2
  refine yr_icmpeq (tgt := 1438) dL_law_1303 (by decide) (fun _ => ?_) (fun zc => absurd rfl zc)
  exact yT.budget (by omega) (by omega) (hc (lw_jn W1 A2 ho1))
set_option maxRecDepth 20000 in
theorem lc_keep {K : xK} {B : Nat} {l : Launch} {X b Ln : Nat} {sc : xs} {MC MS rc rs : Nat} {ZP : List Frame → Array Value → State → State → Prop} {i : Nat} {h : xH} {x5 x6 x7 : Option Value} (hLn : Ln < 2 ^ 31) (hi : i + 5 ≤ Ln) (I : xLI K B l h X) (hc : ∀ {h : xH} {x5 x6 x7 : Option Value}, xLI K B l h X → yT (psL B b Ln sc) ZP K B l 1312 RL false cL_law 8 (some .boolean) MC MS rc rs 1438 [some (.ref b), some (.ref X), some (.ref (X + 39)), some (.ref (X + 63)), some (.int (nI i)), x5, x6, x7] [] h) : yT (psL B b Ln sc) ZP K B l 1312 RL false cL_law 8 (some .boolean) MC MS (rc + 3) (rs + 21) 1308 [some (.ref b), some (.ref X), some (.ref (X + 39)), some (.ref (X + 63)), some (.int (nI i)), x5, x6, x7] [] h := by
  obtain ⟨tn, tf, rk, rv, σ, β, γ, pn, τ, ks, κ, φ, hn, hf, hg, wn, wf, wg, th, ov, W, A, ho⟩ := I
  refine yr_al1 dL_law_1308 ?_
  refine yr_al0 dL_law_1309 ?_
  refine yr_il4 dL_law_1310 ?_
  refine yr_ic1 dL_law_1312 ?_
  refine yr_iadd dL_law_1313 ?_
  refine yr_eqi (y := nI (i + 1)) (nI_add i 1) ?_
  refine yr_sald (xix_nI (n := Ln) (j := i + 1) (by omega) hLn) dL_law_1314 ?_
  refine yr_Vpi1 (s_keep W (sc (i + 1))) kL_213 (Nat.le_of_ble_eq_true rfl) (Nat.le_of_ble_eq_true rfl) (rc' := rc) (rs' := rs) (Nat.add_comm _ _) (Nat.add_comm _ _) dL_law_1315 (fun zv1 g1 q1 => ?_)
  obtain ⟨rfl, W1⟩ := q1
  have A1 := lw_am W1 A
  have ho1 := (W1.pf (X + 63) (by omega) (by omega)).trans ho
  refine yr_al2 dL_law_1318 ?_
  refine yr_al0 dL_law_1319 ?_
  refine yr_il4 dL_law_1320 ?_
  refine yr_ic1 dL_law_1322 ?_
  refine yr_iadd dL_law_1323 ?_
  refine yr_eqi (y := nI (i + 1)) (nI_add i 1) ?_
  refine yr_sald (xix_nI (n := Ln) (j := i + 1) (by omega) hLn) dL_law_1324 ?_
  refine yr_Vpi1 (a_keep A1 (sc (i + 1))) kL_216 (Nat.le_of_ble_eq_true rfl) (Nat.le_of_ble_eq_true rfl) (Nat.zero_add _) (Nat.zero_add _) dL_law_1325 (fun zv2 g2 q2 => ?_)
  obtain ⟨rfl, A2⟩ := q2
  refine yr_icmpeq (tgt := 1438) dL_law_1328 (by decide) (fun _ => ?_) (fun zc => absurd rfl zc)
  exact yT.budget (by omega) (by omega) (hc (lw_jn W1 A2 ho1))
set_option maxRecDepth 20000 in
theorem lc_again {K : xK} {B : Nat} {l : Launch} {X b Ln : Nat} {sc : xs} {MC MS rc rs : Nat} {ZP : List Frame → Array Value → State → State → Prop} {i : Nat} {h : xH} {x5 x6 x7 : Option Value} (hLn : Ln < 2 ^ 31) (hi : i + 5 ≤ Ln) (I : xLI K B l h X) (hc : ∀ {h : xH} {x5 x6 x7 : Option Value}, xLI K B l h X → yT (psL B b Ln sc) ZP K B l 1312 RL false cL_law 8 (some .boolean) MC MS rc rs 1438 [some (.ref b), some (.ref X), some (.ref (X + 39)), some (.ref (X + 63)), some (.int (nI i)), x5, x6, x7] [] h) : yT (psL B b Ln sc) ZP K B l 1312 RL false cL_law 8 (some .boolean) MC MS (rc + 3) (rs + 21) 1333 [some (.ref b), some (.ref X), some (.ref (X + 39)), some (.ref (X + 63)), some (.int (nI i)), x5, x6, x7] [] h := by
  obtain ⟨tn, tf, rk, rv, σ, β, γ, pn, τ, ks, κ, φ, hn, hf, hg, wn, wf, wg, th, ov, W, A, ho⟩ := I
  refine yr_al1 dL_law_1333 ?_
  refine yr_al0 dL_law_1334 ?_
  refine yr_il4 dL_law_1335 ?_
  refine yr_ic1 dL_law_1337 ?_
  refine yr_iadd dL_law_1338 ?_
  refine yr_eqi (y := nI (i + 1)) (nI_add i 1) ?_
  refine yr_sald (xix_nI (n := Ln) (j := i + 1) (by omega) hLn) dL_law_1339 ?_
  refine yr_Vpi1 (s_again W (sc (i + 1))) kL_217 (Nat.le_of_ble_eq_true rfl) (Nat.le_of_ble_eq_true rfl) (rc' := rc + 3) (rs' := rs + 21) (Nat.zero_add _) (Nat.zero_add _) dL_law_1340 (fun zv1 g1 q1 => ?_)
  obtain ⟨rfl, W1⟩ := q1
  have A1 := lw_am W1 A
  have ho1 := (W1.pf (X + 63) (by omega) (by omega)).trans ho
  refine yr_al2 dL_law_1343 ?_
  refine yr_al0 dL_law_1344 ?_
  refine yr_il4 dL_law_1345 ?_
  refine yr_ic1 dL_law_1347 ?_
  refine yr_iadd dL_law_1348 ?_
  refine yr_eqi (y := nI (i + 1)) (nI_add i 1) ?_
  refine yr_sald (xix_nI (n := Ln) (j := i + 1) (by omega) hLn) dL_law_1349 ?_
  refine yr_Vpi1 (a_again A1 (sc (i + 1))) kL_220 (Nat.le_of_ble_eq_true rfl) (Nat.le_of_ble_eq_true rfl) (Nat.zero_add _) (Nat.zero_add _) dL_law_1350 (fun zv2 g2 q2 => ?_)
  obtain ⟨rfl, A2⟩ := q2
  refine yr_icmpeq (tgt := 1438) dL_law_1353 (by decide) (fun _ => ?_) (fun zc => absurd rfl zc)
  exact yT.budget (by omega) (by omega) (hc (lw_jn W1 A2 ho1))
set_option maxRecDepth 20000 in
theorem lc_count {K : xK} {B : Nat} {l : Launch} {X b Ln : Nat} {sc : xs} {MC MS rc rs : Nat} {ZP : List Frame → Array Value → State → State → Prop} {i : Nat} {h : xH} {x5 x6 x7 : Option Value} (hLn : Ln < 2 ^ 31) (hi : i + 5 ≤ Ln) (I : xLI K B l h X) (hc : ∀ {h : xH} {x5 x6 x7 : Option Value}, xLI K B l h X → yT (psL B b Ln sc) ZP K B l 1312 RL false cL_law 8 (some .boolean) MC MS rc rs 1438 [some (.ref b), some (.ref X), some (.ref (X + 39)), some (.ref (X + 63)), some (.int (nI i)), x5, x6, x7] [] h) : yT (psL B b Ln sc) ZP K B l 1312 RL false cL_law 8 (some .boolean) MC MS (rc + 3) (rs + 21) 1358 [some (.ref b), some (.ref X), some (.ref (X + 39)), some (.ref (X + 63)), some (.int (nI i)), x5, x6, x7] [] h := by
  obtain ⟨tn, tf, rk, rv, σ, β, γ, pn, τ, ks, κ, φ, hn, hf, hg, wn, wf, wg, th, ov, W, A, ho⟩ := I
  refine yr_al1 dL_law_1358 ?_
  refine yr_al0 dL_law_1359 ?_
  refine yr_il4 dL_law_1360 ?_
  refine yr_ic1 dL_law_1362 ?_
  refine yr_iadd dL_law_1363 ?_
  refine yr_eqi (y := nI (i + 1)) (nI_add i 1) ?_
  refine yr_sald (xix_nI (n := Ln) (j := i + 1) (by omega) hLn) dL_law_1364 ?_
  refine yr_Vpi1 (s_count W (sc (i + 1))) kL_221 (Nat.le_of_ble_eq_true rfl) (Nat.le_of_ble_eq_true rfl) (rc' := rc + 3) (rs' := rs + 21) (Nat.zero_add _) (Nat.zero_add _) dL_law_1365 (fun zv1 g1 q1 => ?_)
  obtain ⟨rfl, W1⟩ := q1
  have A1 := lw_am W1 A
  have ho1 := (W1.pf (X + 63) (by omega) (by omega)).trans ho
  refine yr_al2 dL_law_1368 ?_
  refine yr_al0 dL_law_1369 ?_
  refine yr_il4 dL_law_1370 ?_
  refine yr_ic1 dL_law_1372 ?_
  refine yr_iadd dL_law_1373 ?_
  refine yr_eqi (y := nI (i + 1)) (nI_add i 1) ?_
  refine yr_sald (xix_nI (n := Ln) (j := i + 1) (by omega) hLn) dL_law_1374 ?_
  refine yr_Vpi1 (a_count A1 (sc (i + 1))) kL_224 (Nat.le_of_ble_eq_true rfl) (Nat.le_of_ble_eq_true rfl) (Nat.zero_add _) (Nat.zero_add _) dL_law_1375 (fun zv2 g2 q2 => ?_)
  obtain ⟨rfl, A2⟩ := q2
  refine yr_icmpeq (tgt := 1438) dL_law_1378 (by decide) (fun _ => ?_) (fun zc => absurd rfl zc)
  exact yT.budget (by omega) (by omega) (hc (lw_jn W1 A2 ho1))
