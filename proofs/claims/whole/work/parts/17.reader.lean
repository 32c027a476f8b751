set_option maxRecDepth 20000 in
theorem s_isDigit {K : xK} {B : Nat} {l : Launch} {h : xH} (c : Int32) : xU K B l 0 mX11_isDigit 0 0 [.int c] h (xQi (bI (¬ c < 48 ∧ ¬ 57 < c)) h) := by
  refine ⟨qX11_isDigit, ?_⟩
  refine xS.intro RX11 false ⟨rfl, rfl, by decide, by decide, Nat.le_of_ble_eq_true rfl⟩ (ls := [some (.int c)]) rfl ?_
  refine xr_il0 dX11_isDigit_0 ?_
  refine xr_bipush (v := 48) dX11_isDigit_1 (by decide) ?_
  refine xr_icmplt (tgt := 16) dX11_isDigit_3 (by decide) (fun zc3 => ?_) (fun zc3 => ?_)
  · skip
    refine xr_ic0 dX11_isDigit_16 ?_
    refine xr_zret dX11_isDigit_17 rfl (by first | rfl | decide | assumption) ?_
    exact ⟨by rw [bI_f (fun q => q.1 zc3)], rfl⟩
  · skip
    refine xr_il0 dX11_isDigit_6 ?_
    refine xr_bipush (v := 57) dX11_isDigit_7 (by decide) ?_
    refine xr_icmpgt (tgt := 16) dX11_isDigit_9 (by decide) (fun zc9 => ?_) (fun zc9 => ?_)
    · skip
      refine xr_ic0 dX11_isDigit_16 ?_
      refine xr_zret dX11_isDigit_17 rfl (by first | rfl | decide | assumption) ?_
      exact ⟨by rw [bI_f (fun q => q.2 zc9)], rfl⟩
    · skip
      refine xr_ic1 dX11_isDigit_12 ?_
      refine xr_goto (tgt := 17) dX11_isDigit_13 (by decide) ?_
      refine xr_zret dX11_isDigit_17 rfl (by first | rfl | decide | assumption) ?_
      exact ⟨by rw [bI_t ⟨zc3, zc9⟩], rfl⟩
abbrev dg (c : Int32) : Prop := ¬ c < 48 ∧ ¬ 57 < c
def tg (c : Int32) : Int32 := if c = -62 then 1 else if c = -61 then 1 else if c = -60 then 1 else if c = -47 then 3 else if c = -45 then 2 else if c = -43 then 2 else if c = -42 then 3 else if c = -1 then 4 else 0
set_option maxRecDepth 20000 in
theorem s_tightness {K : xK} {B : Nat} {l : Launch} {h : xH} (c : Int32) : xU K B l 0 mX8_tightness 0 0 [.int c] h (xQi (tg c) h) := by
  refine ⟨qX8_tightness, ?_⟩
  refine xS.intro RX8 false ⟨rfl, rfl, by decide, by decide, Nat.le_of_ble_eq_true rfl⟩ (ls := [some (.int c)]) rfl ?_
  refine xr_il0 dX8_tightness_0 ?_
  by_cases e62 : c = -62
  · skip
    subst e62
    refine xr_lookup (tgt := 82) dX8_tightness_1 (by decide) rfl (by decide) ?_
    refine xr_ic1 dX8_tightness_82 ?_
    refine xr_iret dX8_tightness_83 rfl ?_
    exact ⟨rfl, rfl⟩
  by_cases e61 : c = -61
  · skip
    subst e61
    refine xr_lookup (tgt := 82) dX8_tightness_1 (by decide) rfl (by decide) ?_
    refine xr_ic1 dX8_tightness_82 ?_
    refine xr_iret dX8_tightness_83 rfl ?_
    exact ⟨rfl, rfl⟩
  by_cases e60 : c = -60
  · skip
    subst e60
    refine xr_lookup (tgt := 82) dX8_tightness_1 (by decide) rfl (by decide) ?_
    refine xr_ic1 dX8_tightness_82 ?_
    refine xr_iret dX8_tightness_83 rfl ?_
    exact ⟨rfl, rfl⟩
  by_cases e47 : c = -47
  · skip
    subst e47
    refine xr_lookup (tgt := 78) dX8_tightness_1 (by decide) rfl (by decide) ?_
    refine xr_ic3 dX8_tightness_78 ?_
    refine xr_iret dX8_tightness_79 rfl ?_
    exact ⟨rfl, rfl⟩
  by_cases e45 : c = -45
  · skip
    subst e45
    refine xr_lookup (tgt := 80) dX8_tightness_1 (by decide) rfl (by decide) ?_
    refine xr_ic2 dX8_tightness_80 ?_
    refine xr_iret dX8_tightness_81 rfl ?_
    exact ⟨rfl, rfl⟩
  by_cases e43 : c = -43
  · skip
    subst e43
    refine xr_lookup (tgt := 80) dX8_tightness_1 (by decide) rfl (by decide) ?_
    refine xr_ic2 dX8_tightness_80 ?_
    refine xr_iret dX8_tightness_81 rfl ?_
    exact ⟨rfl, rfl⟩
  by_cases e42 : c = -42
  · skip
    subst e42
    refine xr_lookup (tgt := 78) dX8_tightness_1 (by decide) rfl (by decide) ?_
    refine xr_ic3 dX8_tightness_78 ?_
    refine xr_iret dX8_tightness_79 rfl ?_
    exact ⟨rfl, rfl⟩
  by_cases e1 : c = -1
  · skip
    subst e1
    refine xr_lookup (tgt := 76) dX8_tightness_1 (by decide) rfl (by decide) ?_
    refine xr_ic4 dX8_tightness_76 ?_
    refine xr_iret dX8_tightness_77 rfl ?_
    exact ⟨rfl, rfl⟩
  refine xr_lookup (off := 83) (tgt := 84) dX8_tightness_1 (by decide) ((lv_osw e62 rfl).trans ((lv_osw e61 rfl).trans ((lv_osw e60 rfl).trans ((lv_osw e47 rfl).trans ((lv_osw e45 rfl).trans ((lv_osw e43 rfl).trans ((lv_osw e42 rfl).trans ((lv_osw e1 rfl).trans rfl)))))))) (by decide) ?_
  refine xr_ic0 dX8_tightness_84 ?_
  refine xr_iret dX8_tightness_85 rfl ?_
  exact ⟨by unfold tg; rw [if_neg e62, if_neg e61, if_neg e60, if_neg e47, if_neg e45, if_neg e43, if_neg e42, if_neg e1], rfl⟩
def stk (s : Nat → Int32) : List Int32 → Prop
  | [] => True
  | x :: L => s L.length = x ∧ stk s L
theorem stk_up {s : Nat → Int32} {L : List Int32} (h : stk s L) {i : Nat} (hi : L.length ≤ i) (x : Int32) : stk (upd s i x) L := by
  induction L with
  | nil => trivial
  | cons y L ih =>
    rw [List.length_cons] at hi
    exact ⟨by rw [upd_hi _ _ (by omega)]; exact h.1, ih h.2 (by omega)⟩
theorem stk_push {s : Nat → Int32} {L : List Int32} (h : stk s L) (x : Int32) : stk (upd s L.length x) (x :: L) := ⟨pk_us, stk_up h (Nat.le_refl _) x⟩
/-- the reader at X + 23, its text at X + 1, its rule at X + 20; the heap is h0 but for the reader's and the rule's cells -/
def xRd (K : xK) (h0 h : xH) (X : Nat) (x : Nat → Int32) (tn : Nat) (sh ou : List Int32) (p d : Nat) (c u : Int32) : Prop :=
  X2 h (X + 1) (slO (X + 1) (nI tn)) (iA K 80 x) ∧ (∃ s, X2 h (X + 23) (rrO (X + 23) (X + 1) (X + 20) (nI sh.length) (nI p) (nI d) c u) (iA K 40 s) ∧ stk s sh) ∧ (∃ f g, X3 h (X + 20) (ruO (X + 20) (nI ou.length)) (iA K 40 f) (iA K 40 g) ∧ stk f ou) ∧ h.1 = h0.1 ∧ ∀ b, b < X + 20 ∨ X + 25 ≤ b → h.2 b = h0.2 b
theorem xRd.rr {K : xK} {h0 h : xH} {X : Nat} {x : Nat → Int32} {tn : Nat} {sh ou sh' : List Int32} {p d p' d' : Nat} {c u c' u' : Int32} {s' : Nat → Int32} {o : va_E} {g : xH} (R : xRd K h0 h X x tn sh ou p d c u) (hg : g = P2 h (X + 23) o (iA K 40 s')) (ho : o = rrO (X + 23) (X + 1) (X + 20) (nI sh'.length) (nI p') (nI d') c' u') (hs : stk s' sh') : xRd K h0 g X x tn sh' ou p' d' c' u' := by
  obtain ⟨r1, -, ⟨f, g2, r3, r4⟩, r5, r6⟩ := R
  subst hg; subst ho
  refine ⟨⟨(P2_ne _ _ _ (by omega) (by omega)).trans r1.1, (P2_ne _ _ _ (by omega) (by omega)).trans r1.2⟩, ⟨s', P2_at _ _ _ _, hs⟩, ⟨f, g2, ⟨(P2_ne _ _ _ (by omega) (by omega)).trans r3.1, (P2_ne _ _ _ (by omega) (by omega)).trans r3.2.1, (P2_ne _ _ _ (by omega) (by omega)).trans r3.2.2⟩, r4⟩, r5, fun b hb => (P2_ne _ _ _ (by omega) (by omega)).trans (r6 b hb)⟩
theorem xRd.ru {K : xK} {h0 h : xH} {X : Nat} {x : Nat → Int32} {tn : Nat} {sh ou ou' : List Int32} {p d : Nat} {c u : Int32} {f' g' : Nat → Int32} {g : xH} (R : xRd K h0 h X x tn sh ou p d c u) (hg : g = P3 h (X + 20) (ruO (X + 20) (nI ou'.length)) (iA K 40 f') (iA K 40 g')) (hs : stk f' ou') : xRd K h0 g X x tn sh ou' p d c u := by
  obtain ⟨r1, ⟨s, r2, r2'⟩, -, r5, r6⟩ := R
  subst hg
  refine ⟨⟨(P3_ne _ _ _ _ (by omega) (by omega) (by omega)).trans r1.1, (P3_ne _ _ _ _ (by omega) (by omega) (by omega)).trans r1.2⟩, ⟨s, ⟨(P3_ne _ _ _ _ (by omega) (by omega) (by omega)).trans r2.1, (P3_ne _ _ _ _ (by omega) (by omega) (by omega)).trans r2.2⟩, r2'⟩, ⟨f', g', P3_at _ _ _ _ _, hs⟩, r5, fun b hb => (P3_ne _ _ _ _ (by omega) (by omega) (by omega)).trans (r6 b hb)⟩
theorem P2_xup_o (h : xH) (a : Nat) (o e o' : va_E) : xup (P2 h a o e) a o' = P2 h a o' e := by
  rw [P2_o (P2_at h a o e), P2_P2]
set_option maxRecDepth 20000 in
theorem s_putBy {K : xK} {B : Nat} {l : Launch} {h0 h : xH} {X : Nat} {x : Nat → Int32} {tn : Nat} {sh ou : List Int32} {p d : Nat} {c u : Int32} (R : xRd K h0 h X x tn sh ou p d c u) (hn : sh.length < 40) (y : Int32) : xV K B l 0 mX8_putBy 0 0 (X + 23) [.int y] h (xPv (fun g => xRd K h0 g X x tn (y :: sh) ou p d c u)) := by
  obtain ⟨⟨t0, t1⟩, ⟨s, RH, hs⟩, ⟨f, g, RU, hf⟩, hz, hfr⟩ := id R
  obtain ⟨o0, o1⟩ := id RH
  obtain ⟨r0, r1, r2⟩ := id RU
  refine ⟨⟨_, _, _, _, R.2.1.choose_spec.1.1, rfl⟩, qX8_putBy, ?_⟩
  refine xS.intro RX8 false ⟨rfl, rfl, by decide, by decide, Nat.le_of_ble_eq_true rfl⟩ (ls := [some (.ref (X + 23)), some (.int y)]) rfl ?_
  refine xr_al0 dX8_putBy_0 ?_
  refine xr_get o0 fX8_34 rfl dX8_putBy_1 ?_
  refine xr_bipush (v := 40) dX8_putBy_4 (by decide) ?_
  refine xr_icmpge (tgt := 29) dX8_putBy_6 (by decide) (fun zc6 => ?_) (fun zc6 => ?_)
  · skip
    exact absurd zc6 (nI_ge (b := 40) hn (by decide))
  · skip
    refine xr_al0 dX8_putBy_9 ?_
    refine xr_get o0 fX8_11 rfl dX8_putBy_10 ?_
    refine xr_al0 dX8_putBy_13 ?_
    refine xr_get o0 fX8_34 rfl dX8_putBy_14 ?_
    refine xr_il1 dX8_putBy_17 ?_
    refine xr_iast o1 (xix_nI hn (by decide)) dX8_putBy_18 ?_
    refine xT.nm (fun zh1 zg1 => ?_)
    have o0 := xg_ne zg1 (by omega) o0
    have o1 := xg_eq zg1
    have t0 := xg_ne zg1 (by omega) t0
    have t1 := xg_ne zg1 (by omega) t1
    have r0 := xg_ne zg1 (by omega) r0
    refine xr_al0 dX8_putBy_19 ?_
    refine xr_dup dX8_putBy_20 rfl ?_
    refine xr_get o0 fX8_34 rfl dX8_putBy_21 ?_
    refine xr_ic1 dX8_putBy_24 ?_
    refine xr_iadd dX8_putBy_25 ?_
    refine xr_eqi (nI_1 _) ?_
    refine xr_put o0 fX8_34 (Nat.le_of_ble_eq_true rfl) rfl rfl dX8_putBy_26 ?_
    refine xT.nm (fun zh2 zg2 => ?_)
    have o0 := xg_eq zg2
    have o1 := xg_ne zg2 (by omega) o1
    have t0 := xg_ne zg2 (by omega) t0
    have t1 := xg_ne zg2 (by omega) t1
    have r0 := xg_ne zg2 (by omega) r0
    refine xr_vret dX8_putBy_29 rfl ?_
    exact ⟨rfl, R.rr (s' := upd s sh.length y) (by rw [zg2, zg1]; exact P2_eo _ _ _ _) rfl (stk_push hs y)⟩
set_option maxRecDepth 20000 in
theorem s_dropBracket {K : xK} {B : Nat} {l : Launch} {h0 h : xH} {X : Nat} {x : Nat → Int32} {tn : Nat} {sh ou : List Int32} {p d : Nat} {c u : Int32} (R : xRd K h0 h X x tn sh ou p d c u) (hd : 1 ≤ d) (hn : sh.length ≤ 40) : xV K B l 0 mX8_dropBracket 0 0 (X + 23) [] h (xPv (fun g => xRd K h0 g X x tn sh.tail ou p (d - 1) c u)) := by
  obtain ⟨⟨t0, t1⟩, ⟨s, RH, hs⟩, ⟨f, g, RU, hf⟩, hz, hfr⟩ := id R
  obtain ⟨o0, o1⟩ := id RH
  obtain ⟨r0, r1, r2⟩ := id RU
  refine ⟨⟨_, _, _, _, R.2.1.choose_spec.1.1, rfl⟩, qX8_dropBracket, ?_⟩
  refine xS.intro RX8 false ⟨rfl, rfl, by decide, by decide, Nat.le_of_ble_eq_true rfl⟩ (ls := [some (.ref (X + 23))]) rfl ?_
  refine xr_al0 dX8_dropBracket_0 ?_
  refine xr_dup dX8_dropBracket_1 rfl ?_
  refine xr_get o0 fX8_41 rfl dX8_dropBracket_2 ?_
  refine xr_ic1 dX8_dropBracket_5 ?_
  refine xr_isub dX8_dropBracket_6 ?_
  refine xr_eqi (nI_sub (b := 1) hd) ?_
  refine xr_put o0 fX8_41 (Nat.le_of_ble_eq_true rfl) rfl rfl dX8_dropBracket_7 ?_
  refine xT.nm (fun zh1 zg1 => ?_)
  have o0 := xg_eq zg1
  have o1 := xg_ne zg1 (by omega) o1
  have t0 := xg_ne zg1 (by omega) t0
  have t1 := xg_ne zg1 (by omega) t1
  have r0 := xg_ne zg1 (by omega) r0
  refine xr_al0 dX8_dropBracket_10 ?_
  refine xr_get o0 fX8_34 rfl dX8_dropBracket_11 ?_
  refine xr_ifle (tgt := 27) dX8_dropBracket_14 (by decide) (fun zc14 => ?_) (fun zc14 => ?_)
  · skip
    refine xr_vret dX8_dropBracket_27 rfl ?_
    have e0 : sh.length = 0 := by
      rcases Nat.lt_or_ge sh.length 1 with q | q
      · omega
      · exact absurd zc14 (nI_nle q (by omega))
    have e1 : sh = [] := List.length_eq_zero_iff.mp e0
    subst e1
    exact ⟨rfl, R.rr (s' := s) (by rw [zg1]; exact P2_o RH _) rfl trivial⟩
  · skip
    have hs1 : 1 ≤ sh.length := by
      rcases Nat.lt_or_ge sh.length 1 with q | q
      · exact absurd (by rw [show sh.length = 0 by omega]; decide) zc14
      · exact q
    refine xr_al0 dX8_dropBracket_17 ?_
    refine xr_dup dX8_dropBracket_18 rfl ?_
    refine xr_get o0 fX8_34 rfl dX8_dropBracket_19 ?_
    refine xr_ic1 dX8_dropBracket_22 ?_
    refine xr_isub dX8_dropBracket_23 ?_
    refine xr_eqi (nI_sub (b := 1) hs1) ?_
    refine xr_put o0 fX8_34 (Nat.le_of_ble_eq_true rfl) rfl rfl dX8_dropBracket_24 ?_
    refine xT.nm (fun zh2 zg2 => ?_)
    have o0 := xg_eq zg2
    have o1 := xg_ne zg2 (by omega) o1
    have t0 := xg_ne zg2 (by omega) t0
    have t1 := xg_ne zg2 (by omega) t1
    have r0 := xg_ne zg2 (by omega) r0
    refine xr_vret dX8_dropBracket_27 rfl ?_
    refine ⟨rfl, R.rr (s' := s) (sh' := sh.tail) (by rw [zg2, zg1, xup_xup]; exact P2_o RH _) (by rw [List.length_tail]; rfl) ?_⟩
    cases sh with
    | nil => trivial
    | cons y L => exact hs.2
def bbk (lo : Int32) : List Int32 → List Int32 → List Int32 × List Int32
  | [], ou => ([], ou)
  | y :: sh, ou => if tg y < lo then (y :: sh, ou) else bbk lo sh (y :: ou)
set_option maxRecDepth 20000 in
theorem lp_bringBack {K : xK} {B : Nat} {l : Launch} {h0 : xH} {X : Nat} {x : Nat → Int32} {tn : Nat} {p d : Nat} {c u : Int32} (lo : Int32) (sh : List Int32) : ∀ {ou : List Int32} {h : xH} (R : xRd K h0 h X x tn sh ou p d c u) (i : Nat) (y3 : Option Value), i + sh.length ≤ 40 → sh.length + ou.length ≤ 40 → xT K B l 1 RX8 false cX8_bringBack 4 none 0 0 0 0 (xPv (fun g => xRd K h0 g X x tn (bbk lo sh ou).1 (bbk lo sh ou).2 p d c u)) 2 [some (.ref (X + 23)), some (.int lo), some (.int (nI i)), y3] [] h := by
  induction sh with
  | nil =>
    intro ou h R i y3 h1 h2
    obtain ⟨⟨t0, t1⟩, ⟨s, RH, hs⟩, ⟨f, g, RU, hf⟩, hz, hfr⟩ := id R
    obtain ⟨o0, o1⟩ := id RH
    obtain ⟨r0, r1, r2⟩ := id RU
    refine xr_il2 dX8_bringBack_2 ?_
    refine xr_bipush (v := 40) dX8_bringBack_3 (by decide) ?_
    refine xr_icmpge (tgt := 60) dX8_bringBack_5 (by decide) (fun zc5 => ?_) (fun zc5 => ?_)
    · skip
      refine xr_vret dX8_bringBack_60 rfl ?_
      exact ⟨rfl, R⟩
    · skip
      refine xr_al0 dX8_bringBack_8 ?_
      refine xr_get o0 fX8_34 rfl dX8_bringBack_9 ?_
      refine xr_ifle (tgt := 60) dX8_bringBack_12 (by decide) (fun zc12 => ?_) (fun zc12 => ?_)
      · skip
        refine xr_vret dX8_bringBack_60 rfl ?_
        exact ⟨rfl, R⟩
      · skip
        exact absurd (by decide) zc12
  | cons y sh ih =>
    intro ou h R i y3 h1 h2
    rw [List.length_cons] at h1 h2
    obtain ⟨⟨t0, t1⟩, ⟨s, RH, hs⟩, ⟨f, g, RU, hf⟩, hz, hfr⟩ := id R
    obtain ⟨o0, o1⟩ := id RH
    obtain ⟨r0, r1, r2⟩ := id RU
    refine xr_il2 dX8_bringBack_2 ?_
    refine xr_bipush (v := 40) dX8_bringBack_3 (by decide) ?_
    refine xr_icmpge (tgt := 60) dX8_bringBack_5 (by decide) (fun zc5 => ?_) (fun zc5 => ?_)
    · skip
      exact absurd zc5 (nI_ge (b := 40) (by omega) (by decide))
    · skip
      refine xr_al0 dX8_bringBack_8 ?_
      refine xr_get o0 fX8_34 rfl dX8_bringBack_9 ?_
      refine xr_ifle (tgt := 60) dX8_bringBack_12 (by decide) (fun zc12 => ?_) (fun zc12 => ?_)
      · skip
        exact absurd zc12 (nI_nle (n := sh.length + 1) (by omega) (by omega))
      · skip
        refine xr_al0 dX8_bringBack_15 ?_
        refine xr_get o0 fX8_11 rfl dX8_bringBack_16 ?_
        refine xr_al0 dX8_bringBack_19 ?_
        refine xr_get o0 fX8_34 rfl dX8_bringBack_20 ?_
        refine xr_ic1 dX8_bringBack_23 ?_
        refine xr_isub dX8_bringBack_24 ?_
        refine xr_iald o1 (xix_sub (t := sh.length + 1) (d := 1) (by omega) (by omega) (by decide) (by decide)) dX8_bringBack_25 ?_
        refine xr_eqi (y := y) hs.1 ?_
        refine xr_is3 dX8_bringBack_26 (by decide) rfl ?_
        refine xr_il3 dX8_bringBack_27 ?_
        refine xr_Si1 (s_tightness _) kX8_87 (by decide) (Nat.le_of_ble_eq_true rfl) (Nat.zero_add _) (Nat.zero_add _) dX8_bringBack_28 ?_
        refine xr_il1 dX8_bringBack_31 ?_
        refine xr_icmpge (tgt := 36) dX8_bringBack_32 (by decide) (fun zc32 => ?_) (fun zc32 => ?_)
        · skip
          have ht : ¬ tg y < lo := Int32.not_lt.mpr zc32
          refine xr_al0 dX8_bringBack_36 ?_
          refine xr_get o0 fX8_21 rfl dX8_bringBack_37 ?_
          refine xr_il3 dX8_bringBack_40 ?_
          refine xr_Vv1 (s_ruAdd RU (by omega) y) kX8_81 (by decide) (Nat.le_of_ble_eq_true rfl) (Nat.zero_add _) (Nat.zero_add _) dX8_bringBack_41 ?_
          rw [if_pos (show ou.length < 40 by omega)]
          have R2 : xRd K h0 _ X x tn (y :: sh) (y :: ou) p d c u := R.ru (f' := upd f ou.length y) (g' := g) rfl (stk_push hf y)
          obtain ⟨⟨t0, t1⟩, ⟨s2, RH2, hs2⟩, ⟨f2, g2, RU2, hf2⟩, hz2, hfr2⟩ := id R2
          obtain ⟨o0, o1⟩ := id RH2
          obtain ⟨r0, r1, r2⟩ := id RU2
          refine xr_al0 dX8_bringBack_44 ?_
          refine xr_dup dX8_bringBack_45 rfl ?_
          refine xr_get o0 fX8_34 rfl dX8_bringBack_46 ?_
          refine xr_ic1 dX8_bringBack_49 ?_
          refine xr_isub dX8_bringBack_50 ?_
          refine xr_eqi (nI_sub (a := sh.length + 1) (b := 1) (by omega)) ?_
          refine xr_put o0 fX8_34 (Nat.le_of_ble_eq_true rfl) rfl rfl dX8_bringBack_51 ?_
          refine xT.nm (fun zh1 zg1 => ?_)
          have o0 := xg_eq zg1
          have o1 := xg_ne zg1 (by omega) o1
          have t0 := xg_ne zg1 (by omega) t0
          have t1 := xg_ne zg1 (by omega) t1
          have r0 := xg_ne zg1 (by omega) r0
          have R3 : xRd K h0 zh1 X x tn sh (y :: ou) p d c u := R2.rr (s' := s2) (by rw [zg1]; exact P2_o RH2 _) rfl hs2.2
          refine xr_inc2 dX8_bringBack_54 (nI_inc i) (by decide) rfl ?_
          refine xr_goto (tgt := 2) dX8_bringBack_57 (by decide) ?_
          have hi := ih R3 (i + 1) (some (.int y)) (by simp only [List.length_cons] at *; omega) (by simp only [List.length_cons] at *; omega)
          unfold bbk
          rw [if_neg ht]
          exact hi
        · skip
          have ht : tg y < lo := Int32.not_le.mp zc32
          refine xr_vret dX8_bringBack_35 rfl ?_
          refine ⟨rfl, ?_⟩
          unfold bbk
          rw [if_pos ht]
          exact R
set_option maxRecDepth 20000 in
theorem s_bringBack {K : xK} {B : Nat} {l : Launch} {h0 h : xH} {X : Nat} {x : Nat → Int32} {tn : Nat} {sh ou : List Int32} {p d : Nat} {c u : Int32} (R : xRd K h0 h X x tn sh ou p d c u) (lo : Int32) (hn : sh.length + ou.length ≤ 40) : xV K B l 1 mX8_bringBack 0 0 (X + 23) [.int lo] h (xPv (fun g => xRd K h0 g X x tn (bbk lo sh ou).1 (bbk lo sh ou).2 p d c u)) := by
  obtain ⟨⟨t0, t1⟩, ⟨s, RH, hs⟩, ⟨f, g, RU, hf⟩, hz, hfr⟩ := id R
  obtain ⟨o0, o1⟩ := id RH
  obtain ⟨r0, r1, r2⟩ := id RU
  refine ⟨⟨_, _, _, _, R.2.1.choose_spec.1.1, rfl⟩, qX8_bringBack, ?_⟩
  refine xS.intro RX8 false ⟨rfl, rfl, by decide, by decide, Nat.le_of_ble_eq_true rfl⟩ (ls := [some (.ref (X + 23)), some (.int lo), none, none]) rfl ?_
  refine xr_ic0 dX8_bringBack_0 ?_
  refine xr_is2 dX8_bringBack_1 (by decide) rfl ?_
  exact lp_bringBack lo sh R 0 none (by omega) hn
def nb (x : Nat → Int32) (tn : Nat) : Nat → Nat → Int32 → Nat × Int32
  | 0, p, v => (p, v)
  | r + 1, p, v => if p < 40 ∧ dg (slAt x (nI tn) (nI p)) then nb x tn r (p + 1) (10 * v + slAt x (nI tn) (nI p) - 48) else (p, v)
theorem nb_le (x : Nat → Int32) (tn r p : Nat) (v : Int32) (h : p ≤ 40) : (nb x tn r p v).1 ≤ 40 ∧ p ≤ (nb x tn r p v).1 := by
  induction r generalizing p v with
  | zero => exact ⟨h, Nat.le_refl _⟩
  | succ r ih =>
    unfold nb
    split
    · rename_i q
      have := ih (p + 1) (10 * v + slAt x (nI tn) (nI p) - 48) (by omega)
      omega
    · exact ⟨h, Nat.le_refl _⟩
set_option maxRecDepth 20000 in
theorem lp_takeNumber {K : xK} {B : Nat} {l : Launch} {h0 : xH} {X : Nat} {x : Nat → Int32} {tn : Nat} {sh ou : List Int32} {d : Nat} {c u : Int32} (ho : ou.length < 40) (r : Nat) : ∀ {p : Nat} {h : xH} (R : xRd K h0 h X x tn sh ou p d c u) (i : Nat) (v : Int32), i + r = 3 → p ≤ 40 → xT K B l 1 RX8 false cX8_takeNumber 3 none 0 0 0 0 (xPv (fun g => xRd K h0 g X x tn sh ((nb x tn r p v).2 :: ou) (nb x tn r p v).1 d c u)) 4 [some (.ref (X + 23)), some (.int v), some (.int (nI i))] [] h := by
  induction r with
  | zero =>
    intro p h R i v h1 h2
    obtain ⟨⟨t0, t1⟩, ⟨s, RH, hs⟩, ⟨f, g, RU, hf⟩, hz, hfr⟩ := id R
    obtain ⟨o0, o1⟩ := id RH
    obtain ⟨r0, r1, r2⟩ := id RU
    refine xr_il2 dX8_takeNumber_4 ?_
    refine xr_ic3 dX8_takeNumber_5 ?_
    refine xr_icmpge (tgt := 71) dX8_takeNumber_6 (by decide) (fun zc6 => ?_) (fun zc6 => ?_)
    · skip
      refine xr_al0 dX8_takeNumber_71 ?_
      refine xr_get o0 fX8_21 rfl dX8_takeNumber_72 ?_
      refine xr_il1 dX8_takeNumber_75 ?_
      refine xr_Vv1 (s_ruAdd RU (by omega) _) kX8_81 (by decide) (Nat.le_of_ble_eq_true rfl) (Nat.zero_add _) (Nat.zero_add _) dX8_takeNumber_76 ?_
      rw [if_pos (show ou.length < 40 by omega)]
      refine xr_vret dX8_takeNumber_79 rfl ?_
      exact ⟨rfl, R.ru (f' := upd f ou.length v) (g' := g) rfl (stk_push hf v)⟩
    · skip
      exact absurd (nI_le (a := 3) (by omega) (by omega)) zc6
  | succ r ih =>
    intro p h R i v h1 h2
    obtain ⟨⟨t0, t1⟩, ⟨s, RH, hs⟩, ⟨f, g, RU, hf⟩, hz, hfr⟩ := id R
    obtain ⟨o0, o1⟩ := id RH
    obtain ⟨r0, r1, r2⟩ := id RU
    refine xr_il2 dX8_takeNumber_4 ?_
    refine xr_ic3 dX8_takeNumber_5 ?_
    refine xr_icmpge (tgt := 71) dX8_takeNumber_6 (by decide) (fun zc6 => ?_) (fun zc6 => ?_)
    · skip
      exact absurd zc6 (nI_ge (b := 3) (by omega) (by decide))
    · skip
      refine xr_al0 dX8_takeNumber_9 ?_
      refine xr_get o0 fX8_38 rfl dX8_takeNumber_10 ?_
      refine xr_bipush (v := 40) dX8_takeNumber_13 (by decide) ?_
      refine xr_icmpge (tgt := 71) dX8_takeNumber_15 (by decide) (fun zc15 => ?_) (fun zc15 => ?_)
      · skip
        refine xr_al0 dX8_takeNumber_71 ?_
        refine xr_get o0 fX8_21 rfl dX8_takeNumber_72 ?_
        refine xr_il1 dX8_takeNumber_75 ?_
        refine xr_Vv1 (s_ruAdd RU (by omega) _) kX8_81 (by decide) (Nat.le_of_ble_eq_true rfl) (Nat.zero_add _) (Nat.zero_add _) dX8_takeNumber_76 ?_
        rw [if_pos (show ou.length < 40 by omega)]
        refine xr_vret dX8_takeNumber_79 rfl ?_
        have hq : ¬ (p < 40 ∧ dg (slAt x (nI tn) (nI p))) := fun q => absurd zc15 (nI_ge (b := 40) q.1 (by decide))
        unfold nb
        rw [if_neg hq]
        exact ⟨rfl, R.ru (f' := upd f ou.length v) (g' := g) rfl (stk_push hf v)⟩
      · skip
        refine xr_al0 dX8_takeNumber_18 ?_
        refine xr_get o0 fX8_17 rfl dX8_takeNumber_19 ?_
        refine xr_al0 dX8_takeNumber_22 ?_
        refine xr_get o0 fX8_38 rfl dX8_takeNumber_23 ?_
        refine xr_Vi1 (s_slAt ⟨t0, t1⟩ _) kX8_57 (by decide) (Nat.le_of_ble_eq_true rfl) (Nat.zero_add _) (Nat.zero_add _) dX8_takeNumber_26 ?_
        refine xr_Si1 (s_isDigit _) kX8_72 (by decide) (Nat.le_of_ble_eq_true rfl) (Nat.zero_add _) (Nat.zero_add _) dX8_takeNumber_29 ?_
        refine xr_ifeq (tgt := 71) dX8_takeNumber_32 (by decide) (fun zc32 => ?_) (fun zc32 => ?_)
        · skip
          refine xr_al0 dX8_takeNumber_71 ?_
          refine xr_get o0 fX8_21 rfl dX8_takeNumber_72 ?_
          refine xr_il1 dX8_takeNumber_75 ?_
          refine xr_Vv1 (s_ruAdd RU (by omega) _) kX8_81 (by decide) (Nat.le_of_ble_eq_true rfl) (Nat.zero_add _) (Nat.zero_add _) dX8_takeNumber_76 ?_
          rw [if_pos (show ou.length < 40 by omega)]
          refine xr_vret dX8_takeNumber_79 rfl ?_
          have hq : ¬ (p < 40 ∧ dg (slAt x (nI tn) (nI p))) := fun q => bI_0.mp zc32 q.2
          unfold nb
          rw [if_neg hq]
          exact ⟨rfl, R.ru (f' := upd f ou.length v) (g' := g) rfl (stk_push hf v)⟩
        · skip
          refine xr_bipush (v := 10) dX8_takeNumber_35 (by decide) ?_
          refine xr_il1 dX8_takeNumber_37 ?_
          refine xr_imul dX8_takeNumber_38 ?_
          refine xr_al0 dX8_takeNumber_39 ?_
          refine xr_get o0 fX8_17 rfl dX8_takeNumber_40 ?_
          refine xr_al0 dX8_takeNumber_43 ?_
          refine xr_get o0 fX8_38 rfl dX8_takeNumber_44 ?_
          refine xr_Vi1 (s_slAt ⟨t0, t1⟩ _) kX8_57 (by decide) (Nat.le_of_ble_eq_true rfl) (Nat.zero_add _) (Nat.zero_add _) dX8_takeNumber_47 ?_
          refine xr_iadd dX8_takeNumber_50 ?_
          refine xr_bipush (v := 48) dX8_takeNumber_51 (by decide) ?_
          refine xr_isub dX8_takeNumber_53 ?_
          refine xr_is1 dX8_takeNumber_54 (by decide) rfl ?_
          refine xr_al0 dX8_takeNumber_55 ?_
          refine xr_dup dX8_takeNumber_56 rfl ?_
          refine xr_get o0 fX8_38 rfl dX8_takeNumber_57 ?_
          refine xr_ic1 dX8_takeNumber_60 ?_
          refine xr_iadd dX8_takeNumber_61 ?_
          refine xr_eqi (nI_1 p) ?_
          refine xr_put o0 fX8_38 (Nat.le_of_ble_eq_true rfl) rfl rfl dX8_takeNumber_62 ?_
          refine xT.nm (fun zh1 zg1 => ?_)
          have o0 := xg_eq zg1
          have o1 := xg_ne zg1 (by omega) o1
          have t0 := xg_ne zg1 (by omega) t0
          have t1 := xg_ne zg1 (by omega) t1
          have r0 := xg_ne zg1 (by omega) r0
          refine xr_inc2 dX8_takeNumber_65 (nI_inc i) (by decide) rfl ?_
          refine xr_goto (tgt := 4) dX8_takeNumber_68 (by decide) ?_
          have hd2 : dg (slAt x (nI tn) (nI p)) := Decidable.not_not.mp (fun z => zc32 (bI_0.mpr z))
          have hp : p < 40 := by
            rcases Nat.lt_or_ge p 40 with q | q
            · exact q
            · exact absurd (nI_le (a := 40) q (by omega)) zc15
          have R2 : xRd K h0 zh1 X x tn sh ou (p + 1) d c u := R.rr (s' := s) (by rw [zg1]; exact P2_o RH _) rfl hs
          have hi := ih R2 (i + 1) (10 * v + slAt x (nI tn) (nI p) - 48) (by omega) (by omega)
          unfold nb
          rw [if_pos ⟨hp, hd2⟩]
          exact hi
set_option maxRecDepth 20000 in
theorem s_takeNumber {K : xK} {B : Nat} {l : Launch} {h0 h : xH} {X : Nat} {x : Nat → Int32} {tn : Nat} {sh ou : List Int32} {p d : Nat} {c u : Int32} (R : xRd K h0 h X x tn sh ou p d c u) (ho : ou.length < 40) (hp : p ≤ 40) : xV K B l 1 mX8_takeNumber 0 0 (X + 23) [] h (xPv (fun g => xRd K h0 g X x tn sh ((nb x tn 3 p 0).2 :: ou) (nb x tn 3 p 0).1 d c u)) := by
  obtain ⟨⟨t0, t1⟩, ⟨s, RH, hs⟩, ⟨f, g, RU, hf⟩, hz, hfr⟩ := id R
  obtain ⟨o0, o1⟩ := id RH
  obtain ⟨r0, r1, r2⟩ := id RU
  refine ⟨⟨_, _, _, _, R.2.1.choose_spec.1.1, rfl⟩, qX8_takeNumber, ?_⟩
  refine xS.intro RX8 false ⟨rfl, rfl, by decide, by decide, Nat.le_of_ble_eq_true rfl⟩ (ls := [some (.ref (X + 23)), none, none]) rfl ?_
  refine xr_ic0 dX8_takeNumber_0 ?_
  refine xr_is1 dX8_takeNumber_1 (by decide) rfl ?_
  refine xr_ic0 dX8_takeNumber_2 ?_
  refine xr_is2 dX8_takeNumber_3 (by decide) rfl ?_
  exact lp_takeNumber ho 3 R 0 0 rfl hp
/-- the reader's state: what is put by, what is read (the latest first), place, depth, compared depths, whether a thing is due -/
abbrev RS : Type := List Int32 × List Int32 × Nat × Nat × Int32 × Int32
def xRS (K : xK) (h0 h : xH) (X : Nat) (x : Nat → Int32) (tn : Nat) (S : RS) : Prop := xRd K h0 h X x tn S.1 S.2.1 S.2.2.1 S.2.2.2.1 S.2.2.2.2.1 S.2.2.2.2.2
def tkT (x : Nat → Int32) (tn : Nat) (y : Int32) (S : RS) : Option RS := match S with
  | (sh, ou, p, d, c, u) => if dg y then some (sh, (nb x tn 3 p 0).2 :: ou, (nb x tn 3 p 0).1, d, c, 0)
    else if ¬ nm y = 0 then some (sh, (0 - y) :: ou, p + 1, d, c, 0)
    else if y = 45 then some (-1 :: sh, ou, p + 1, d, c, u)
    else if y = 40 ∧ d < 4 then some (y :: sh, ou, p + 1, d + 1, c &&& ((1 : Int32) <<< (nI (d + 1) &&& 31) ^^^ (-1)), u)
    else none
def tkJ (y : Int32) (S : RS) : Option RS := match S with
  | (sh, ou, p, d, c, u) => if y = 41 ∧ 1 ≤ d then some ((bbk 1 sh ou).1.tail, (bbk 1 sh ou).2, p + 1, d - 1, c, u)
    else if ¬ jn y = 0 ∧ ¬ (tg (0 - y) = 1 ∧ (c >>> (nI d &&& 31) &&& 1) = 1) then some ((0 - y) :: (bbk (tg (0 - y)) sh ou).1, (bbk (tg (0 - y)) sh ou).2, p + 1, d, c ||| (if tg (0 - y) = 1 then (1 : Int32) <<< (nI d &&& 31) else 0), 1)
    else none
def xRo (K : xK) (h0 h : xH) (X : Nat) (x : Nat → Int32) (tn : Nat) (S0 : RS) (o : Option RS) (v : Int32) : Prop := match o with
  | some S => v = 1 ∧ xRS K h0 h X x tn S
  | none => v = 0 ∧ xRS K h0 h X x tn S0
theorem bbk_len (lo : Int32) (sh ou : List Int32) : (bbk lo sh ou).1.length + (bbk lo sh ou).2.length = sh.length + ou.length := by
  induction sh generalizing ou with
  | nil => rfl
  | cons y sh ih =>
    unfold bbk
    split
    · rfl
    · rw [ih, List.length_cons, List.length_cons]
      omega
set_option maxRecDepth 20000 in
theorem s_takeThing {K : xK} {B : Nat} {l : Launch} {h0 h : xH} {X : Nat} {x : Nat → Int32} {tn : Nat} {sh ou : List Int32} {p d : Nat} {c u : Int32} (R : xRd K h0 h X x tn sh ou p d c u) (hp : p < 40) (hl : sh.length + ou.length ≤ p) (hd : d ≤ 4) (y : Int32) : xV K B l 2 mX8_takeThing 0 0 (X + 23) [.int y] h (xPi (fun v g => xRo K h0 g X x tn (sh, ou, p, d, c, u) (tkT x tn y (sh, ou, p, d, c, u)) v)) := by
  obtain ⟨⟨t0, t1⟩, ⟨s, RH, hs⟩, ⟨f, g, RU, hf⟩, hz, hfr⟩ := id R
  obtain ⟨o0, o1⟩ := id RH
  obtain ⟨r0, r1, r2⟩ := id RU
  refine ⟨⟨_, _, _, _, R.2.1.choose_spec.1.1, rfl⟩, qX8_takeThing, ?_⟩
  refine xS.intro RX8 false ⟨rfl, rfl, by decide, by decide, Nat.le_of_ble_eq_true rfl⟩ (ls := [some (.ref (X + 23)), some (.int y)]) rfl ?_
  refine xr_il1 dX8_takeThing_0 ?_
  refine xr_Si1 (s_isDigit _) kX8_72 (by decide) (Nat.le_of_ble_eq_true rfl) (Nat.zero_add _) (Nat.zero_add _) dX8_takeThing_1 ?_
  refine xr_ifeq (tgt := 18) dX8_takeThing_4 (by decide) (fun zc4 => ?_) (fun zc4 => ?_)
  · skip
    refine xr_il1 dX8_takeThing_18 ?_
    refine xr_Si1 (s_names _) kX8_78 (by decide) (Nat.le_of_ble_eq_true rfl) (Nat.zero_add _) (Nat.zero_add _) dX8_takeThing_19 ?_
    refine xr_ifeq (tgt := 42) dX8_takeThing_22 (by decide) (fun zc22 => ?_) (fun zc22 => ?_)
    · skip
      refine xr_il1 dX8_takeThing_42 ?_
      refine xr_bipush (v := 45) dX8_takeThing_43 (by decide) ?_
      refine xr_icmpne (tgt := 56) dX8_takeThing_45 (by decide) (fun zc45 => ?_) (fun zc45 => ?_)
      · skip
        refine xr_il1 dX8_takeThing_56 ?_
        refine xr_bipush (v := 40) dX8_takeThing_57 (by decide) ?_
        refine xr_icmpne (tgt := 105) dX8_takeThing_59 (by decide) (fun zc59 => ?_) (fun zc59 => ?_)
        · skip
          refine xr_ic0 dX8_takeThing_105 ?_
          refine xr_zret dX8_takeThing_106 rfl (by rfl) ?_
          refine ⟨_, rfl, ?_⟩
          unfold tkT
          simp only [if_neg (bI_0.mp zc4), if_neg (not_not_intro zc22), if_neg zc45, if_neg (fun q : y = 40 ∧ d < 4 => zc59 q.1)]
          exact ⟨rfl, R⟩
        · skip
          refine xr_al0 dX8_takeThing_62 ?_
          refine xr_get o0 fX8_41 rfl dX8_takeThing_63 ?_
          refine xr_ic4 dX8_takeThing_66 ?_
          refine xr_icmpge (tgt := 105) dX8_takeThing_67 (by decide) (fun zc67 => ?_) (fun zc67 => ?_)
          · skip
            refine xr_ic0 dX8_takeThing_105 ?_
            refine xr_zret dX8_takeThing_106 rfl (by rfl) ?_
            refine ⟨_, rfl, ?_⟩
            unfold tkT
            simp only [if_neg (bI_0.mp zc4), if_neg (not_not_intro zc22), if_neg zc45, if_neg (fun q : y = 40 ∧ d < 4 => absurd zc67 (nI_ge (b := 4) q.2 (by decide)))]
            exact ⟨rfl, R⟩
          · skip
            have hd4 : d < 4 := by
              rcases Nat.lt_or_ge d 4 with q | q
              · exact q
              · exact absurd (nI_le (a := 4) q (by omega)) zc67
            refine xr_al0 dX8_takeThing_70 ?_
            refine xr_il1 dX8_takeThing_71 ?_
            refine xr_Vpv1 (s_putBy R (by omega) _) kX8_84 (by decide) (Nat.le_of_ble_eq_true rfl) (Nat.zero_add _) (Nat.zero_add _) dX8_takeThing_72 (fun zh1 zq1 => ?_)
            have R2 := zq1
            obtain ⟨⟨t0, t1⟩, ⟨s2, RH2, hs2⟩, ⟨f2, g2, RU2, hf2⟩, hz2, hfr2⟩ := id R2
            obtain ⟨o0, o1⟩ := id RH2
            obtain ⟨r0, r1, r2⟩ := id RU2
            refine xr_al0 dX8_takeThing_75 ?_
            refine xr_dup dX8_takeThing_76 rfl ?_
            refine xr_get o0 fX8_41 rfl dX8_takeThing_77 ?_
            refine xr_ic1 dX8_takeThing_80 ?_
            refine xr_iadd dX8_takeThing_81 ?_
            refine xr_eqi (nI_1 d) ?_
            refine xr_put o0 fX8_41 (Nat.le_of_ble_eq_true rfl) rfl rfl dX8_takeThing_82 ?_
            refine xT.nm (fun zh2 zg2 => ?_)
            have o0 := xg_eq zg2
            have o1 := xg_ne zg2 (by omega) o1
            have t0 := xg_ne zg2 (by omega) t0
            have t1 := xg_ne zg2 (by omega) t1
            have r0 := xg_ne zg2 (by omega) r0
            refine xr_al0 dX8_takeThing_85 ?_
            refine xr_dup dX8_takeThing_86 rfl ?_
            refine xr_get o0 fX8_44 rfl dX8_takeThing_87 ?_
            refine xr_ic1 dX8_takeThing_90 ?_
            refine xr_al0 dX8_takeThing_91 ?_
            refine xr_get o0 fX8_41 rfl dX8_takeThing_92 ?_
            refine xr_ishl dX8_takeThing_95 ?_
            refine xr_icm1 dX8_takeThing_96 ?_
            refine xr_ixor dX8_takeThing_97 ?_
            refine xr_iand dX8_takeThing_98 ?_
            refine xr_put o0 fX8_44 (Nat.le_of_ble_eq_true rfl) rfl rfl dX8_takeThing_99 ?_
            refine xT.nm (fun zh3 zg3 => ?_)
            have o0 := xg_eq zg3
            have o1 := xg_ne zg3 (by omega) o1
            have t0 := xg_ne zg3 (by omega) t0
            have t1 := xg_ne zg3 (by omega) t1
            have r0 := xg_ne zg3 (by omega) r0
            refine xr_goto (tgt := 107) dX8_takeThing_102 (by decide) ?_
            refine xr_al0 dX8_takeThing_107 ?_
            refine xr_dup dX8_takeThing_108 rfl ?_
            refine xr_get o0 fX8_38 rfl dX8_takeThing_109 ?_
            refine xr_ic1 dX8_takeThing_112 ?_
            refine xr_iadd dX8_takeThing_113 ?_
            refine xr_eqi (nI_1 p) ?_
            refine xr_put o0 fX8_38 (Nat.le_of_ble_eq_true rfl) rfl rfl dX8_takeThing_114 ?_
            refine xT.nm (fun zh4 zg4 => ?_)
            have o0 := xg_eq zg4
            have o1 := xg_ne zg4 (by omega) o1
            have t0 := xg_ne zg4 (by omega) t0
            have t1 := xg_ne zg4 (by omega) t1
            have r0 := xg_ne zg4 (by omega) r0
            refine xr_ic1 dX8_takeThing_117 ?_
            refine xr_zret dX8_takeThing_118 rfl (by rfl) ?_
            refine ⟨_, rfl, ?_⟩
            unfold tkT
            simp only [if_neg (bI_0.mp zc4), if_neg (not_not_intro zc22), if_neg zc45, if_pos (show y = 40 ∧ d < 4 from ⟨zc59, hd4⟩)]
            exact ⟨rfl, R2.rr (s' := s2) (by rw [zg4, zg3, zg2, xup_xup, xup_xup]; exact P2_o RH2 _) rfl hs2⟩
      · skip
        refine xr_al0 dX8_takeThing_48 ?_
        refine xr_icm1 dX8_takeThing_49 ?_
        refine xr_Vpv1 (s_putBy R (by omega) _) kX8_84 (by decide) (Nat.le_of_ble_eq_true rfl) (Nat.zero_add _) (Nat.zero_add _) dX8_takeThing_50 (fun zh1 zq1 => ?_)
        have R2 := zq1
        obtain ⟨⟨t0, t1⟩, ⟨s2, RH2, hs2⟩, ⟨f2, g2, RU2, hf2⟩, hz2, hfr2⟩ := id R2
        obtain ⟨o0, o1⟩ := id RH2
        obtain ⟨r0, r1, r2⟩ := id RU2
        refine xr_goto (tgt := 107) dX8_takeThing_53 (by decide) ?_
        refine xr_al0 dX8_takeThing_107 ?_
        refine xr_dup dX8_takeThing_108 rfl ?_
        refine xr_get o0 fX8_38 rfl dX8_takeThing_109 ?_
        refine xr_ic1 dX8_takeThing_112 ?_
        refine xr_iadd dX8_takeThing_113 ?_
        refine xr_eqi (nI_1 p) ?_
        refine xr_put o0 fX8_38 (Nat.le_of_ble_eq_true rfl) rfl rfl dX8_takeThing_114 ?_
        refine xT.nm (fun zh2 zg2 => ?_)
        have o0 := xg_eq zg2
        have o1 := xg_ne zg2 (by omega) o1
        have t0 := xg_ne zg2 (by omega) t0
        have t1 := xg_ne zg2 (by omega) t1
        have r0 := xg_ne zg2 (by omega) r0
        refine xr_ic1 dX8_takeThing_117 ?_
        refine xr_zret dX8_takeThing_118 rfl (by rfl) ?_
        refine ⟨_, rfl, ?_⟩
        unfold tkT
        simp only [if_neg (bI_0.mp zc4), if_neg (not_not_intro zc22), if_pos zc45]
        exact ⟨rfl, R2.rr (s' := s2) (by rw [zg2]; exact P2_o RH2 _) rfl hs2⟩
    · skip
      refine xr_al0 dX8_takeThing_25 ?_
      refine xr_get o0 fX8_21 rfl dX8_takeThing_26 ?_
      refine xr_il1 dX8_takeThing_29 ?_
      refine xr_ineg dX8_takeThing_30 ?_
      refine xr_Vv1 (s_ruAdd RU (by omega) _) kX8_81 (by decide) (Nat.le_of_ble_eq_true rfl) (Nat.zero_add _) (Nat.zero_add _) dX8_takeThing_31 ?_
      rw [if_pos (show ou.length < 40 by omega)]
      have R2 : xRd K h0 _ X x tn sh ((0 - y) :: ou) p d c u := R.ru (f' := upd f ou.length (0 - y)) (g' := g) rfl (stk_push hf _)
      obtain ⟨⟨t0, t1⟩, ⟨s2, RH2, hs2⟩, ⟨f2, g2, RU2, hf2⟩, hz2, hfr2⟩ := id R2
      obtain ⟨o0, o1⟩ := id RH2
      obtain ⟨r0, r1, r2⟩ := id RU2
      refine xr_al0 dX8_takeThing_34 ?_
      refine xr_ic0 dX8_takeThing_35 ?_
      refine xr_put o0 fX8_47 (Nat.le_of_ble_eq_true rfl) rfl rfl dX8_takeThing_36 ?_
      refine xT.nm (fun zh1 zg1 => ?_)
      have o0 := xg_eq zg1
      have o1 := xg_ne zg1 (by omega) o1
      have t0 := xg_ne zg1 (by omega) t0
      have t1 := xg_ne zg1 (by omega) t1
      have r0 := xg_ne zg1 (by omega) r0
      refine xr_goto (tgt := 107) dX8_takeThing_39 (by decide) ?_
      refine xr_al0 dX8_takeThing_107 ?_
      refine xr_dup dX8_takeThing_108 rfl ?_
      refine xr_get o0 fX8_38 rfl dX8_takeThing_109 ?_
      refine xr_ic1 dX8_takeThing_112 ?_
      refine xr_iadd dX8_takeThing_113 ?_
      refine xr_eqi (nI_1 p) ?_
      refine xr_put o0 fX8_38 (Nat.le_of_ble_eq_true rfl) rfl rfl dX8_takeThing_114 ?_
      refine xT.nm (fun zh2 zg2 => ?_)
      have o0 := xg_eq zg2
      have o1 := xg_ne zg2 (by omega) o1
      have t0 := xg_ne zg2 (by omega) t0
      have t1 := xg_ne zg2 (by omega) t1
      have r0 := xg_ne zg2 (by omega) r0
      refine xr_ic1 dX8_takeThing_117 ?_
      refine xr_zret dX8_takeThing_118 rfl (by rfl) ?_
      refine ⟨_, rfl, ?_⟩
      unfold tkT
      simp only [if_neg (bI_0.mp zc4), if_pos zc22]
      exact ⟨rfl, R2.rr (s' := s2) (by rw [zg2, zg1, xup_xup]; exact P2_o RH2 _) rfl hs2⟩
  · skip
    refine xr_al0 dX8_takeThing_7 ?_
    refine xr_Vpv0 (s_takeNumber R (by omega) (by omega)) kX8_75 (by decide) (Nat.le_of_ble_eq_true rfl) (Nat.zero_add _) (Nat.zero_add _) dX8_takeThing_8 (fun zh1 zq1 => ?_)
    have R2 := zq1
    obtain ⟨⟨t0, t1⟩, ⟨s2, RH2, hs2⟩, ⟨f2, g2, RU2, hf2⟩, hz2, hfr2⟩ := id R2
    obtain ⟨o0, o1⟩ := id RH2
    obtain ⟨r0, r1, r2⟩ := id RU2
    refine xr_al0 dX8_takeThing_11 ?_
    refine xr_ic0 dX8_takeThing_12 ?_
    refine xr_put o0 fX8_47 (Nat.le_of_ble_eq_true rfl) rfl rfl dX8_takeThing_13 ?_
    refine xT.nm (fun zh2 zg2 => ?_)
    have o0 := xg_eq zg2
    have o1 := xg_ne zg2 (by omega) o1
    have t0 := xg_ne zg2 (by omega) t0
    have t1 := xg_ne zg2 (by omega) t1
    have r0 := xg_ne zg2 (by omega) r0
    refine xr_ic1 dX8_takeThing_16 ?_
    refine xr_zret dX8_takeThing_17 rfl (by rfl) ?_
    refine ⟨_, rfl, ?_⟩
    unfold tkT
    simp only [if_pos (Decidable.not_not.mp (fun z => zc4 (bI_0.mpr z)))]
    exact ⟨rfl, R2.rr (s' := s2) (by rw [zg2]; exact P2_o RH2 _) rfl hs2⟩
set_option maxRecDepth 20000 in
theorem s_takeJoin {K : xK} {B : Nat} {l : Launch} {h0 h : xH} {X : Nat} {x : Nat → Int32} {tn : Nat} {sh ou : List Int32} {p d : Nat} {c u : Int32} (R : xRd K h0 h X x tn sh ou p d c u) (hp : p < 40) (hl : sh.length + ou.length ≤ p) (hd : d ≤ 4) (y : Int32) : xV K B l 2 mX8_takeJoin 0 0 (X + 23) [.int y] h (xPi (fun v g => xRo K h0 g X x tn (sh, ou, p, d, c, u) (tkJ y (sh, ou, p, d, c, u)) v)) := by
  obtain ⟨⟨t0, t1⟩, ⟨s, RH, hs⟩, ⟨f, g, RU, hf⟩, hz, hfr⟩ := id R
  obtain ⟨o0, o1⟩ := id RH
  obtain ⟨r0, r1, r2⟩ := id RU
  refine ⟨⟨_, _, _, _, R.2.1.choose_spec.1.1, rfl⟩, qX8_takeJoin, ?_⟩
  refine xS.intro RX8 false ⟨rfl, rfl, by decide, by decide, Nat.le_of_ble_eq_true rfl⟩ (ls := [some (.ref (X + 23)), some (.int y), none, none]) rfl ?_
  refine xr_il1 dX8_takeJoin_0 ?_
  refine xr_ineg dX8_takeJoin_1 ?_
  refine xr_Si1 (s_tightness _) kX8_87 (by decide) (Nat.le_of_ble_eq_true rfl) (Nat.zero_add _) (Nat.zero_add _) dX8_takeJoin_2 ?_
  refine xr_ic1 dX8_takeJoin_5 ?_
  refine xr_icmpne (tgt := 13) dX8_takeJoin_6 (by decide) (fun zc6 => ?_) (fun zc6 => ?_)
  · skip
    refine xr_ic0 dX8_takeJoin_13 ?_
    refine xr_is2 dX8_takeJoin_14 (by decide) rfl ?_
    refine xr_al0 dX8_takeJoin_15 ?_
    refine xr_get o0 fX8_44 rfl dX8_takeJoin_16 ?_
    refine xr_al0 dX8_takeJoin_19 ?_
    refine xr_get o0 fX8_41 rfl dX8_takeJoin_20 ?_
    refine xr_ishr dX8_takeJoin_23 ?_
    refine xr_ic1 dX8_takeJoin_24 ?_
    refine xr_iand dX8_takeJoin_25 ?_
    refine xr_ic1 dX8_takeJoin_26 ?_
    refine xr_icmpne (tgt := 34) dX8_takeJoin_27 (by decide) (fun zc27 => ?_) (fun zc27 => ?_)
    · skip
      refine xr_ic0 dX8_takeJoin_34 ?_
      refine xr_is3 dX8_takeJoin_35 (by decide) rfl ?_
      refine xr_il1 dX8_takeJoin_36 ?_
      refine xr_bipush (v := 41) dX8_takeJoin_37 (by decide) ?_
      refine xr_icmpne (tgt := 61) dX8_takeJoin_39 (by decide) (fun zc39 => ?_) (fun zc39 => ?_)
      · skip
        refine xr_il1 dX8_takeJoin_61 ?_
        refine xr_Si1 (s_joins _) kX8_93 (by decide) (Nat.le_of_ble_eq_true rfl) (Nat.zero_add _) (Nat.zero_add _) dX8_takeJoin_62 ?_
        refine xr_ifeq (tgt := 122) dX8_takeJoin_65 (by decide) (fun zc65 => ?_) (fun zc65 => ?_)
        · skip
          refine xr_ic0 dX8_takeJoin_122 ?_
          refine xr_zret dX8_takeJoin_123 rfl (by rfl) ?_
          refine ⟨_, rfl, ?_⟩
          unfold tkJ
          simp only [if_neg (fun q : y = 41 ∧ 1 ≤ d => zc39 q.1), if_neg (fun q : ¬ jn y = 0 ∧ ¬ (tg (0 - y) = 1 ∧ (c >>> (nI d &&& 31) &&& 1) = 1) => q.1 zc65)]
          exact ⟨rfl, R⟩
        · skip
          refine xr_il2 dX8_takeJoin_68 ?_
          refine xr_ifeq (tgt := 76) dX8_takeJoin_69 (by decide) (fun zc69 => ?_) (fun zc69 => ?_)
          · skip
            refine xr_al0 dX8_takeJoin_76 ?_
            refine xr_il1 dX8_takeJoin_77 ?_
            refine xr_ineg dX8_takeJoin_78 ?_
            refine xr_Si1 (s_tightness _) kX8_87 (by decide) (Nat.le_of_ble_eq_true rfl) (Nat.zero_add _) (Nat.zero_add _) dX8_takeJoin_79 ?_
            refine xr_Vpv1 (s_bringBack R _ (by omega)) kX8_68 (by decide) (Nat.le_of_ble_eq_true rfl) (Nat.zero_add _) (Nat.zero_add _) dX8_takeJoin_82 (fun zh1 zq1 => ?_)
            have R2 := zq1
            have hb := bbk_len (tg (0 - y)) sh ou
            refine xr_al0 dX8_takeJoin_85 ?_
            refine xr_il1 dX8_takeJoin_86 ?_
            refine xr_ineg dX8_takeJoin_87 ?_
            refine xr_Vpv1 (s_putBy R2 (by omega) _) kX8_84 (by decide) (Nat.le_of_ble_eq_true rfl) (Nat.zero_add _) (Nat.zero_add _) dX8_takeJoin_88 (fun zh2 zq2 => ?_)
            have R3 := zq2
            obtain ⟨⟨t0, t1⟩, ⟨s3, RH3, hs3⟩, ⟨f3, g3, RU3, hf3⟩, hz3, hfr3⟩ := id R3
            obtain ⟨o0, o1⟩ := id RH3
            obtain ⟨r0, r1, r2⟩ := id RU3
            refine xr_al0 dX8_takeJoin_91 ?_
            refine xr_dup dX8_takeJoin_92 rfl ?_
            refine xr_get o0 fX8_44 rfl dX8_takeJoin_93 ?_
            refine xr_il2 dX8_takeJoin_96 ?_
            refine xr_ifeq (tgt := 109) dX8_takeJoin_97 (by decide) (fun zc97 => ?_) (fun zc97 => ?_)
            · skip
              refine xr_ic0 dX8_takeJoin_109 ?_
              refine xr_ior dX8_takeJoin_110 ?_
              refine xr_put o0 fX8_44 (Nat.le_of_ble_eq_true rfl) rfl rfl dX8_takeJoin_111 ?_
              refine xT.nm (fun zh3 zg3 => ?_)
              have o0 := xg_eq zg3
              have o1 := xg_ne zg3 (by omega) o1
              have t0 := xg_ne zg3 (by omega) t0
              have t1 := xg_ne zg3 (by omega) t1
              have r0 := xg_ne zg3 (by omega) r0
              refine xr_al0 dX8_takeJoin_114 ?_
              refine xr_ic1 dX8_takeJoin_115 ?_
              refine xr_put o0 fX8_47 (Nat.le_of_ble_eq_true rfl) rfl rfl dX8_takeJoin_116 ?_
              refine xT.nm (fun zh4 zg4 => ?_)
              have o0 := xg_eq zg4
              have o1 := xg_ne zg4 (by omega) o1
              have t0 := xg_ne zg4 (by omega) t0
              have t1 := xg_ne zg4 (by omega) t1
              have r0 := xg_ne zg4 (by omega) r0
              refine xr_goto (tgt := 124) dX8_takeJoin_119 (by decide) ?_
              refine xr_al0 dX8_takeJoin_124 ?_
              refine xr_dup dX8_takeJoin_125 rfl ?_
              refine xr_get o0 fX8_38 rfl dX8_takeJoin_126 ?_
              refine xr_ic1 dX8_takeJoin_129 ?_
              refine xr_iadd dX8_takeJoin_130 ?_
              refine xr_eqi (nI_1 p) ?_
              refine xr_put o0 fX8_38 (Nat.le_of_ble_eq_true rfl) rfl rfl dX8_takeJoin_131 ?_
              refine xT.nm (fun zh5 zg5 => ?_)
              have o0 := xg_eq zg5
              have o1 := xg_ne zg5 (by omega) o1
              have t0 := xg_ne zg5 (by omega) t0
              have t1 := xg_ne zg5 (by omega) t1
              have r0 := xg_ne zg5 (by omega) r0
              refine xr_ic1 dX8_takeJoin_134 ?_
              refine xr_zret dX8_takeJoin_135 rfl (by rfl) ?_
              refine ⟨_, rfl, ?_⟩
              unfold tkJ
              simp only [if_neg (fun q : y = 41 ∧ 1 ≤ d => zc39 q.1), if_pos (show ¬ jn y = 0 ∧ ¬ (tg (0 - y) = 1 ∧ (c >>> (nI d &&& 31) &&& 1) = 1) from ⟨zc65, fun q => zc6 q.1⟩), if_neg zc6]
              exact ⟨rfl, R3.rr (s' := s3) (by rw [zg5, zg4, zg3, xup_xup, xup_xup]; exact P2_o RH3 _) rfl hs3⟩
            · skip
              exact absurd rfl zc97
          · skip
            exact absurd rfl zc69
      · skip
        refine xr_al0 dX8_takeJoin_42 ?_
        refine xr_get o0 fX8_41 rfl dX8_takeJoin_43 ?_
        refine xr_ifle (tgt := 61) dX8_takeJoin_46 (by decide) (fun zc46 => ?_) (fun zc46 => ?_)
        · skip
          refine xr_il1 dX8_takeJoin_61 ?_
          refine xr_Si1 (s_joins _) kX8_93 (by decide) (Nat.le_of_ble_eq_true rfl) (Nat.zero_add _) (Nat.zero_add _) dX8_takeJoin_62 ?_
          refine xr_ifeq (tgt := 122) dX8_takeJoin_65 (by decide) (fun zc65 => ?_) (fun zc65 => ?_)
          · skip
            refine xr_ic0 dX8_takeJoin_122 ?_
            refine xr_zret dX8_takeJoin_123 rfl (by rfl) ?_
            refine ⟨_, rfl, ?_⟩
            unfold tkJ
            simp only [if_neg (fun q : y = 41 ∧ 1 ≤ d => absurd zc46 (nI_nle q.2 (by omega))), if_neg (fun q : ¬ jn y = 0 ∧ ¬ (tg (0 - y) = 1 ∧ (c >>> (nI d &&& 31) &&& 1) = 1) => q.1 zc65)]
            exact ⟨rfl, R⟩
          · skip
            refine xr_il2 dX8_takeJoin_68 ?_
            refine xr_ifeq (tgt := 76) dX8_takeJoin_69 (by decide) (fun zc69 => ?_) (fun zc69 => ?_)
            · skip
              refine xr_al0 dX8_takeJoin_76 ?_
              refine xr_il1 dX8_takeJoin_77 ?_
              refine xr_ineg dX8_takeJoin_78 ?_
              refine xr_Si1 (s_tightness _) kX8_87 (by decide) (Nat.le_of_ble_eq_true rfl) (Nat.zero_add _) (Nat.zero_add _) dX8_takeJoin_79 ?_
              refine xr_Vpv1 (s_bringBack R _ (by omega)) kX8_68 (by decide) (Nat.le_of_ble_eq_true rfl) (Nat.zero_add _) (Nat.zero_add _) dX8_takeJoin_82 (fun zh1 zq1 => ?_)
              have R2 := zq1
              have hb := bbk_len (tg (0 - y)) sh ou
              refine xr_al0 dX8_takeJoin_85 ?_
              refine xr_il1 dX8_takeJoin_86 ?_
              refine xr_ineg dX8_takeJoin_87 ?_
              refine xr_Vpv1 (s_putBy R2 (by omega) _) kX8_84 (by decide) (Nat.le_of_ble_eq_true rfl) (Nat.zero_add _) (Nat.zero_add _) dX8_takeJoin_88 (fun zh2 zq2 => ?_)
              have R3 := zq2
              obtain ⟨⟨t0, t1⟩, ⟨s3, RH3, hs3⟩, ⟨f3, g3, RU3, hf3⟩, hz3, hfr3⟩ := id R3
              obtain ⟨o0, o1⟩ := id RH3
              obtain ⟨r0, r1, r2⟩ := id RU3
              refine xr_al0 dX8_takeJoin_91 ?_
              refine xr_dup dX8_takeJoin_92 rfl ?_
              refine xr_get o0 fX8_44 rfl dX8_takeJoin_93 ?_
              refine xr_il2 dX8_takeJoin_96 ?_
              refine xr_ifeq (tgt := 109) dX8_takeJoin_97 (by decide) (fun zc97 => ?_) (fun zc97 => ?_)
              · skip
                refine xr_ic0 dX8_takeJoin_109 ?_
                refine xr_ior dX8_takeJoin_110 ?_
                refine xr_put o0 fX8_44 (Nat.le_of_ble_eq_true rfl) rfl rfl dX8_takeJoin_111 ?_
                refine xT.nm (fun zh3 zg3 => ?_)
                have o0 := xg_eq zg3
                have o1 := xg_ne zg3 (by omega) o1
                have t0 := xg_ne zg3 (by omega) t0
                have t1 := xg_ne zg3 (by omega) t1
                have r0 := xg_ne zg3 (by omega) r0
                refine xr_al0 dX8_takeJoin_114 ?_
                refine xr_ic1 dX8_takeJoin_115 ?_
                refine xr_put o0 fX8_47 (Nat.le_of_ble_eq_true rfl) rfl rfl dX8_takeJoin_116 ?_
                refine xT.nm (fun zh4 zg4 => ?_)
                have o0 := xg_eq zg4
                have o1 := xg_ne zg4 (by omega) o1
                have t0 := xg_ne zg4 (by omega) t0
                have t1 := xg_ne zg4 (by omega) t1
                have r0 := xg_ne zg4 (by omega) r0
                refine xr_goto (tgt := 124) dX8_takeJoin_119 (by decide) ?_
                refine xr_al0 dX8_takeJoin_124 ?_
                refine xr_dup dX8_takeJoin_125 rfl ?_
                refine xr_get o0 fX8_38 rfl dX8_takeJoin_126 ?_
                refine xr_ic1 dX8_takeJoin_129 ?_
                refine xr_iadd dX8_takeJoin_130 ?_
                refine xr_eqi (nI_1 p) ?_
                refine xr_put o0 fX8_38 (Nat.le_of_ble_eq_true rfl) rfl rfl dX8_takeJoin_131 ?_
                refine xT.nm (fun zh5 zg5 => ?_)
                have o0 := xg_eq zg5
                have o1 := xg_ne zg5 (by omega) o1
                have t0 := xg_ne zg5 (by omega) t0
                have t1 := xg_ne zg5 (by omega) t1
                have r0 := xg_ne zg5 (by omega) r0
                refine xr_ic1 dX8_takeJoin_134 ?_
                refine xr_zret dX8_takeJoin_135 rfl (by rfl) ?_
                refine ⟨_, rfl, ?_⟩
                unfold tkJ
                simp only [if_neg (fun q : y = 41 ∧ 1 ≤ d => absurd zc46 (nI_nle q.2 (by omega))), if_pos (show ¬ jn y = 0 ∧ ¬ (tg (0 - y) = 1 ∧ (c >>> (nI d &&& 31) &&& 1) = 1) from ⟨zc65, fun q => zc6 q.1⟩), if_neg zc6]
                exact ⟨rfl, R3.rr (s' := s3) (by rw [zg5, zg4, zg3, xup_xup, xup_xup]; exact P2_o RH3 _) rfl hs3⟩
              · skip
                exact absurd rfl zc97
            · skip
              exact absurd rfl zc69
        · skip
          have hd1 : 1 ≤ d := by
            rcases Nat.lt_or_ge d 1 with q | q
            · exact absurd (by rw [show d = 0 by omega]; decide) zc46
            · exact q
          refine xr_al0 dX8_takeJoin_49 ?_
          refine xr_ic1 dX8_takeJoin_50 ?_
          refine xr_Vpv1 (s_bringBack R 1 (by omega)) kX8_68 (by decide) (Nat.le_of_ble_eq_true rfl) (Nat.zero_add _) (Nat.zero_add _) dX8_takeJoin_51 (fun zh1 zq1 => ?_)
          have R2 := zq1
          have hb := bbk_len 1 sh ou
          refine xr_al0 dX8_takeJoin_54 ?_
          refine xr_Vpv0 (s_dropBracket R2 hd1 (by omega)) kX8_90 (by decide) (Nat.le_of_ble_eq_true rfl) (Nat.zero_add _) (Nat.zero_add _) dX8_takeJoin_55 (fun zh2 zq2 => ?_)
          have R3 := zq2
          obtain ⟨⟨t0, t1⟩, ⟨s3, RH3, hs3⟩, ⟨f3, g3, RU3, hf3⟩, hz3, hfr3⟩ := id R3
          obtain ⟨o0, o1⟩ := id RH3
          obtain ⟨r0, r1, r2⟩ := id RU3
          refine xr_goto (tgt := 124) dX8_takeJoin_58 (by decide) ?_
          refine xr_al0 dX8_takeJoin_124 ?_
          refine xr_dup dX8_takeJoin_125 rfl ?_
          refine xr_get o0 fX8_38 rfl dX8_takeJoin_126 ?_
          refine xr_ic1 dX8_takeJoin_129 ?_
          refine xr_iadd dX8_takeJoin_130 ?_
          refine xr_eqi (nI_1 p) ?_
          refine xr_put o0 fX8_38 (Nat.le_of_ble_eq_true rfl) rfl rfl dX8_takeJoin_131 ?_
          refine xT.nm (fun zh3 zg3 => ?_)
          have o0 := xg_eq zg3
          have o1 := xg_ne zg3 (by omega) o1
          have t0 := xg_ne zg3 (by omega) t0
          have t1 := xg_ne zg3 (by omega) t1
          have r0 := xg_ne zg3 (by omega) r0
          refine xr_ic1 dX8_takeJoin_134 ?_
          refine xr_zret dX8_takeJoin_135 rfl (by rfl) ?_
          refine ⟨_, rfl, ?_⟩
          unfold tkJ
          simp only [if_pos (show y = 41 ∧ 1 ≤ d from ⟨zc39, hd1⟩)]
          exact ⟨rfl, R3.rr (s' := s3) (by rw [zg3]; exact P2_o RH3 _) rfl hs3⟩
    · skip
      refine xr_ic1 dX8_takeJoin_30 ?_
      refine xr_goto (tgt := 35) dX8_takeJoin_31 (by decide) ?_
      refine xr_is3 dX8_takeJoin_35 (by decide) rfl ?_
      refine xr_il1 dX8_takeJoin_36 ?_
      refine xr_bipush (v := 41) dX8_takeJoin_37 (by decide) ?_
      refine xr_icmpne (tgt := 61) dX8_takeJoin_39 (by decide) (fun zc39 => ?_) (fun zc39 => ?_)
      · skip
        refine xr_il1 dX8_takeJoin_61 ?_
        refine xr_Si1 (s_joins _) kX8_93 (by decide) (Nat.le_of_ble_eq_true rfl) (Nat.zero_add _) (Nat.zero_add _) dX8_takeJoin_62 ?_
        refine xr_ifeq (tgt := 122) dX8_takeJoin_65 (by decide) (fun zc65 => ?_) (fun zc65 => ?_)
        · skip
          refine xr_ic0 dX8_takeJoin_122 ?_
          refine xr_zret dX8_takeJoin_123 rfl (by rfl) ?_
          refine ⟨_, rfl, ?_⟩
          unfold tkJ
          simp only [if_neg (fun q : y = 41 ∧ 1 ≤ d => zc39 q.1), if_neg (fun q : ¬ jn y = 0 ∧ ¬ (tg (0 - y) = 1 ∧ (c >>> (nI d &&& 31) &&& 1) = 1) => q.1 zc65)]
          exact ⟨rfl, R⟩
        · skip
          refine xr_il2 dX8_takeJoin_68 ?_
          refine xr_ifeq (tgt := 76) dX8_takeJoin_69 (by decide) (fun zc69 => ?_) (fun zc69 => ?_)
          · skip
            refine xr_al0 dX8_takeJoin_76 ?_
            refine xr_il1 dX8_takeJoin_77 ?_
            refine xr_ineg dX8_takeJoin_78 ?_
            refine xr_Si1 (s_tightness _) kX8_87 (by decide) (Nat.le_of_ble_eq_true rfl) (Nat.zero_add _) (Nat.zero_add _) dX8_takeJoin_79 ?_
            refine xr_Vpv1 (s_bringBack R _ (by omega)) kX8_68 (by decide) (Nat.le_of_ble_eq_true rfl) (Nat.zero_add _) (Nat.zero_add _) dX8_takeJoin_82 (fun zh1 zq1 => ?_)
            have R2 := zq1
            have hb := bbk_len (tg (0 - y)) sh ou
            refine xr_al0 dX8_takeJoin_85 ?_
            refine xr_il1 dX8_takeJoin_86 ?_
            refine xr_ineg dX8_takeJoin_87 ?_
            refine xr_Vpv1 (s_putBy R2 (by omega) _) kX8_84 (by decide) (Nat.le_of_ble_eq_true rfl) (Nat.zero_add _) (Nat.zero_add _) dX8_takeJoin_88 (fun zh2 zq2 => ?_)
            have R3 := zq2
            obtain ⟨⟨t0, t1⟩, ⟨s3, RH3, hs3⟩, ⟨f3, g3, RU3, hf3⟩, hz3, hfr3⟩ := id R3
            obtain ⟨o0, o1⟩ := id RH3
            obtain ⟨r0, r1, r2⟩ := id RU3
            refine xr_al0 dX8_takeJoin_91 ?_
            refine xr_dup dX8_takeJoin_92 rfl ?_
            refine xr_get o0 fX8_44 rfl dX8_takeJoin_93 ?_
            refine xr_il2 dX8_takeJoin_96 ?_
            refine xr_ifeq (tgt := 109) dX8_takeJoin_97 (by decide) (fun zc97 => ?_) (fun zc97 => ?_)
            · skip
              refine xr_ic0 dX8_takeJoin_109 ?_
              refine xr_ior dX8_takeJoin_110 ?_
              refine xr_put o0 fX8_44 (Nat.le_of_ble_eq_true rfl) rfl rfl dX8_takeJoin_111 ?_
              refine xT.nm (fun zh3 zg3 => ?_)
              have o0 := xg_eq zg3
              have o1 := xg_ne zg3 (by omega) o1
              have t0 := xg_ne zg3 (by omega) t0
              have t1 := xg_ne zg3 (by omega) t1
              have r0 := xg_ne zg3 (by omega) r0
              refine xr_al0 dX8_takeJoin_114 ?_
              refine xr_ic1 dX8_takeJoin_115 ?_
              refine xr_put o0 fX8_47 (Nat.le_of_ble_eq_true rfl) rfl rfl dX8_takeJoin_116 ?_
              refine xT.nm (fun zh4 zg4 => ?_)
              have o0 := xg_eq zg4
              have o1 := xg_ne zg4 (by omega) o1
              have t0 := xg_ne zg4 (by omega) t0
              have t1 := xg_ne zg4 (by omega) t1
              have r0 := xg_ne zg4 (by omega) r0
              refine xr_goto (tgt := 124) dX8_takeJoin_119 (by decide) ?_
              refine xr_al0 dX8_takeJoin_124 ?_
              refine xr_dup dX8_takeJoin_125 rfl ?_
              refine xr_get o0 fX8_38 rfl dX8_takeJoin_126 ?_
              refine xr_ic1 dX8_takeJoin_129 ?_
              refine xr_iadd dX8_takeJoin_130 ?_
              refine xr_eqi (nI_1 p) ?_
              refine xr_put o0 fX8_38 (Nat.le_of_ble_eq_true rfl) rfl rfl dX8_takeJoin_131 ?_
              refine xT.nm (fun zh5 zg5 => ?_)
              have o0 := xg_eq zg5
              have o1 := xg_ne zg5 (by omega) o1
              have t0 := xg_ne zg5 (by omega) t0
              have t1 := xg_ne zg5 (by omega) t1
              have r0 := xg_ne zg5 (by omega) r0
              refine xr_ic1 dX8_takeJoin_134 ?_
              refine xr_zret dX8_takeJoin_135 rfl (by rfl) ?_
              refine ⟨_, rfl, ?_⟩
              unfold tkJ
              simp only [if_neg (fun q : y = 41 ∧ 1 ≤ d => zc39 q.1), if_pos (show ¬ jn y = 0 ∧ ¬ (tg (0 - y) = 1 ∧ (c >>> (nI d &&& 31) &&& 1) = 1) from ⟨zc65, fun q => zc6 q.1⟩), if_neg zc6]
              exact ⟨rfl, R3.rr (s' := s3) (by rw [zg5, zg4, zg3, xup_xup, xup_xup]; exact P2_o RH3 _) rfl hs3⟩
            · skip
              exact absurd rfl zc97
          · skip
            exact absurd rfl zc69
      · skip
        refine xr_al0 dX8_takeJoin_42 ?_
        refine xr_get o0 fX8_41 rfl dX8_takeJoin_43 ?_
        refine xr_ifle (tgt := 61) dX8_takeJoin_46 (by decide) (fun zc46 => ?_) (fun zc46 => ?_)
        · skip
          refine xr_il1 dX8_takeJoin_61 ?_
          refine xr_Si1 (s_joins _) kX8_93 (by decide) (Nat.le_of_ble_eq_true rfl) (Nat.zero_add _) (Nat.zero_add _) dX8_takeJoin_62 ?_
          refine xr_ifeq (tgt := 122) dX8_takeJoin_65 (by decide) (fun zc65 => ?_) (fun zc65 => ?_)
          · skip
            refine xr_ic0 dX8_takeJoin_122 ?_
            refine xr_zret dX8_takeJoin_123 rfl (by rfl) ?_
            refine ⟨_, rfl, ?_⟩
            unfold tkJ
            simp only [if_neg (fun q : y = 41 ∧ 1 ≤ d => absurd zc46 (nI_nle q.2 (by omega))), if_neg (fun q : ¬ jn y = 0 ∧ ¬ (tg (0 - y) = 1 ∧ (c >>> (nI d &&& 31) &&& 1) = 1) => q.1 zc65)]
            exact ⟨rfl, R⟩
          · skip
            refine xr_il2 dX8_takeJoin_68 ?_
            refine xr_ifeq (tgt := 76) dX8_takeJoin_69 (by decide) (fun zc69 => ?_) (fun zc69 => ?_)
            · skip
              refine xr_al0 dX8_takeJoin_76 ?_
              refine xr_il1 dX8_takeJoin_77 ?_
              refine xr_ineg dX8_takeJoin_78 ?_
              refine xr_Si1 (s_tightness _) kX8_87 (by decide) (Nat.le_of_ble_eq_true rfl) (Nat.zero_add _) (Nat.zero_add _) dX8_takeJoin_79 ?_
              refine xr_Vpv1 (s_bringBack R _ (by omega)) kX8_68 (by decide) (Nat.le_of_ble_eq_true rfl) (Nat.zero_add _) (Nat.zero_add _) dX8_takeJoin_82 (fun zh1 zq1 => ?_)
              have R2 := zq1
              have hb := bbk_len (tg (0 - y)) sh ou
              refine xr_al0 dX8_takeJoin_85 ?_
              refine xr_il1 dX8_takeJoin_86 ?_
              refine xr_ineg dX8_takeJoin_87 ?_
              refine xr_Vpv1 (s_putBy R2 (by omega) _) kX8_84 (by decide) (Nat.le_of_ble_eq_true rfl) (Nat.zero_add _) (Nat.zero_add _) dX8_takeJoin_88 (fun zh2 zq2 => ?_)
              have R3 := zq2
              obtain ⟨⟨t0, t1⟩, ⟨s3, RH3, hs3⟩, ⟨f3, g3, RU3, hf3⟩, hz3, hfr3⟩ := id R3
              obtain ⟨o0, o1⟩ := id RH3
              obtain ⟨r0, r1, r2⟩ := id RU3
              refine xr_al0 dX8_takeJoin_91 ?_
              refine xr_dup dX8_takeJoin_92 rfl ?_
              refine xr_get o0 fX8_44 rfl dX8_takeJoin_93 ?_
              refine xr_il2 dX8_takeJoin_96 ?_
              refine xr_ifeq (tgt := 109) dX8_takeJoin_97 (by decide) (fun zc97 => ?_) (fun zc97 => ?_)
              · skip
                refine xr_ic0 dX8_takeJoin_109 ?_
                refine xr_ior dX8_takeJoin_110 ?_
                refine xr_put o0 fX8_44 (Nat.le_of_ble_eq_true rfl) rfl rfl dX8_takeJoin_111 ?_
                refine xT.nm (fun zh3 zg3 => ?_)
                have o0 := xg_eq zg3
                have o1 := xg_ne zg3 (by omega) o1
                have t0 := xg_ne zg3 (by omega) t0
                have t1 := xg_ne zg3 (by omega) t1
                have r0 := xg_ne zg3 (by omega) r0
                refine xr_al0 dX8_takeJoin_114 ?_
                refine xr_ic1 dX8_takeJoin_115 ?_
                refine xr_put o0 fX8_47 (Nat.le_of_ble_eq_true rfl) rfl rfl dX8_takeJoin_116 ?_
                refine xT.nm (fun zh4 zg4 => ?_)
                have o0 := xg_eq zg4
                have o1 := xg_ne zg4 (by omega) o1
                have t0 := xg_ne zg4 (by omega) t0
                have t1 := xg_ne zg4 (by omega) t1
                have r0 := xg_ne zg4 (by omega) r0
                refine xr_goto (tgt := 124) dX8_takeJoin_119 (by decide) ?_
                refine xr_al0 dX8_takeJoin_124 ?_
                refine xr_dup dX8_takeJoin_125 rfl ?_
                refine xr_get o0 fX8_38 rfl dX8_takeJoin_126 ?_
                refine xr_ic1 dX8_takeJoin_129 ?_
                refine xr_iadd dX8_takeJoin_130 ?_
                refine xr_eqi (nI_1 p) ?_
                refine xr_put o0 fX8_38 (Nat.le_of_ble_eq_true rfl) rfl rfl dX8_takeJoin_131 ?_
                refine xT.nm (fun zh5 zg5 => ?_)
                have o0 := xg_eq zg5
                have o1 := xg_ne zg5 (by omega) o1
                have t0 := xg_ne zg5 (by omega) t0
                have t1 := xg_ne zg5 (by omega) t1
                have r0 := xg_ne zg5 (by omega) r0
                refine xr_ic1 dX8_takeJoin_134 ?_
                refine xr_zret dX8_takeJoin_135 rfl (by rfl) ?_
                refine ⟨_, rfl, ?_⟩
                unfold tkJ
                simp only [if_neg (fun q : y = 41 ∧ 1 ≤ d => absurd zc46 (nI_nle q.2 (by omega))), if_pos (show ¬ jn y = 0 ∧ ¬ (tg (0 - y) = 1 ∧ (c >>> (nI d &&& 31) &&& 1) = 1) from ⟨zc65, fun q => zc6 q.1⟩), if_neg zc6]
                exact ⟨rfl, R3.rr (s' := s3) (by rw [zg5, zg4, zg3, xup_xup, xup_xup]; exact P2_o RH3 _) rfl hs3⟩
              · skip
                exact absurd rfl zc97
            · skip
              exact absurd rfl zc69
        · skip
          have hd1 : 1 ≤ d := by
            rcases Nat.lt_or_ge d 1 with q | q
            · exact absurd (by rw [show d = 0 by omega]; decide) zc46
            · exact q
          refine xr_al0 dX8_takeJoin_49 ?_
          refine xr_ic1 dX8_takeJoin_50 ?_
          refine xr_Vpv1 (s_bringBack R 1 (by omega)) kX8_68 (by decide) (Nat.le_of_ble_eq_true rfl) (Nat.zero_add _) (Nat.zero_add _) dX8_takeJoin_51 (fun zh1 zq1 => ?_)
          have R2 := zq1
          have hb := bbk_len 1 sh ou
          refine xr_al0 dX8_takeJoin_54 ?_
          refine xr_Vpv0 (s_dropBracket R2 hd1 (by omega)) kX8_90 (by decide) (Nat.le_of_ble_eq_true rfl) (Nat.zero_add _) (Nat.zero_add _) dX8_takeJoin_55 (fun zh2 zq2 => ?_)
          have R3 := zq2
          obtain ⟨⟨t0, t1⟩, ⟨s3, RH3, hs3⟩, ⟨f3, g3, RU3, hf3⟩, hz3, hfr3⟩ := id R3
          obtain ⟨o0, o1⟩ := id RH3
          obtain ⟨r0, r1, r2⟩ := id RU3
          refine xr_goto (tgt := 124) dX8_takeJoin_58 (by decide) ?_
          refine xr_al0 dX8_takeJoin_124 ?_
          refine xr_dup dX8_takeJoin_125 rfl ?_
          refine xr_get o0 fX8_38 rfl dX8_takeJoin_126 ?_
          refine xr_ic1 dX8_takeJoin_129 ?_
          refine xr_iadd dX8_takeJoin_130 ?_
          refine xr_eqi (nI_1 p) ?_
          refine xr_put o0 fX8_38 (Nat.le_of_ble_eq_true rfl) rfl rfl dX8_takeJoin_131 ?_
          refine xT.nm (fun zh3 zg3 => ?_)
          have o0 := xg_eq zg3
          have o1 := xg_ne zg3 (by omega) o1
          have t0 := xg_ne zg3 (by omega) t0
          have t1 := xg_ne zg3 (by omega) t1
          have r0 := xg_ne zg3 (by omega) r0
          refine xr_ic1 dX8_takeJoin_134 ?_
          refine xr_zret dX8_takeJoin_135 rfl (by rfl) ?_
          refine ⟨_, rfl, ?_⟩
          unfold tkJ
          simp only [if_pos (show y = 41 ∧ 1 ≤ d from ⟨zc39, hd1⟩)]
          exact ⟨rfl, R3.rr (s' := s3) (by rw [zg3]; exact P2_o RH3 _) rfl hs3⟩
  · skip
    refine xr_ic1 dX8_takeJoin_9 ?_
    refine xr_goto (tgt := 14) dX8_takeJoin_10 (by decide) ?_
    refine xr_is2 dX8_takeJoin_14 (by decide) rfl ?_
    refine xr_al0 dX8_takeJoin_15 ?_
    refine xr_get o0 fX8_44 rfl dX8_takeJoin_16 ?_
    refine xr_al0 dX8_takeJoin_19 ?_
    refine xr_get o0 fX8_41 rfl dX8_takeJoin_20 ?_
    refine xr_ishr dX8_takeJoin_23 ?_
    refine xr_ic1 dX8_takeJoin_24 ?_
    refine xr_iand dX8_takeJoin_25 ?_
    refine xr_ic1 dX8_takeJoin_26 ?_
    refine xr_icmpne (tgt := 34) dX8_takeJoin_27 (by decide) (fun zc27 => ?_) (fun zc27 => ?_)
    · skip
      refine xr_ic0 dX8_takeJoin_34 ?_
      refine xr_is3 dX8_takeJoin_35 (by decide) rfl ?_
      refine xr_il1 dX8_takeJoin_36 ?_
      refine xr_bipush (v := 41) dX8_takeJoin_37 (by decide) ?_
      refine xr_icmpne (tgt := 61) dX8_takeJoin_39 (by decide) (fun zc39 => ?_) (fun zc39 => ?_)
      · skip
        refine xr_il1 dX8_takeJoin_61 ?_
        refine xr_Si1 (s_joins _) kX8_93 (by decide) (Nat.le_of_ble_eq_true rfl) (Nat.zero_add _) (Nat.zero_add _) dX8_takeJoin_62 ?_
        refine xr_ifeq (tgt := 122) dX8_takeJoin_65 (by decide) (fun zc65 => ?_) (fun zc65 => ?_)
        · skip
          refine xr_ic0 dX8_takeJoin_122 ?_
          refine xr_zret dX8_takeJoin_123 rfl (by rfl) ?_
          refine ⟨_, rfl, ?_⟩
          unfold tkJ
          simp only [if_neg (fun q : y = 41 ∧ 1 ≤ d => zc39 q.1), if_neg (fun q : ¬ jn y = 0 ∧ ¬ (tg (0 - y) = 1 ∧ (c >>> (nI d &&& 31) &&& 1) = 1) => q.1 zc65)]
          exact ⟨rfl, R⟩
        · skip
          refine xr_il2 dX8_takeJoin_68 ?_
          refine xr_ifeq (tgt := 76) dX8_takeJoin_69 (by decide) (fun zc69 => ?_) (fun zc69 => ?_)
          · skip
            exact absurd zc69 (by decide)
          · skip
            refine xr_il3 dX8_takeJoin_72 ?_
            refine xr_ifne (tgt := 122) dX8_takeJoin_73 (by decide) (fun zc73 => ?_) (fun zc73 => ?_)
            · skip
              exact absurd rfl zc73
            · skip
              refine xr_al0 dX8_takeJoin_76 ?_
              refine xr_il1 dX8_takeJoin_77 ?_
              refine xr_ineg dX8_takeJoin_78 ?_
              refine xr_Si1 (s_tightness _) kX8_87 (by decide) (Nat.le_of_ble_eq_true rfl) (Nat.zero_add _) (Nat.zero_add _) dX8_takeJoin_79 ?_
              refine xr_Vpv1 (s_bringBack R _ (by omega)) kX8_68 (by decide) (Nat.le_of_ble_eq_true rfl) (Nat.zero_add _) (Nat.zero_add _) dX8_takeJoin_82 (fun zh1 zq1 => ?_)
              have R2 := zq1
              have hb := bbk_len (tg (0 - y)) sh ou
              refine xr_al0 dX8_takeJoin_85 ?_
              refine xr_il1 dX8_takeJoin_86 ?_
              refine xr_ineg dX8_takeJoin_87 ?_
              refine xr_Vpv1 (s_putBy R2 (by omega) _) kX8_84 (by decide) (Nat.le_of_ble_eq_true rfl) (Nat.zero_add _) (Nat.zero_add _) dX8_takeJoin_88 (fun zh2 zq2 => ?_)
              have R3 := zq2
              obtain ⟨⟨t0, t1⟩, ⟨s3, RH3, hs3⟩, ⟨f3, g3, RU3, hf3⟩, hz3, hfr3⟩ := id R3
              obtain ⟨o0, o1⟩ := id RH3
              obtain ⟨r0, r1, r2⟩ := id RU3
              refine xr_al0 dX8_takeJoin_91 ?_
              refine xr_dup dX8_takeJoin_92 rfl ?_
              refine xr_get o0 fX8_44 rfl dX8_takeJoin_93 ?_
              refine xr_il2 dX8_takeJoin_96 ?_
              refine xr_ifeq (tgt := 109) dX8_takeJoin_97 (by decide) (fun zc97 => ?_) (fun zc97 => ?_)
              · skip
                exact absurd zc97 (by decide)
              · skip
                refine xr_ic1 dX8_takeJoin_100 ?_
                refine xr_al0 dX8_takeJoin_101 ?_
                refine xr_get o0 fX8_41 rfl dX8_takeJoin_102 ?_
                refine xr_ishl dX8_takeJoin_105 ?_
                refine xr_goto (tgt := 110) dX8_takeJoin_106 (by decide) ?_
                refine xr_ior dX8_takeJoin_110 ?_
                refine xr_put o0 fX8_44 (Nat.le_of_ble_eq_true rfl) rfl rfl dX8_takeJoin_111 ?_
                refine xT.nm (fun zh3 zg3 => ?_)
                have o0 := xg_eq zg3
                have o1 := xg_ne zg3 (by omega) o1
                have t0 := xg_ne zg3 (by omega) t0
                have t1 := xg_ne zg3 (by omega) t1
                have r0 := xg_ne zg3 (by omega) r0
                refine xr_al0 dX8_takeJoin_114 ?_
                refine xr_ic1 dX8_takeJoin_115 ?_
                refine xr_put o0 fX8_47 (Nat.le_of_ble_eq_true rfl) rfl rfl dX8_takeJoin_116 ?_
                refine xT.nm (fun zh4 zg4 => ?_)
                have o0 := xg_eq zg4
                have o1 := xg_ne zg4 (by omega) o1
                have t0 := xg_ne zg4 (by omega) t0
                have t1 := xg_ne zg4 (by omega) t1
                have r0 := xg_ne zg4 (by omega) r0
                refine xr_goto (tgt := 124) dX8_takeJoin_119 (by decide) ?_
                refine xr_al0 dX8_takeJoin_124 ?_
                refine xr_dup dX8_takeJoin_125 rfl ?_
                refine xr_get o0 fX8_38 rfl dX8_takeJoin_126 ?_
                refine xr_ic1 dX8_takeJoin_129 ?_
                refine xr_iadd dX8_takeJoin_130 ?_
                refine xr_eqi (nI_1 p) ?_
                refine xr_put o0 fX8_38 (Nat.le_of_ble_eq_true rfl) rfl rfl dX8_takeJoin_131 ?_
                refine xT.nm (fun zh5 zg5 => ?_)
                have o0 := xg_eq zg5
                have o1 := xg_ne zg5 (by omega) o1
                have t0 := xg_ne zg5 (by omega) t0
                have t1 := xg_ne zg5 (by omega) t1
                have r0 := xg_ne zg5 (by omega) r0
                refine xr_ic1 dX8_takeJoin_134 ?_
                refine xr_zret dX8_takeJoin_135 rfl (by rfl) ?_
                refine ⟨_, rfl, ?_⟩
                unfold tkJ
                simp only [if_neg (fun q : y = 41 ∧ 1 ≤ d => zc39 q.1), if_pos (show ¬ jn y = 0 ∧ ¬ (tg (0 - y) = 1 ∧ (c >>> (nI d &&& 31) &&& 1) = 1) from ⟨zc65, fun q => zc27 q.2⟩), if_pos zc6]
                exact ⟨rfl, R3.rr (s' := s3) (by rw [zg5, zg4, zg3, xup_xup, xup_xup]; exact P2_o RH3 _) rfl hs3⟩
      · skip
        refine xr_al0 dX8_takeJoin_42 ?_
        refine xr_get o0 fX8_41 rfl dX8_takeJoin_43 ?_
        refine xr_ifle (tgt := 61) dX8_takeJoin_46 (by decide) (fun zc46 => ?_) (fun zc46 => ?_)
        · skip
          refine xr_il1 dX8_takeJoin_61 ?_
          refine xr_Si1 (s_joins _) kX8_93 (by decide) (Nat.le_of_ble_eq_true rfl) (Nat.zero_add _) (Nat.zero_add _) dX8_takeJoin_62 ?_
          refine xr_ifeq (tgt := 122) dX8_takeJoin_65 (by decide) (fun zc65 => ?_) (fun zc65 => ?_)
          · skip
            refine xr_ic0 dX8_takeJoin_122 ?_
            refine xr_zret dX8_takeJoin_123 rfl (by rfl) ?_
            refine ⟨_, rfl, ?_⟩
            unfold tkJ
            simp only [if_neg (fun q : y = 41 ∧ 1 ≤ d => absurd zc46 (nI_nle q.2 (by omega))), if_neg (fun q : ¬ jn y = 0 ∧ ¬ (tg (0 - y) = 1 ∧ (c >>> (nI d &&& 31) &&& 1) = 1) => q.1 zc65)]
            exact ⟨rfl, R⟩
          · skip
            refine xr_il2 dX8_takeJoin_68 ?_
            refine xr_ifeq (tgt := 76) dX8_takeJoin_69 (by decide) (fun zc69 => ?_) (fun zc69 => ?_)
            · skip
              exact absurd zc69 (by decide)
            · skip
              refine xr_il3 dX8_takeJoin_72 ?_
              refine xr_ifne (tgt := 122) dX8_takeJoin_73 (by decide) (fun zc73 => ?_) (fun zc73 => ?_)
              · skip
                exact absurd rfl zc73
              · skip
                refine xr_al0 dX8_takeJoin_76 ?_
                refine xr_il1 dX8_takeJoin_77 ?_
                refine xr_ineg dX8_takeJoin_78 ?_
                refine xr_Si1 (s_tightness _) kX8_87 (by decide) (Nat.le_of_ble_eq_true rfl) (Nat.zero_add _) (Nat.zero_add _) dX8_takeJoin_79 ?_
                refine xr_Vpv1 (s_bringBack R _ (by omega)) kX8_68 (by decide) (Nat.le_of_ble_eq_true rfl) (Nat.zero_add _) (Nat.zero_add _) dX8_takeJoin_82 (fun zh1 zq1 => ?_)
                have R2 := zq1
                have hb := bbk_len (tg (0 - y)) sh ou
                refine xr_al0 dX8_takeJoin_85 ?_
                refine xr_il1 dX8_takeJoin_86 ?_
                refine xr_ineg dX8_takeJoin_87 ?_
                refine xr_Vpv1 (s_putBy R2 (by omega) _) kX8_84 (by decide) (Nat.le_of_ble_eq_true rfl) (Nat.zero_add _) (Nat.zero_add _) dX8_takeJoin_88 (fun zh2 zq2 => ?_)
                have R3 := zq2
                obtain ⟨⟨t0, t1⟩, ⟨s3, RH3, hs3⟩, ⟨f3, g3, RU3, hf3⟩, hz3, hfr3⟩ := id R3
                obtain ⟨o0, o1⟩ := id RH3
                obtain ⟨r0, r1, r2⟩ := id RU3
                refine xr_al0 dX8_takeJoin_91 ?_
                refine xr_dup dX8_takeJoin_92 rfl ?_
                refine xr_get o0 fX8_44 rfl dX8_takeJoin_93 ?_
                refine xr_il2 dX8_takeJoin_96 ?_
                refine xr_ifeq (tgt := 109) dX8_takeJoin_97 (by decide) (fun zc97 => ?_) (fun zc97 => ?_)
                · skip
                  exact absurd zc97 (by decide)
                · skip
                  refine xr_ic1 dX8_takeJoin_100 ?_
                  refine xr_al0 dX8_takeJoin_101 ?_
                  refine xr_get o0 fX8_41 rfl dX8_takeJoin_102 ?_
                  refine xr_ishl dX8_takeJoin_105 ?_
                  refine xr_goto (tgt := 110) dX8_takeJoin_106 (by decide) ?_
                  refine xr_ior dX8_takeJoin_110 ?_
                  refine xr_put o0 fX8_44 (Nat.le_of_ble_eq_true rfl) rfl rfl dX8_takeJoin_111 ?_
                  refine xT.nm (fun zh3 zg3 => ?_)
                  have o0 := xg_eq zg3
                  have o1 := xg_ne zg3 (by omega) o1
                  have t0 := xg_ne zg3 (by omega) t0
                  have t1 := xg_ne zg3 (by omega) t1
                  have r0 := xg_ne zg3 (by omega) r0
                  refine xr_al0 dX8_takeJoin_114 ?_
                  refine xr_ic1 dX8_takeJoin_115 ?_
                  refine xr_put o0 fX8_47 (Nat.le_of_ble_eq_true rfl) rfl rfl dX8_takeJoin_116 ?_
                  refine xT.nm (fun zh4 zg4 => ?_)
                  have o0 := xg_eq zg4
                  have o1 := xg_ne zg4 (by omega) o1
                  have t0 := xg_ne zg4 (by omega) t0
                  have t1 := xg_ne zg4 (by omega) t1
                  have r0 := xg_ne zg4 (by omega) r0
                  refine xr_goto (tgt := 124) dX8_takeJoin_119 (by decide) ?_
                  refine xr_al0 dX8_takeJoin_124 ?_
                  refine xr_dup dX8_takeJoin_125 rfl ?_
                  refine xr_get o0 fX8_38 rfl dX8_takeJoin_126 ?_
                  refine xr_ic1 dX8_takeJoin_129 ?_
                  refine xr_iadd dX8_takeJoin_130 ?_
                  refine xr_eqi (nI_1 p) ?_
                  refine xr_put o0 fX8_38 (Nat.le_of_ble_eq_true rfl) rfl rfl dX8_takeJoin_131 ?_
                  refine xT.nm (fun zh5 zg5 => ?_)
                  have o0 := xg_eq zg5
                  have o1 := xg_ne zg5 (by omega) o1
                  have t0 := xg_ne zg5 (by omega) t0
                  have t1 := xg_ne zg5 (by omega) t1
                  have r0 := xg_ne zg5 (by omega) r0
                  refine xr_ic1 dX8_takeJoin_134 ?_
                  refine xr_zret dX8_takeJoin_135 rfl (by rfl) ?_
                  refine ⟨_, rfl, ?_⟩
                  unfold tkJ
                  simp only [if_neg (fun q : y = 41 ∧ 1 ≤ d => absurd zc46 (nI_nle q.2 (by omega))), if_pos (show ¬ jn y = 0 ∧ ¬ (tg (0 - y) = 1 ∧ (c >>> (nI d &&& 31) &&& 1) = 1) from ⟨zc65, fun q => zc27 q.2⟩), if_pos zc6]
                  exact ⟨rfl, R3.rr (s' := s3) (by rw [zg5, zg4, zg3, xup_xup, xup_xup]; exact P2_o RH3 _) rfl hs3⟩
        · skip
          have hd1 : 1 ≤ d := by
            rcases Nat.lt_or_ge d 1 with q | q
            · exact absurd (by rw [show d = 0 by omega]; decide) zc46
            · exact q
          refine xr_al0 dX8_takeJoin_49 ?_
          refine xr_ic1 dX8_takeJoin_50 ?_
          refine xr_Vpv1 (s_bringBack R 1 (by omega)) kX8_68 (by decide) (Nat.le_of_ble_eq_true rfl) (Nat.zero_add _) (Nat.zero_add _) dX8_takeJoin_51 (fun zh1 zq1 => ?_)
          have R2 := zq1
          have hb := bbk_len 1 sh ou
          refine xr_al0 dX8_takeJoin_54 ?_
          refine xr_Vpv0 (s_dropBracket R2 hd1 (by omega)) kX8_90 (by decide) (Nat.le_of_ble_eq_true rfl) (Nat.zero_add _) (Nat.zero_add _) dX8_takeJoin_55 (fun zh2 zq2 => ?_)
          have R3 := zq2
          obtain ⟨⟨t0, t1⟩, ⟨s3, RH3, hs3⟩, ⟨f3, g3, RU3, hf3⟩, hz3, hfr3⟩ := id R3
          obtain ⟨o0, o1⟩ := id RH3
          obtain ⟨r0, r1, r2⟩ := id RU3
          refine xr_goto (tgt := 124) dX8_takeJoin_58 (by decide) ?_
          refine xr_al0 dX8_takeJoin_124 ?_
          refine xr_dup dX8_takeJoin_125 rfl ?_
          refine xr_get o0 fX8_38 rfl dX8_takeJoin_126 ?_
          refine xr_ic1 dX8_takeJoin_129 ?_
          refine xr_iadd dX8_takeJoin_130 ?_
          refine xr_eqi (nI_1 p) ?_
          refine xr_put o0 fX8_38 (Nat.le_of_ble_eq_true rfl) rfl rfl dX8_takeJoin_131 ?_
          refine xT.nm (fun zh3 zg3 => ?_)
          have o0 := xg_eq zg3
          have o1 := xg_ne zg3 (by omega) o1
          have t0 := xg_ne zg3 (by omega) t0
          have t1 := xg_ne zg3 (by omega) t1
          have r0 := xg_ne zg3 (by omega) r0
          refine xr_ic1 dX8_takeJoin_134 ?_
          refine xr_zret dX8_takeJoin_135 rfl (by rfl) ?_
          refine ⟨_, rfl, ?_⟩
          unfold tkJ
          simp only [if_pos (show y = 41 ∧ 1 ≤ d from ⟨zc39, hd1⟩)]
          exact ⟨rfl, R3.rr (s' := s3) (by rw [zg3]; exact P2_o RH3 _) rfl hs3⟩
    · skip
      refine xr_ic1 dX8_takeJoin_30 ?_
      refine xr_goto (tgt := 35) dX8_takeJoin_31 (by decide) ?_
      refine xr_is3 dX8_takeJoin_35 (by decide) rfl ?_
      refine xr_il1 dX8_takeJoin_36 ?_
      refine xr_bipush (v := 41) dX8_takeJoin_37 (by decide) ?_
      refine xr_icmpne (tgt := 61) dX8_takeJoin_39 (by decide) (fun zc39 => ?_) (fun zc39 => ?_)
      · skip
        refine xr_il1 dX8_takeJoin_61 ?_
        refine xr_Si1 (s_joins _) kX8_93 (by decide) (Nat.le_of_ble_eq_true rfl) (Nat.zero_add _) (Nat.zero_add _) dX8_takeJoin_62 ?_
        refine xr_ifeq (tgt := 122) dX8_takeJoin_65 (by decide) (fun zc65 => ?_) (fun zc65 => ?_)
        · skip
          refine xr_ic0 dX8_takeJoin_122 ?_
          refine xr_zret dX8_takeJoin_123 rfl (by rfl) ?_
          refine ⟨_, rfl, ?_⟩
          unfold tkJ
          simp only [if_neg (fun q : y = 41 ∧ 1 ≤ d => zc39 q.1), if_neg (fun q : ¬ jn y = 0 ∧ ¬ (tg (0 - y) = 1 ∧ (c >>> (nI d &&& 31) &&& 1) = 1) => q.1 zc65)]
          exact ⟨rfl, R⟩
        · skip
          refine xr_il2 dX8_takeJoin_68 ?_
          refine xr_ifeq (tgt := 76) dX8_takeJoin_69 (by decide) (fun zc69 => ?_) (fun zc69 => ?_)
          · skip
            exact absurd zc69 (by decide)
          · skip
            refine xr_il3 dX8_takeJoin_72 ?_
            refine xr_ifne (tgt := 122) dX8_takeJoin_73 (by decide) (fun zc73 => ?_) (fun zc73 => ?_)
            · skip
              refine xr_ic0 dX8_takeJoin_122 ?_
              refine xr_zret dX8_takeJoin_123 rfl (by rfl) ?_
              refine ⟨_, rfl, ?_⟩
              unfold tkJ
              simp only [if_neg (fun q : y = 41 ∧ 1 ≤ d => zc39 q.1), if_neg (fun q : ¬ jn y = 0 ∧ ¬ (tg (0 - y) = 1 ∧ (c >>> (nI d &&& 31) &&& 1) = 1) => q.2 ⟨zc6, zc27⟩)]
              exact ⟨rfl, R⟩
            · skip
              exact absurd zc73 (by decide)
      · skip
        refine xr_al0 dX8_takeJoin_42 ?_
        refine xr_get o0 fX8_41 rfl dX8_takeJoin_43 ?_
        refine xr_ifle (tgt := 61) dX8_takeJoin_46 (by decide) (fun zc46 => ?_) (fun zc46 => ?_)
        · skip
          refine xr_il1 dX8_takeJoin_61 ?_
          refine xr_Si1 (s_joins _) kX8_93 (by decide) (Nat.le_of_ble_eq_true rfl) (Nat.zero_add _) (Nat.zero_add _) dX8_takeJoin_62 ?_
          refine xr_ifeq (tgt := 122) dX8_takeJoin_65 (by decide) (fun zc65 => ?_) (fun zc65 => ?_)
          · skip
            refine xr_ic0 dX8_takeJoin_122 ?_
            refine xr_zret dX8_takeJoin_123 rfl (by rfl) ?_
            refine ⟨_, rfl, ?_⟩
            unfold tkJ
            simp only [if_neg (fun q : y = 41 ∧ 1 ≤ d => absurd zc46 (nI_nle q.2 (by omega))), if_neg (fun q : ¬ jn y = 0 ∧ ¬ (tg (0 - y) = 1 ∧ (c >>> (nI d &&& 31) &&& 1) = 1) => q.1 zc65)]
            exact ⟨rfl, R⟩
          · skip
            refine xr_il2 dX8_takeJoin_68 ?_
            refine xr_ifeq (tgt := 76) dX8_takeJoin_69 (by decide) (fun zc69 => ?_) (fun zc69 => ?_)
            · skip
              exact absurd zc69 (by decide)
            · skip
              refine xr_il3 dX8_takeJoin_72 ?_
              refine xr_ifne (tgt := 122) dX8_takeJoin_73 (by decide) (fun zc73 => ?_) (fun zc73 => ?_)
              · skip
                refine xr_ic0 dX8_takeJoin_122 ?_
                refine xr_zret dX8_takeJoin_123 rfl (by rfl) ?_
                refine ⟨_, rfl, ?_⟩
                unfold tkJ
                simp only [if_neg (fun q : y = 41 ∧ 1 ≤ d => absurd zc46 (nI_nle q.2 (by omega))), if_neg (fun q : ¬ jn y = 0 ∧ ¬ (tg (0 - y) = 1 ∧ (c >>> (nI d &&& 31) &&& 1) = 1) => q.2 ⟨zc6, zc27⟩)]
                exact ⟨rfl, R⟩
              · skip
                exact absurd zc73 (by decide)
        · skip
          have hd1 : 1 ≤ d := by
            rcases Nat.lt_or_ge d 1 with q | q
            · exact absurd (by rw [show d = 0 by omega]; decide) zc46
            · exact q
          refine xr_al0 dX8_takeJoin_49 ?_
          refine xr_ic1 dX8_takeJoin_50 ?_
          refine xr_Vpv1 (s_bringBack R 1 (by omega)) kX8_68 (by decide) (Nat.le_of_ble_eq_true rfl) (Nat.zero_add _) (Nat.zero_add _) dX8_takeJoin_51 (fun zh1 zq1 => ?_)
          have R2 := zq1
          have hb := bbk_len 1 sh ou
          refine xr_al0 dX8_takeJoin_54 ?_
          refine xr_Vpv0 (s_dropBracket R2 hd1 (by omega)) kX8_90 (by decide) (Nat.le_of_ble_eq_true rfl) (Nat.zero_add _) (Nat.zero_add _) dX8_takeJoin_55 (fun zh2 zq2 => ?_)
          have R3 := zq2
          obtain ⟨⟨t0, t1⟩, ⟨s3, RH3, hs3⟩, ⟨f3, g3, RU3, hf3⟩, hz3, hfr3⟩ := id R3
          obtain ⟨o0, o1⟩ := id RH3
          obtain ⟨r0, r1, r2⟩ := id RU3
          refine xr_goto (tgt := 124) dX8_takeJoin_58 (by decide) ?_
          refine xr_al0 dX8_takeJoin_124 ?_
          refine xr_dup dX8_takeJoin_125 rfl ?_
          refine xr_get o0 fX8_38 rfl dX8_takeJoin_126 ?_
          refine xr_ic1 dX8_takeJoin_129 ?_
          refine xr_iadd dX8_takeJoin_130 ?_
          refine xr_eqi (nI_1 p) ?_
          refine xr_put o0 fX8_38 (Nat.le_of_ble_eq_true rfl) rfl rfl dX8_takeJoin_131 ?_
          refine xT.nm (fun zh3 zg3 => ?_)
          have o0 := xg_eq zg3
          have o1 := xg_ne zg3 (by omega) o1
          have t0 := xg_ne zg3 (by omega) t0
          have t1 := xg_ne zg3 (by omega) t1
          have r0 := xg_ne zg3 (by omega) r0
          refine xr_ic1 dX8_takeJoin_134 ?_
          refine xr_zret dX8_takeJoin_135 rfl (by rfl) ?_
          refine ⟨_, rfl, ?_⟩
          unfold tkJ
          simp only [if_pos (show y = 41 ∧ 1 ≤ d from ⟨zc39, hd1⟩)]
          exact ⟨rfl, R3.rr (s' := s3) (by rw [zg3]; exact P2_o RH3 _) rfl hs3⟩
def stp (x : Nat → Int32) (tn : Nat) (S : RS) : Option RS := if S.2.2.2.2.2 = 0 then tkJ (slAt x (nI tn) (nI S.2.2.1)) S else tkT x tn (slAt x (nI tn) (nI S.2.2.1)) S
/-- the loop over the signs: where it ends, and whether a sign could not stand there -/
def rdN (x : Nat → Int32) (tn : Nat) : Nat → RS → RS × Bool
  | 0, S => (S, true)
  | r + 1, S => if S.2.2.1 < min tn 40 then (match stp x tn S with
      | some T => rdN x tn r T
      | none => (S, false)) else (S, true)
def rS0 : RS := ([], [], 0, 0, 0, 1)
def RSok (S : RS) : Prop := S.1.length + S.2.1.length ≤ S.2.2.1 ∧ S.2.2.1 ≤ 40 ∧ S.2.2.2.1 ≤ 4
theorem nb_gt {x : Nat → Int32} {tn p : Nat} (r : Nat) (v : Int32) (hp : p < 40) (q : dg (slAt x (nI tn) (nI p))) : p < (nb x tn (r + 1) p v).1 := by
  unfold nb
  rw [if_pos ⟨hp, q⟩]
  exact (nb_le x tn r (p + 1) _ (by omega)).2
theorem tkT_ok {x : Nat → Int32} {tn : Nat} {y : Int32} {S T : RS} (h : RSok S) (hp : S.2.2.1 < 40) (hy : y = slAt x (nI tn) (nI S.2.2.1)) (e : tkT x tn y S = some T) : RSok T ∧ S.2.2.1 < T.2.2.1 := by
  obtain ⟨sh, ou, p, d, c, u⟩ := S
  obtain ⟨h1, h2, h3⟩ := h
  dsimp only at h1 h2 h3 hp hy
  unfold tkT at e
  dsimp only at e
  have hnb := nb_le x tn 3 p 0 (by omega)
  split at e
  · rename_i q
    rw [hy] at q
    have hgt : p < (nb x tn 3 p 0).1 := nb_gt 2 0 hp q
    cases e
    exact ⟨⟨by show sh.length + (ou.length + 1) ≤ (nb x tn 3 p 0).1; omega, hnb.1, h3⟩, hgt⟩
  · split at e
    · cases e
      exact ⟨⟨by show sh.length + (ou.length + 1) ≤ p + 1; omega, by show p + 1 ≤ 40; omega, h3⟩, by show p < p + 1; omega⟩
    · split at e
      · cases e
        exact ⟨⟨by show (sh.length + 1) + ou.length ≤ p + 1; omega, by show p + 1 ≤ 40; omega, h3⟩, by show p < p + 1; omega⟩
      · split at e
        · rename_i q
          cases e
          exact ⟨⟨by show (sh.length + 1) + ou.length ≤ p + 1; omega, by show p + 1 ≤ 40; omega, by show d + 1 ≤ 4; omega⟩, by show p < p + 1; omega⟩
        · cases e
theorem tkJ_ok {y : Int32} {S T : RS} (h : RSok S) (hp : S.2.2.1 < 40) (e : tkJ y S = some T) : RSok T ∧ S.2.2.1 < T.2.2.1 := by
  obtain ⟨sh, ou, p, d, c, u⟩ := S
  obtain ⟨h1, h2, h3⟩ := h
  dsimp only at h1 h2 h3 hp
  unfold tkJ at e
  dsimp only at e
  have b1 := bbk_len 1 sh ou
  have b2 := bbk_len (tg (0 - y)) sh ou
  split at e
  · cases e
    refine ⟨⟨?_, by show p + 1 ≤ 40; omega, by show d - 1 ≤ 4; omega⟩, by show p < p + 1; omega⟩
    show (bbk 1 sh ou).1.tail.length + (bbk 1 sh ou).2.length ≤ p + 1
    rw [List.length_tail]
    omega
  · split at e
    · cases e
      exact ⟨⟨by show ((bbk (tg (0 - y)) sh ou).1.length + 1) + (bbk (tg (0 - y)) sh ou).2.length ≤ p + 1; omega, by show p + 1 ≤ 40; omega, h3⟩, by show p < p + 1; omega⟩
    · cases e
theorem stp_ok {x : Nat → Int32} {tn : Nat} {S T : RS} (h : RSok S) (hp : S.2.2.1 < 40) (e : stp x tn S = some T) : RSok T ∧ S.2.2.1 < T.2.2.1 := by
  unfold stp at e
  split at e
  · exact tkJ_ok h hp e
  · exact tkT_ok h hp rfl e
def rdF (tn : Nat) (Z : RS × Bool) : Int32 × List Int32 := if Z.2 = false then (nI Z.1.2.2.1, Z.1.2.1) else if ¬ Z.1.2.2.2.2.2 = 0 ∨ 1 ≤ Z.1.2.2.2.1 ∨ 40 < tn then (nI (min tn 40), Z.1.2.1) else (-1, (bbk 1 Z.1.1 Z.1.2.1).2)
def rdV (x : Nat → Int32) (tn : Nat) : Int32 × List Int32 := if tn = 0 then (-1, []) else rdF tn (rdN x tn 40 rS0)
def xRe (K : xK) (h0 g : xH) (X : Nat) (x : Nat → Int32) (tn : Nat) (Z : Int32 × List Int32) (v : Int32) : Prop := v = Z.1 ∧ ∃ (sh : List Int32) (p d : Nat) (c u : Int32), xRd K h0 g X x tn sh Z.2 p d c u
theorem iMin_40 (tn : Nat) (h : tn < 2 ^ 31) : iMin (nI tn) 40 = nI (min tn 40) := by
  unfold iMin
  by_cases q : 40 < tn
  · rw [if_pos (show (40 : Int32) < nI tn from nI_lt (a := 40) q h), Nat.min_eq_right (by omega)]
    rfl
  · rw [if_neg (show ¬ (40 : Int32) < nI tn from nI_nlt (b := tn) (a := 40) (by omega) (by decide)), Nat.min_eq_left (by omega)]
set_option maxRecDepth 20000 in
theorem lp_readTail {K : xK} {B : Nat} {l : Launch} {h0 : xH} {X : Nat} {x : Nat → Int32} {tn : Nat} (ht : tn ≤ 80) {h : xH} (S : RS) (R0 : xRS K h0 h X x tn S) (ok : RSok S) (i : Nat) (y3 : Option Value) : xT K B l 3 RX8 false cX8_read 4 (some .int) 0 0 0 0 (xPi (fun v g => xRe K h0 g X x tn (rdF tn (S, true)) v)) 129 [some (.ref (X + 23)), some (.int (nI (min tn 40))), some (.int (nI i)), y3] [] h := by
    obtain ⟨sh, ou, p, d, c, u⟩ := S
    obtain ⟨k1, k2, k3⟩ := ok
    dsimp only at k1 k2 k3
    have R : xRd K h0 h X x tn sh ou p d c u := R0
    obtain ⟨⟨t0, t1⟩, ⟨s, RH, hs⟩, ⟨f, g, RU, hf⟩, hz, hfr⟩ := id R
    obtain ⟨o0, o1⟩ := id RH
    obtain ⟨r0, r1, r2⟩ := id RU
    refine xr_al0 dX8_read_129 ?_
    refine xr_get o0 fX8_47 rfl dX8_read_130 ?_
    refine xr_ifne (tgt := 154) dX8_read_133 (by decide) (fun zc133 => ?_) (fun zc133 => ?_)
    · skip
      refine xr_il1 dX8_read_154 ?_
      refine xr_iret dX8_read_155 rfl ?_
      refine ⟨_, rfl, ?_⟩
      unfold rdF
      rw [if_neg (fun q => nomatch q), if_pos (Or.inl zc133)]
      exact ⟨rfl, _, _, _, _, _, R⟩
    · skip
      refine xr_al0 dX8_read_136 ?_
      refine xr_get o0 fX8_41 rfl dX8_read_137 ?_
      refine xr_ifgt (tgt := 154) dX8_read_140 (by decide) (fun zc140 => ?_) (fun zc140 => ?_)
      · skip
        have hd1 : 1 ≤ d := by
          rcases Nat.lt_or_ge d 1 with q | q
          · exact absurd zc140 (by rw [show d = 0 by omega]; decide)
          · exact q
        refine xr_il1 dX8_read_154 ?_
        refine xr_iret dX8_read_155 rfl ?_
        refine ⟨_, rfl, ?_⟩
        unfold rdF
        rw [if_neg (fun q => nomatch q), if_pos (Or.inr (Or.inl hd1))]
        exact ⟨rfl, _, _, _, _, _, R⟩
      · skip
        have hd0 : ¬ 1 ≤ d := fun q => zc140 (by rw [Int32.lt_iff_toInt_lt, Int32.toInt_zero, nI_toInt (by omega)]; omega)
        refine xr_al0 dX8_read_143 ?_
        refine xr_get o0 fX8_17 rfl dX8_read_144 ?_
        refine xr_Vi0 (s_slLength ⟨t0, t1⟩) kX8_28 (by decide) (Nat.le_of_ble_eq_true rfl) (Nat.zero_add _) (Nat.zero_add _) dX8_read_147 ?_
        refine xr_il1 dX8_read_150 ?_
        refine xr_icmple (tgt := 156) dX8_read_151 (by decide) (fun zc151 => ?_) (fun zc151 => ?_)
        · skip
          have hle : ¬ 40 < tn := fun q => by
            have := (nI_leI (by omega) (by omega)).mp zc151
            omega
          have hno : ¬ (¬ u = 0 ∨ 1 ≤ d ∨ 40 < tn) := fun q => q.elim (fun z => z zc133) (fun z => z.elim hd0 hle)
          refine xr_al0 dX8_read_156 ?_
          refine xr_ic1 dX8_read_157 ?_
          refine xr_Vpv1 (s_bringBack R 1 (by omega)) kX8_68 (by decide) (Nat.le_of_ble_eq_true rfl) (Nat.zero_add _) (Nat.zero_add _) dX8_read_158 (fun zh1 zq1 => ?_)
          skip
          refine xr_icm1 dX8_read_161 ?_
          refine xr_iret dX8_read_162 rfl ?_
          refine ⟨_, rfl, ?_⟩
          unfold rdF
          rw [if_neg (fun q => nomatch q), if_neg hno]
          exact ⟨rfl, _, _, _, _, _, zq1⟩
        · skip
          have hlt : 40 < tn := by
            rcases Nat.lt_or_ge 40 tn with q | q
            · exact q
            · exact absurd (nI_le (by omega) (by omega)) zc151
          refine xr_il1 dX8_read_154 ?_
          refine xr_iret dX8_read_155 rfl ?_
          refine ⟨_, rfl, ?_⟩
          unfold rdF
          rw [if_neg (fun q => nomatch q), if_pos (Or.inr (Or.inr hlt))]
          exact ⟨rfl, _, _, _, _, _, R⟩
set_option maxRecDepth 20000 in
theorem lp_read {K : xK} {B : Nat} {l : Launch} {h0 : xH} {X : Nat} {x : Nat → Int32} {tn : Nat} (ht : tn ≤ 80) (r : Nat) : ∀ {h : xH} (S : RS) (R0 : xRS K h0 h X x tn S) (ok : RSok S) (i : Nat) (y3 : Option Value), i + r = 40 → i ≤ S.2.2.1 → xT K B l 3 RX8 false cX8_read 4 (some .int) 0 0 0 0 (xPi (fun v g => xRe K h0 g X x tn (rdF tn (rdN x tn r S)) v)) 59 [some (.ref (X + 23)), some (.int (nI (min tn 40))), some (.int (nI i)), y3] [] h := by
  induction r with
  | zero =>
    intro h S R0 ok i y3 h1 h2
    obtain ⟨sh, ou, p, d, c, u⟩ := S
    obtain ⟨k1, k2, k3⟩ := ok
    dsimp only at k1 k2 k3
    have R : xRd K h0 h X x tn sh ou p d c u := R0
    obtain ⟨⟨t0, t1⟩, ⟨s, RH, hs⟩, ⟨f, g, RU, hf⟩, hz, hfr⟩ := id R
    obtain ⟨o0, o1⟩ := id RH
    obtain ⟨r0, r1, r2⟩ := id RU
    refine xr_il2 dX8_read_59 ?_
    refine xr_bipush (v := 40) dX8_read_60 (by decide) ?_
    refine xr_icmpge (tgt := 129) dX8_read_62 (by decide) (fun zc62 => ?_) (fun zc62 => ?_)
    · skip
      exact lp_readTail ht (sh, ou, p, d, c, u) R ⟨k1, k2, k3⟩ i y3
    · skip
      exact absurd (nI_le (a := 40) (by omega) (by omega)) zc62
  | succ r ih =>
    intro h S R0 ok i y3 h1 h2
    obtain ⟨sh, ou, p, d, c, u⟩ := S
    obtain ⟨k1, k2, k3⟩ := ok
    dsimp only at k1 k2 k3
    have R : xRd K h0 h X x tn sh ou p d c u := R0
    obtain ⟨⟨t0, t1⟩, ⟨s, RH, hs⟩, ⟨f, g, RU, hf⟩, hz, hfr⟩ := id R
    obtain ⟨o0, o1⟩ := id RH
    obtain ⟨r0, r1, r2⟩ := id RU
    dsimp only at h2
    refine xr_il2 dX8_read_59 ?_
    refine xr_bipush (v := 40) dX8_read_60 (by decide) ?_
    refine xr_icmpge (tgt := 129) dX8_read_62 (by decide) (fun zc62 => ?_) (fun zc62 => ?_)
    · skip
      exact absurd zc62 (nI_ge (b := 40) (by omega) (by decide))
    · skip
      refine xr_al0 dX8_read_65 ?_
      refine xr_get o0 fX8_38 rfl dX8_read_66 ?_
      refine xr_il1 dX8_read_69 ?_
      refine xr_icmpge (tgt := 129) dX8_read_70 (by decide) (fun zc70 => ?_) (fun zc70 => ?_)
      · skip
        have hlim : ¬ p < min tn 40 := fun q => absurd zc70 (nI_ge q (by omega))
        have hu : rdN x tn (r + 1) (sh, ou, p, d, c, u) = ((sh, ou, p, d, c, u), true) := if_neg hlim
        rw [hu]
        exact lp_readTail ht (sh, ou, p, d, c, u) R ⟨k1, k2, k3⟩ i y3
      · skip
        have hlim : p < min tn 40 := by
          rcases Nat.lt_or_ge p (min tn 40) with q | q
          · exact q
          · exact absurd (nI_le q (by omega)) zc70
        refine xr_al0 dX8_read_73 ?_
        refine xr_get o0 fX8_47 rfl dX8_read_74 ?_
        refine xr_ifeq (tgt := 98) dX8_read_77 (by decide) (fun zc77 => ?_) (fun zc77 => ?_)
        · skip
          refine xr_al0 dX8_read_98 ?_
          refine xr_al0 dX8_read_99 ?_
          refine xr_get o0 fX8_17 rfl dX8_read_100 ?_
          refine xr_al0 dX8_read_103 ?_
          refine xr_get o0 fX8_38 rfl dX8_read_104 ?_
          refine xr_Vi1 (s_slAt ⟨t0, t1⟩ _) kX8_57 (by decide) (Nat.le_of_ble_eq_true rfl) (Nat.zero_add _) (Nat.zero_add _) dX8_read_107 ?_
          refine xr_Vpi1 (s_takeJoin R (by omega) (by omega) (by omega) _) kX8_65 (by decide) (Nat.le_of_ble_eq_true rfl) (Nat.zero_add _) (Nat.zero_add _) dX8_read_110 (fun zv110 zh1 zq1 => ?_)
          have hq := zq1
          refine xr_is3 dX8_read_113 (by decide) rfl ?_
          have hst : stp x tn (sh, ou, p, d, c, u) = tkJ (slAt x (nI tn) (nI p)) (sh, ou, p, d, c, u) := by
            unfold stp
            rw [if_pos zc77]
          have hu : rdN x tn (r + 1) (sh, ou, p, d, c, u) = (match stp x tn (sh, ou, p, d, c, u) with
              | some T => rdN x tn r T
              | none => ((sh, ou, p, d, c, u), false)) := if_pos hlim
          rw [hu, hst]
          generalize tkJ (slAt x (nI tn) (nI p)) (sh, ou, p, d, c, u) = o at hq hst ⊢
          cases o with
          | none =>
            obtain ⟨hv, hR⟩ := hq
            subst hv
            obtain ⟨⟨t0, t1⟩, ⟨s2, RH2, hs2⟩, -, hz2, hfr2⟩ := id hR
            obtain ⟨o0, o1⟩ := id RH2
            refine xr_il3 dX8_read_114 ?_
            refine xr_ifne (tgt := 123) dX8_read_115 (by decide) (fun zc115 => ?_) (fun zc115 => ?_)
            · exact absurd rfl zc115
            · refine xr_al0 dX8_read_118 ?_
              refine xr_get o0 fX8_38 rfl dX8_read_119 ?_
              refine xr_iret dX8_read_122 rfl ?_
              exact ⟨_, rfl, rfl, _, _, _, _, _, hR⟩
          | some T =>
            obtain ⟨hv, hR⟩ := hq
            subst hv
            obtain ⟨okT, hpT⟩ := stp_ok (S := (sh, ou, p, d, c, u)) ⟨k1, k2, k3⟩ (by show p < 40; omega) hst
            refine xr_il3 dX8_read_114 ?_
            refine xr_ifne (tgt := 123) dX8_read_115 (by decide) (fun zc115 => ?_) (fun zc115 => ?_)
            · refine xr_inc2 dX8_read_123 (nI_inc i) (by decide) rfl ?_
              refine xr_goto (tgt := 59) dX8_read_126 (by decide) ?_
              exact ih T hR okT (i + 1) _ (by omega) (by have : p < T.2.2.1 := hpT; omega)
            · exact absurd zc115 (by decide)
        · skip
          refine xr_al0 dX8_read_80 ?_
          refine xr_al0 dX8_read_81 ?_
          refine xr_get o0 fX8_17 rfl dX8_read_82 ?_
          refine xr_al0 dX8_read_85 ?_
          refine xr_get o0 fX8_38 rfl dX8_read_86 ?_
          refine xr_Vi1 (s_slAt ⟨t0, t1⟩ _) kX8_57 (by decide) (Nat.le_of_ble_eq_true rfl) (Nat.zero_add _) (Nat.zero_add _) dX8_read_89 ?_
          refine xr_Vpi1 (s_takeThing R (by omega) (by omega) (by omega) _) kX8_61 (by decide) (Nat.le_of_ble_eq_true rfl) (Nat.zero_add _) (Nat.zero_add _) dX8_read_92 (fun zv92 zh1 zq1 => ?_)
          have hq := zq1
          refine xr_goto (tgt := 113) dX8_read_95 (by decide) ?_
          refine xr_is3 dX8_read_113 (by decide) rfl ?_
          have hst : stp x tn (sh, ou, p, d, c, u) = tkT x tn (slAt x (nI tn) (nI p)) (sh, ou, p, d, c, u) := by
            unfold stp
            rw [if_neg zc77]
          have hu : rdN x tn (r + 1) (sh, ou, p, d, c, u) = (match stp x tn (sh, ou, p, d, c, u) with
              | some T => rdN x tn r T
              | none => ((sh, ou, p, d, c, u), false)) := if_pos hlim
          rw [hu, hst]
          generalize tkT x tn (slAt x (nI tn) (nI p)) (sh, ou, p, d, c, u) = o at hq hst ⊢
          cases o with
          | none =>
            obtain ⟨hv, hR⟩ := hq
            subst hv
            obtain ⟨⟨t0, t1⟩, ⟨s2, RH2, hs2⟩, -, hz2, hfr2⟩ := id hR
            obtain ⟨o0, o1⟩ := id RH2
            refine xr_il3 dX8_read_114 ?_
            refine xr_ifne (tgt := 123) dX8_read_115 (by decide) (fun zc115 => ?_) (fun zc115 => ?_)
            · exact absurd rfl zc115
            · refine xr_al0 dX8_read_118 ?_
              refine xr_get o0 fX8_38 rfl dX8_read_119 ?_
              refine xr_iret dX8_read_122 rfl ?_
              exact ⟨_, rfl, rfl, _, _, _, _, _, hR⟩
          | some T =>
            obtain ⟨hv, hR⟩ := hq
            subst hv
            obtain ⟨okT, hpT⟩ := stp_ok (S := (sh, ou, p, d, c, u)) ⟨k1, k2, k3⟩ (by show p < 40; omega) hst
            refine xr_il3 dX8_read_114 ?_
            refine xr_ifne (tgt := 123) dX8_read_115 (by decide) (fun zc115 => ?_) (fun zc115 => ?_)
            · refine xr_inc2 dX8_read_123 (nI_inc i) (by decide) rfl ?_
              refine xr_goto (tgt := 59) dX8_read_126 (by decide) ?_
              exact ih T hR okT (i + 1) _ (by omega) (by have : p < T.2.2.1 := hpT; omega)
            · exact absurd zc115 (by decide)
set_option maxRecDepth 20000 in
theorem s_read {K : xK} {B : Nat} {l : Launch} {h0 h : xH} {X : Nat} {x : Nat → Int32} {tn : Nat} {sh ou : List Int32} {p d : Nat} {c u : Int32} (R : xRd K h0 h X x tn sh ou p d c u) (ht : tn ≤ 80) : xV K B l 3 mX8_read 0 0 (X + 23) [] h (xPi (fun v g => xRe K h0 g X x tn (rdV x tn) v)) := by
  obtain ⟨⟨t0, t1⟩, ⟨s, RH, hs⟩, ⟨f, g, RU, hf⟩, hz, hfr⟩ := id R
  obtain ⟨o0, o1⟩ := id RH
  obtain ⟨r0, r1, r2⟩ := id RU
  refine ⟨⟨_, _, _, _, R.2.1.choose_spec.1.1, rfl⟩, qX8_read, ?_⟩
  refine xS.intro RX8 false ⟨rfl, rfl, by decide, by decide, Nat.le_of_ble_eq_true rfl⟩ (ls := [some (.ref (X + 23)), none, none, none]) rfl ?_
  refine xr_al0 dX8_read_0 ?_
  refine xr_get o0 fX8_21 rfl dX8_read_1 ?_
  refine xr_Vv0 (s_ruClear RU) kX8_25 (by decide) (Nat.le_of_ble_eq_true rfl) (Nat.zero_add _) (Nat.zero_add _) dX8_read_4 ?_
  have R1 : xRd K h0 _ X x tn sh [] p d c u := R.ru (f' := f) (g' := g) rfl trivial
  obtain ⟨⟨t0, t1⟩, ⟨s1, RH1, hs1⟩, ⟨f1, g1, RU1, hf1⟩, hz1, hfr1⟩ := id R1
  obtain ⟨o0, o1⟩ := id RH1
  obtain ⟨r0, r1, r2⟩ := id RU1
  refine xr_al0 dX8_read_7 ?_
  refine xr_get o0 fX8_17 rfl dX8_read_8 ?_
  refine xr_Vi0 (s_slLength ⟨t0, t1⟩) kX8_28 (by decide) (Nat.le_of_ble_eq_true rfl) (Nat.zero_add _) (Nat.zero_add _) dX8_read_11 ?_
  refine xr_ifne (tgt := 19) dX8_read_14 (by decide) (fun zc14 => ?_) (fun zc14 => ?_)
  · skip
    have h0n : ¬ tn = 0 := fun q => zc14 (by rw [q]; rfl)
    refine xr_al0 dX8_read_19 ?_
    refine xr_ic0 dX8_read_20 ?_
    refine xr_put o0 fX8_34 (Nat.le_of_ble_eq_true rfl) rfl rfl dX8_read_21 ?_
    refine xT.nm (fun zh1 zg1 => ?_)
    have o0 := xg_eq zg1
    have o1 := xg_ne zg1 (by omega) o1
    have t0 := xg_ne zg1 (by omega) t0
    have t1 := xg_ne zg1 (by omega) t1
    have r0 := xg_ne zg1 (by omega) r0
    refine xr_al0 dX8_read_24 ?_
    refine xr_ic0 dX8_read_25 ?_
    refine xr_put o0 fX8_38 (Nat.le_of_ble_eq_true rfl) rfl rfl dX8_read_26 ?_
    refine xT.nm (fun zh2 zg2 => ?_)
    have o0 := xg_eq zg2
    have o1 := xg_ne zg2 (by omega) o1
    have t0 := xg_ne zg2 (by omega) t0
    have t1 := xg_ne zg2 (by omega) t1
    have r0 := xg_ne zg2 (by omega) r0
    refine xr_al0 dX8_read_29 ?_
    refine xr_ic0 dX8_read_30 ?_
    refine xr_put o0 fX8_41 (Nat.le_of_ble_eq_true rfl) rfl rfl dX8_read_31 ?_
    refine xT.nm (fun zh3 zg3 => ?_)
    have o0 := xg_eq zg3
    have o1 := xg_ne zg3 (by omega) o1
    have t0 := xg_ne zg3 (by omega) t0
    have t1 := xg_ne zg3 (by omega) t1
    have r0 := xg_ne zg3 (by omega) r0
    refine xr_al0 dX8_read_34 ?_
    refine xr_ic0 dX8_read_35 ?_
    refine xr_put o0 fX8_44 (Nat.le_of_ble_eq_true rfl) rfl rfl dX8_read_36 ?_
    refine xT.nm (fun zh4 zg4 => ?_)
    have o0 := xg_eq zg4
    have o1 := xg_ne zg4 (by omega) o1
    have t0 := xg_ne zg4 (by omega) t0
    have t1 := xg_ne zg4 (by omega) t1
    have r0 := xg_ne zg4 (by omega) r0
    refine xr_al0 dX8_read_39 ?_
    refine xr_ic1 dX8_read_40 ?_
    refine xr_put o0 fX8_47 (Nat.le_of_ble_eq_true rfl) rfl rfl dX8_read_41 ?_
    refine xT.nm (fun zh5 zg5 => ?_)
    have o0 := xg_eq zg5
    have o1 := xg_ne zg5 (by omega) o1
    have t0 := xg_ne zg5 (by omega) t0
    have t1 := xg_ne zg5 (by omega) t1
    have r0 := xg_ne zg5 (by omega) r0
    refine xr_al0 dX8_read_44 ?_
    refine xr_get o0 fX8_17 rfl dX8_read_45 ?_
    refine xr_Vi0 (s_slLength ⟨t0, t1⟩) kX8_28 (by decide) (Nat.le_of_ble_eq_true rfl) (Nat.zero_add _) (Nat.zero_add _) dX8_read_48 ?_
    refine xr_bipush (v := 40) dX8_read_51 (by decide) ?_
    refine xr_min kmX8_51 ms_min wz_J9 mc_min (by decide) (Nat.le_of_ble_eq_true rfl) dX8_read_53 ?_
    refine xr_eqi (iMin_40 tn (by omega)) ?_
    refine xr_is1 dX8_read_56 (by decide) rfl ?_
    refine xr_ic0 dX8_read_57 ?_
    refine xr_is2 dX8_read_58 (by decide) rfl ?_
    have R2 : xRd K h0 zh5 X x tn [] [] 0 0 0 1 := R1.rr (s' := s1) (sh' := []) (by rw [zg5, zg4, zg3, zg2, zg1, xup_xup, xup_xup, xup_xup, xup_xup]; exact P2_o RH1 _) rfl trivial
    unfold rdV
    rw [if_neg h0n]
    exact lp_read ht 40 rS0 R2 ⟨by decide, by decide, by decide⟩ 0 none rfl (Nat.le_refl _)
  · skip
    have h0n : tn = 0 := (nI_eq (by omega) (by decide)).mp zc14
    refine xr_icm1 dX8_read_17 ?_
    refine xr_iret dX8_read_18 rfl ?_
    exact ⟨_, rfl, by unfold rdV; rw [if_pos h0n], _, _, _, _, _, by unfold rdV; rw [if_pos h0n]; exact R1⟩
