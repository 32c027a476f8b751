/-! day, keep, again (written by wip/whole/car14.py) -/
theorem daN_0 (φ : xs → Int32) (tf : Nat → Int32) (tn : Nat) (p a : Int32) (z : xs × Int32 × (Nat → Int64)) : daN φ tf tn 0 p a z = (a, 0, z.1) := by rw [daN]
set_option maxRecDepth 20000 in
theorem lp_day {K : xK} {B : Nat} {l : Launch} {h0 : xH} {X D : Nat} {tn : Nat} {tf : Nat → Int32} {β : xs} {γ : xs} {pn : Nat} {τ : Nat → xs} {ks : Nat → Bool} {κ : Nat → xs} {φ : xs → Int32} {hn : Nat} {hf : Nat → Int32} {hg : Nat → Int32} {wn : Nat} {wf : Nat → Int32} {wg : Nat → Int32} (okb : hOk β) (bd : Int32) : ∀ (r : Nat) (p a : Int32) (i : Nat) {h : xH} {rk : Int32} {rv : Nat → Int64} {σ : xs} (W : xCw K h0 h X D tn tf rk rv σ β γ pn τ ks κ φ hn hf hg wn wf wg), i + r = 60 → xT K B l 6 RX11 false cX11_day 6 (some .int) 3 21 3 21 (xPi (fun zr g => zr = (daN φ tf tn r p a (σ, rk, rv)).1 ∧ ∃ rw', xCw K h0 g X D 0 tf 2 (daV rw' (daN φ tf tn r p a (σ, rk, rv)).2.1 ((daN φ tf tn r p a (σ, rk, rv)).2.2 14)) ((daN φ tf tn r p a (σ, rk, rv)).2.2) β γ (if (daN φ tf tn r p a (σ, rk, rv)).1 ≤ 0 then pn else psn pn) (if (daN φ tf tn r p a (σ, rk, rv)).1 ≤ 0 then τ else psh pn τ β) ks κ φ hn hf hg wn wf wg)) 42 [some (.ref X), some (.int bd), some (.int a), some (.int 0), some (.int p), some (.int (nI i))] [] h := by
  intro r
  induction r with
  | zero =>
    intro p a i h rk rv σ W hk
    refine xr_il5 dX11_day_42 ?_
    refine xr_bipush (v := 60) dX11_day_44 (by decide) ?_
    refine xr_icmpge (tgt := 117) dX11_day_46 (by decide) (fun zc46 => ?_) (fun zc46 => ?_)
    · skip
      rw [daN_0]
      exact lp_dayE W okb bd a 0 _ _
    · skip
      exact absurd (nI_le (a := 60) (by omega) (by omega)) zc46
  | succ r ih =>
    intro p a i h rk rv σ W hk
    refine xr_il5 dX11_day_42 ?_
    refine xr_bipush (v := 60) dX11_day_44 (by decide) ?_
    refine xr_icmpge (tgt := 117) dX11_day_46 (by decide) (fun zc46 => ?_) (fun zc46 => ?_)
    · skip
      exact absurd zc46 (nI_ge (b := 60) (by omega) (by decide))
    · skip
      refine xr_il4 dX11_day_49 ?_
      refine xr_al0 dX11_day_51 ?_
      refine xr_get W.oX fX11_12 rfl dX11_day_52 ?_
      refine xr_Vi0 (s_slLength W.Ht) kX11_107 (by decide) (Nat.le_of_ble_eq_true rfl) (Nat.zero_add _) (Nat.zero_add _) dX11_day_55 ?_
      refine xr_icmpge (tgt := 117) dX11_day_58 (by decide) (fun zc58 => ?_) (fun zc58 => ?_)
      · skip
        rw [daN_s, if_pos zc58]
        exact lp_dayE W okb bd a 0 _ _
      · skip
        refine xr_il3 dX11_day_61 ?_
        refine xr_ifne (tgt := 117) dX11_day_62 (by decide) (fun zc62 => ?_) (fun zc62 => ?_)
        · skip
          exact absurd rfl zc62
        · skip
          refine xr_al0 dX11_day_65 ?_
          refine xr_il4 dX11_day_66 ?_
          refine xr_Vpi1 (s_act W _) kX11_268 (by decide) (Nat.le_of_ble_eq_true rfl) (Nat.zero_add _) (Nat.zero_add _) dX11_day_68 (fun zv68 zh1 zq1 => ?_)
          obtain ⟨rfl, W⟩ := zq1
          refine xr_ifge (tgt := 78) dX11_day_71 (by decide) (fun zc71 => ?_) (fun zc71 => ?_)
          · skip
            refine xr_ic0 dX11_day_78 ?_
            refine xr_is3 dX11_day_79 (by decide) rfl ?_
            refine xr_il2 dX11_day_80 ?_
            refine xr_il3 dX11_day_81 ?_
            refine xr_ifeq (tgt := 89) dX11_day_82 (by decide) (fun zc82 => ?_) (fun zc82 => ?_)
            · skip
              refine xr_ic1 dX11_day_89 ?_
              refine xr_iadd dX11_day_90 ?_
              
              refine xr_is2 dX11_day_91 (by decide) rfl ?_
              refine xr_il4 dX11_day_92 ?_
              refine xr_ic1 dX11_day_94 ?_
              refine xr_al0 dX11_day_95 ?_
              refine xr_get W.oX fX11_12 rfl dX11_day_96 ?_
              refine xr_il4 dX11_day_99 ?_
              refine xr_Vi1 (s_slAt W.Ht _) kX11_135 (by decide) (Nat.le_of_ble_eq_true rfl) (Nat.zero_add _) (Nat.zero_add _) dX11_day_101 ?_
              refine xr_Si1 (s_digitsBehind _) kX11_271 (by decide) (Nat.le_of_ble_eq_true rfl) (Nat.zero_add _) (Nat.zero_add _) dX11_day_104 ?_
              refine xr_iadd dX11_day_107 ?_
              refine xr_iadd dX11_day_108 ?_
              refine xr_is4 dX11_day_109 (by decide) rfl ?_
              refine xr_inc5 dX11_day_111 (nI_inc i) (by decide) rfl ?_
              refine xr_goto (tgt := 42) dX11_day_114 (by decide) ?_
              rw [daN_s, if_neg zc58, if_neg (Int32.not_lt.mpr zc71)]
              exact ih _ _ (i + 1) W (by omega)
            · skip
              exact absurd rfl zc82
          · skip
            refine xr_ic1 dX11_day_74 ?_
            refine xr_goto (tgt := 79) dX11_day_75 (by decide) ?_
            refine xr_is3 dX11_day_79 (by decide) rfl ?_
            refine xr_il2 dX11_day_80 ?_
            refine xr_il3 dX11_day_81 ?_
            refine xr_ifeq (tgt := 89) dX11_day_82 (by decide) (fun zc82 => ?_) (fun zc82 => ?_)
            · skip
              exact absurd zc82 (by decide)
            · skip
              refine xr_ic0 dX11_day_85 ?_
              refine xr_goto (tgt := 90) dX11_day_86 (by decide) ?_
              refine xr_iadd dX11_day_90 ?_
              refine xr_eqi (y := a) (Int32.add_zero a) ?_
              refine xr_is2 dX11_day_91 (by decide) rfl ?_
              refine xr_il4 dX11_day_92 ?_
              refine xr_ic1 dX11_day_94 ?_
              refine xr_al0 dX11_day_95 ?_
              refine xr_get W.oX fX11_12 rfl dX11_day_96 ?_
              refine xr_il4 dX11_day_99 ?_
              refine xr_Vi1 (s_slAt W.Ht _) kX11_135 (by decide) (Nat.le_of_ble_eq_true rfl) (Nat.zero_add _) (Nat.zero_add _) dX11_day_101 ?_
              refine xr_Si1 (s_digitsBehind _) kX11_271 (by decide) (Nat.le_of_ble_eq_true rfl) (Nat.zero_add _) (Nat.zero_add _) dX11_day_104 ?_
              refine xr_iadd dX11_day_107 ?_
              refine xr_iadd dX11_day_108 ?_
              refine xr_is4 dX11_day_109 (by decide) rfl ?_
              refine xr_inc5 dX11_day_111 (nI_inc i) (by decide) rfl ?_
              refine xr_goto (tgt := 42) dX11_day_114 (by decide) ?_
              rw [daN_s, if_neg zc58, if_pos (Int32.not_le.mp zc71)]
              refine xr_il5 dX11_day_42 ?_
              refine xr_bipush (v := 60) dX11_day_44 (by decide) ?_
              refine xr_icmpge (tgt := 117) dX11_day_46 (by decide) (fun zd46 => ?_) (fun zd46 => ?_)
              · skip
                exact lp_dayE W okb bd a 1 _ _
              · skip
                refine xr_il4 dX11_day_49 ?_
                refine xr_al0 dX11_day_51 ?_
                refine xr_get W.oX fX11_12 rfl dX11_day_52 ?_
                refine xr_Vi0 (s_slLength W.Ht) kX11_107 (by decide) (Nat.le_of_ble_eq_true rfl) (Nat.zero_add _) (Nat.zero_add _) dX11_day_55 ?_
                refine xr_icmpge (tgt := 117) dX11_day_58 (by decide) (fun zd58 => ?_) (fun zd58 => ?_)
                · skip
                  exact lp_dayE W okb bd a 1 _ _
                · skip
                  refine xr_il3 dX11_day_61 ?_
                  refine xr_ifne (tgt := 117) dX11_day_62 (by decide) (fun zd62 => ?_) (fun zd62 => ?_)
                  · skip
                    exact lp_dayE W okb bd a 1 _ _
                  · skip
                    exact absurd zd62 (by decide)
set_option maxRecDepth 20000 in
theorem s_day {K : xK} {B : Nat} {l : Launch} {h0 h : xH} {X D : Nat} {tn : Nat} {tf : Nat → Int32} {rk : Int32} {rv : Nat → Int64} {σ : xs} {β : xs} {γ : xs} {pn : Nat} {τ : Nat → xs} {ks : Nat → Bool} {κ : Nat → xs} {φ : xs → Int32} {hn : Nat} {hf : Nat → Int32} {hg : Nat → Int32} {wn : Nat} {wf : Nat → Int32} {wg : Nat → Int32} (W : xCw K h0 h X D tn tf rk rv σ β γ pn τ ks κ φ hn hf hg wn wf wg) : xV K B l 6 mX11_day 3 21 (X) [] h (xPi (fun zr g => (¬ fdO tf tn 60 0 = -1 ∧ zr = -1 - fdO tf tn 60 0 ∧ xCw K h0 g X D 0 tf rk rv σ β γ pn τ ks κ φ hn hf hg wn wf wg) ∨ (fdO tf tn 60 0 = -1 ∧ zr = (daN φ tf tn 60 0 0 (σ, rk, rv)).1 ∧ ∃ rw', xCw K h0 g X D 0 tf 2 (daV rw' (daN φ tf tn 60 0 0 (σ, rk, rv)).2.1 ((daN φ tf tn 60 0 0 (σ, rk, rv)).2.2 14)) ((daN φ tf tn 60 0 0 (σ, rk, rv)).2.2) σ γ (if (daN φ tf tn 60 0 0 (σ, rk, rv)).1 ≤ 0 then pn else psn pn) (if (daN φ tf tn 60 0 0 (σ, rk, rv)).1 ≤ 0 then τ else psh pn τ σ) ks κ φ hn hf hg wn wf wg))) := by
  refine ⟨⟨_, _, _, _, W.oX, rfl⟩, qX11_day, ?_⟩
  refine xS.intro RX11 false ⟨rfl, rfl, by decide, by decide, Nat.le_of_ble_eq_true rfl⟩ (ls := [some (.ref X), none, none, none, none, none]) rfl ?_
  refine xr_al0 dX11_day_0 ?_
  refine xr_Vpi0 (s_firstBadDay W) kX11_265 (by decide) (Nat.le_of_ble_eq_true rfl) (Nat.zero_add _) (Nat.zero_add _) dX11_day_1 (fun zv1 zh1 zq1 => ?_)
  obtain ⟨rfl, W⟩ := zq1
  refine xr_is1 dX11_day_4 (by decide) rfl ?_
  refine xr_il1 dX11_day_5 ?_
  refine xr_icm1 dX11_day_6 ?_
  refine xr_icmpeq (tgt := 21) dX11_day_7 (by decide) (fun zc7 => ?_) (fun zc7 => ?_)
  · skip
    refine xr_al0 dX11_day_21 ?_
    refine xr_get W.oX fX11_30 rfl dX11_day_22 ?_
    refine xr_al0 dX11_day_25 ?_
    refine xr_get W.oX fX11_26 rfl dX11_day_26 ?_
    refine xr_Vv1 (s_copyFrom W.Hb W.Hh (by omega)) kX11_179 (by decide) (Nat.le_of_ble_eq_true rfl) (Nat.zero_add _) (Nat.zero_add _) dX11_day_29 ?_
    refine xT.nm (fun zh2 zg2 => ?_)
    have okb := W.pok
    have W := W.ub (fBH zg2)
    refine xr_ic0 dX11_day_32 ?_
    refine xr_is2 dX11_day_33 (by decide) rfl ?_
    refine xr_ic0 dX11_day_34 ?_
    refine xr_is3 dX11_day_35 (by decide) rfl ?_
    refine xr_ic0 dX11_day_36 ?_
    refine xr_is4 dX11_day_37 (by decide) rfl ?_
    refine xr_ic0 dX11_day_39 ?_
    refine xr_is5 dX11_day_40 (by decide) rfl ?_
    refine xT.post (fun r g q => ?_) (lp_day okb _ 60 0 0 0 W (by omega))
    obtain ⟨v, q1, q2⟩ := q
    exact ⟨v, q1, Or.inr ⟨zc7, q2⟩⟩
  · skip
    refine xr_al0 dX11_day_10 ?_
    refine xr_get W.oX fX11_12 rfl dX11_day_11 ?_
    refine xr_Vv0 (s_slClear W.Ht) kX11_128 (by decide) (Nat.le_of_ble_eq_true rfl) (Nat.zero_add _) (Nat.zero_add _) dX11_day_14 ?_
    refine xT.nm (fun zh2 zg2 => ?_)
    have W := W.ut (tn' := 0) (fB2 zg2) (by decide)
    refine xr_icm1 dX11_day_17 ?_
    refine xr_il1 dX11_day_18 ?_
    refine xr_isub dX11_day_19 ?_
    refine xr_iret dX11_day_20 rfl ?_
    exact ⟨_, rfl, Or.inl ⟨zc7, rfl, W⟩⟩
theorem xCw.lo {K : xK} {h0 h g : xH} {X D : Nat} {tn : Nat} {tf : Nat → Int32} {rk : Int32} {rv : Nat → Int64} {σ : xs} {β : xs} {γ : xs} {pn : Nat} {τ : Nat → xs} {ks : Nat → Bool} {κ : Nat → xs} {φ : xs → Int32} {hn : Nat} {hf : Nat → Int32} {hg : Nat → Int32} {wn : Nat} {wf : Nat → Int32} {wg : Nat → Int32} {pn' : Nat} {τ' : Nat → xs} {ks' : Nat → Bool} {κ' : Nat → xs} (W : xCw K h0 h X D tn tf rk rv σ β γ pn τ ks κ φ hn hf hg wn wf wg) (fr : ∀ c, c < D → c < X + 14 ∨ X + 17 ≤ c → g.2 c = h.2 c) (g1 : h.1 ≤ g.1) (L : xLo K g X D pn' τ' ks' κ') (p1 : ∀ i, i < pn' → hOk (τ' i)) (p2 : ∀ i, i < 2 → ks' i = true → hOk (κ' i)) : xCw K h0 g X D tn tf rk rv σ β γ (pn') (τ') (ks') (κ') φ hn hf hg wn wf wg := by
  obtain ⟨oX, Ht, Hr, Hh, Hb, Hq, Hp, Hu, Ho, Hd, He, Hi, Hg, Hl, Hc, Hw, pXD, pD, pt, pok, pop, pok2, ph, pw, pf⟩ := W
  exact ⟨frc oX (fun b _ _ => fr b (by omega) (by omega)), Ht.frw (fun b _ _ => fr b (by omega) (by omega)), Hr.frw (fun b _ _ => fr b (by omega) (by omega)), Hh.fr (fun b _ _ => fr b (by omega) (by omega)), Hb.fr (fun b _ _ => fr b (by omega) (by omega)), Hq.fr (fun b _ _ => fr b (by omega) (by omega)), L, Hu.frw (fun b _ _ => fr b (by omega) (by omega)), Ho.frw (fun b _ _ => fr b (by omega) (by omega)), Hd.frw (fun b _ _ => fr b (by omega) (by omega)), He.frw (fun b _ _ => fr b (by omega) (by omega)), Hi.frw (fun b _ _ => fr b (by omega) (by omega)), Hg.frw (fun b _ _ => fr b (by omega) (by omega)), Hl.frw (fun b _ _ => fr b (by omega) (by omega)), Hc.frw (fun b _ _ => fr b (by omega) (by omega)), Hw.frw (fun b _ _ => fr b (by omega) (by omega)), pXD, by omega, pt, pok, p1, p2, ph, pw, fun c c1 c2 => (fr c (by omega) (by omega)).trans (pf c c1 c2)⟩
def kU (ks : Nat → Bool) (i : Nat) : Nat → Bool := fun j => if j = i then true else ks j
def kX (κ : Nat → xs) (i : Nat) (σ : xs) : Nat → xs := fun j => if j = i then σ else κ j
theorem kf_t (ks : Nat → Bool) (kq : Nat → Nat) {i : Nat} (h : ks i = true) : va_rf (kf ks kq i) = .ref (kq i) := by unfold kf; rw [if_pos h]; rfl
theorem kf_n (ks : Nat → Bool) (kq : Nat → Nat) {i : Nat} (h : ¬ ks i = true) : va_rf (kf ks kq i) = .null := by unfold kf; rw [if_neg h]; rfl
theorem kf_up (ks : Nat → Bool) (kq : Nat → Nat) (i x : Nat) : va_up (kf ks kq) i (some x) = kf (kU ks i) (pu kq i x) := by
  funext j
  by_cases e : j = i
  · subst e
    rw [va_up_self]; unfold kf kU pu; rw [if_pos rfl, if_pos rfl, if_pos rfl]
  · rw [va_up_ne _ _ e]
    unfold kf kU pu
    rw [if_neg e, if_neg e]
theorem keep_lo {K : xK} {h g : xH} {X D pn pm i x : Nat} {pp kq : Nat → Nat} {τ τ' κ : Nat → xs} {ks : Nat → Bool} {σ : xs} (hi : i < 2) (h1 : xPast K h (X + 14) D pn pm pp τ') (h2 : ∀ i, i < pn → τ' i = τ i) (h4 : ∀ i, i < 2 → ks i = true → xHill K h (kq i) (κ i) ∧ D ≤ kq i ∧ kq i + 3 ≤ h.1 ∧ ∀ j, j < pm → kq i + 3 ≤ pp j ∨ pp j + 3 ≤ kq i) (h5 : ks 0 = true → ks 1 = true → kq 0 + 3 ≤ kq 1 ∨ kq 1 + 3 ≤ kq 0)
    (pXD : X + 39 ≤ D) (pD : D ≤ h.1) (g1 : h.1 ≤ g.1) (fr : ∀ c, c < h.1 → c ≠ X + 16 → c < x ∨ x + 3 ≤ c → g.2 c = h.2 c) (gs : g.2 (X + 16) = some (rA K 2 (kf (kU ks i) (pu kq i x)))) (gx : xHill K g x σ) (xD : D ≤ x) (xg : x + 3 ≤ g.1) (xp : ∀ j, j < pm → x + 3 ≤ pp j ∨ pp j + 3 ≤ x) (xk : ∀ j, j < 2 → j ≠ i → ks j = true → x + 3 ≤ kq j ∨ kq j + 3 ≤ x) : xLo K g X D pn τ (kU ks i) (kX κ i σ) := by
  obtain ⟨k1, k2, k3, k4, k5, k6, k7⟩ := h1
  refine ⟨pm, pp, pu kq i x, τ', ⟨⟨(fr _ (by omega) (by omega) (by omega)).trans k1.1, (fr _ (by omega) (by omega) (by omega)).trans k1.2⟩, k2, k3, k4, fun j hj => ?_, k6, fun j hj => ?_⟩, h2, gs, fun j hj q => ?_, fun q0 q1 => ?_⟩
  · have := k7 j hj
    have := xp j hj
    exact (k5 j hj).fr (fun c _ _ => fr c (by omega) (by omega) (by omega))
  · have := k7 j hj
    omega
  · by_cases e : j = i
    · subst e
      rw [show pu kq j x j = x from if_pos rfl, show kX κ j σ j = σ from if_pos rfl]
      exact ⟨gx, xD, xg, xp⟩
    · have q' : ks j = true := by
        unfold kU at q
        rw [if_neg e] at q
        exact q
      obtain ⟨z1, z2, z3, z4⟩ := h4 j hj q'
      have := xk j hj e q'
      rw [show pu kq i x j = kq j from if_neg e, show kX κ i σ j = κ j from if_neg e]
      exact ⟨z1.fr (fun c _ _ => fr c (by omega) (by omega) (by omega)), z2, by omega, z4⟩
  · rcases (show i = 0 ∨ i = 1 by omega) with rfl | rfl
    · rw [show pu kq 0 x 0 = x from rfl, show pu kq 0 x 1 = kq 1 from rfl]
      exact xk 1 (by decide) (by decide) q1
    · rw [show pu kq 1 x 0 = kq 0 from rfl, show pu kq 1 x 1 = x from rfl]
      exact (xk 0 (by decide) (by decide) q0).symm
