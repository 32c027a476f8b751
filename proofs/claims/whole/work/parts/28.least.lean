/-! The class's own methods: least, freely, rule, law (written by wip/whole/car7.py) -/
theorem gX.frw {K : xK} {h g : xH} {a : Nat} {σ : xs} (H : gX K h a σ) (f : ∀ b, a ≤ b → b < a + 3 → g.2 b = h.2 b) : gX K g a σ := X3.frw H f
def pX (K : xK) (h : xH) (a : Nat) (kn nx : Nat → Int32) (t fa fb : Int32) : Prop := X3 h (a + 3) (plO (a + 3) a t fa fb) (iA K 1024 kn) (iA K 1024 nx)
def plA (σ : xs) (kn nx : Nat → Int32) (t : Int32) : Nat → Int32 := amO kn (gU σ) (gL σ) (σ 12) (σ 13) (t + 1) (aN σ 1 + 1) (aN σ 0 + 1) 0 nx
def plC (σ : xs) (kn : Nat → Int32) (fa fb : Int32) : Int32 × Int32 × Int32 := cfO kn (gU σ) (gL σ) (nI (aN σ 0)) (nI (aN σ 1)) (σ 12) (σ 13) (aN σ 1 + 1) (aN σ 0 + 1) 0 (1048576, fa, fb)
def leN (σ : xs) : Nat → (Nat → Int32) → (Nat → Int32) → Int32 → Nat → Int32
  | 0, kn, _, _ => kn
  | r + 1, kn, nx, t => leN σ r (plA σ kn nx t) (plA σ kn nx t) (t + 1)
theorem leN_s (σ : xs) (r : Nat) (kn nx : Nat → Int32) (t : Int32) : leN σ (r + 1) kn nx t = leN σ r (plA σ kn nx t) (plA σ kn nx t) (t + 1) := rfl
def leE (rk : Int32) (rv : Nat → Int64) (z : Int32 × Int32 × Int32) : AR := if z.1 < 1048576 then (z.1, 2, tl2 rv z.2.1 z.2.2) else (-2, rk, rv)
def leR (σ : xs) (rk : Int32) (rv : Nat → Int64) (nx : Nat → Int32) (fa fb x : Int32) : AR := if x < 1 ∨ 5 < x then (-1, rk, rv) else leE rk rv (plC σ (leN σ (x.toNatClampNeg - 1) kn0 nx 0) fa fb)
set_option maxRecDepth 20000 in
theorem lp_least {K : xK} {B : Nat} {l : Launch} {h0 : xH} {X D : Nat} {tn : Nat} {tf : Nat → Int32} {rk : Int32} {rv : Nat → Int64} {σ : xs} {β : xs} {γ : xs} {pn : Nat} {τ : Nat → xs} {ks : Nat → Bool} {κ : Nat → xs} {φ : xs → Int32} {hn : Nat} {hf : Nat → Int32} {hg : Nat → Int32} {wn : Nat} {wf : Nat → Int32} {wg : Nat → Int32} (N : Nat) (hN : N ≤ 5) : ∀ (r : Nat) (k : Nat) {h : xH} {kn nx : Nat → Int32} {t fa fb : Int32} (W : xCw K h0 h X D tn tf rk rv σ β γ pn τ ks κ φ hn hf hg wn wf wg) (G : gX K h (X + 31) σ) (P : pX K h (X + 31) kn nx t fa fb), k + r = N → xT K B l 5 RX11 false cX11_least 3 (some .int) 0 0 0 0 (xPi (fun zr g => zr = (leE rk rv (plC σ (leN σ r kn nx t) fa fb)).1 ∧ ∃ γ', xCw K h0 g X D tn tf ((leE rk rv (plC σ (leN σ r kn nx t) fa fb)).2.1) ((leE rk rv (plC σ (leN σ r kn nx t) fa fb)).2.2) σ β (γ') pn τ ks κ φ hn hf hg wn wf wg)) 32 [some (.ref X), some (.int (nI N)), some (.int (nI k))] [] h := by
  intro r
  induction r with
  | zero =>
    intro k h kn nx t fa fb W G P hk
    refine xr_il2 dX11_least_32 ?_
    refine xr_il1 dX11_least_33 ?_
    refine xr_icmpge (tgt := 50) dX11_least_34 (by decide) (fun zc34 => ?_) (fun zc34 => ?_)
    · skip
      refine xr_al0 dX11_least_50 ?_
      refine xr_get W.oX fX11_92 rfl dX11_least_51 ?_
      refine xr_Vi0 (s_chooseFirst P G (hAll_n W.pok (s := 0) (by decide)).2 (hAll_n W.pok (s := 1) (by decide)).2) kX11_336 (by decide) (Nat.le_of_ble_eq_true rfl) (Nat.zero_add _) (Nat.zero_add _) dX11_least_54 ?_
      refine xT.nm (fun zh1 zg1 => ?_)
      have P : pX K zh1 (X + 31) kn nx t (plC σ kn fa fb).2.1 (plC σ kn fa fb).2.2 := x3_at zg1
      have G := G.frw (fun b _ _ => (fB3 zg1).2.1 b (by omega))
      have W := W.ul ⟨(fB3 zg1).1, (fB3 zg1).2.1, ⟨_, _, _, _, _, (fB3 zg1).2.2⟩⟩
      refine xr_eqi (y := (plC σ kn fa fb).1) rfl ?_
      refine xr_is2 dX11_least_57 (by decide) rfl ?_
      refine xr_il2 dX11_least_58 ?_
      refine xr_ldcw nX11_339 dX11_least_59 ?_
      refine xr_icmplt (tgt := 68) dX11_least_62 (by decide) (fun zc62 => ?_) (fun zc62 => ?_)
      · skip
        refine xr_al0 dX11_least_68 ?_
        refine xr_get W.oX fX11_19 rfl dX11_least_69 ?_
        refine xr_al0 dX11_least_72 ?_
        refine xr_get W.oX fX11_92 rfl dX11_least_73 ?_
        refine xr_get P.1 fX11_340 rfl dX11_least_76 ?_
        refine xr_i2l dX11_least_79 ?_
        refine xr_al0 dX11_least_80 ?_
        refine xr_get W.oX fX11_92 rfl dX11_least_81 ?_
        refine xr_get P.1 fX11_343 rfl dX11_least_84 ?_
        refine xr_i2l dX11_least_87 ?_
        refine xr_Vv2 (s_tell2 W.Hr _ _) kX11_236 (by decide) (Nat.le_of_ble_eq_true rfl) (Nat.zero_add _) (Nat.zero_add _) dX11_least_88 ?_
        refine xT.nm (fun zh2 zg2 => ?_)
        have W := W.ur (fB2 zg2)
        refine xr_il2 dX11_least_91 ?_
        refine xr_iret dX11_least_92 rfl ?_
        have e : (leE rk rv (plC σ (leN σ 0 kn nx t) fa fb)) = _ := if_pos zc62
        rw [e]
        exact ⟨_, rfl, rfl, _, W⟩
      · skip
        refine xr_bipush (v := (-2)) dX11_least_65 (by decide) ?_
        refine xr_iret dX11_least_67 rfl ?_
        have e : (leE rk rv (plC σ (leN σ 0 kn nx t) fa fb)) = _ := if_neg zc62
        rw [e]
        exact ⟨_, rfl, rfl, _, W⟩
    · skip
      exact absurd (nI_le (a := N) (by omega) (by omega)) zc34
  | succ r ih =>
    intro k h kn nx t fa fb W G P hk
    refine xr_il2 dX11_least_32 ?_
    refine xr_il1 dX11_least_33 ?_
    refine xr_icmpge (tgt := 50) dX11_least_34 (by decide) (fun zc34 => ?_) (fun zc34 => ?_)
    · skip
      exact absurd zc34 (nI_ge (by omega) (by omega))
    · skip
      refine xr_al0 dX11_least_37 ?_
      refine xr_get W.oX fX11_92 rfl dX11_least_38 ?_
      refine xr_Vv0 (s_allowMore P G (hAll_n W.pok (s := 0) (by decide)).2 (hAll_n W.pok (s := 1) (by decide)).2) kX11_333 (by decide) (Nat.le_of_ble_eq_true rfl) (Nat.zero_add _) (Nat.zero_add _) dX11_least_41 ?_
      refine xT.nm (fun zh1 zg1 => ?_)
      have P : pX K zh1 (X + 31) (plA σ kn nx t) (plA σ kn nx t) (t + 1) fa fb := x3_at zg1
      have G := G.frw (fun b _ _ => (fB3 zg1).2.1 b (by omega))
      have W := W.ul ⟨(fB3 zg1).1, (fB3 zg1).2.1, ⟨_, _, _, _, _, (fB3 zg1).2.2⟩⟩
      refine xr_inc2 dX11_least_44 (nI_inc k) (by decide) rfl ?_
      refine xr_goto (tgt := 32) dX11_least_47 (by decide) ?_
      rw [leN_s]
      exact ih (k + 1) W G P (by omega)
set_option maxRecDepth 20000 in
theorem s_least {K : xK} {B : Nat} {l : Launch} {h0 h : xH} {X D : Nat} {tn : Nat} {tf : Nat → Int32} {rk : Int32} {rv : Nat → Int64} {σ : xs} {β : xs} {γ : xs} {pn : Nat} {τ : Nat → xs} {ks : Nat → Bool} {κ : Nat → xs} {φ : xs → Int32} {hn : Nat} {hf : Nat → Int32} {hg : Nat → Int32} {wn : Nat} {wf : Nat → Int32} {wg : Nat → Int32} (W : xCw K h0 h X D tn tf rk rv σ β γ pn τ ks κ φ hn hf hg wn wf wg) (x : Int32) : xV K B l 5 mX11_least 0 0 (X) [.int x] h (xPi (fun zr g => ∃ (nx : Nat → Int32) (fa fb : Int32), zr = (leR σ rk rv nx fa fb x).1 ∧ ∃ γ', xCw K h0 g X D tn tf ((leR σ rk rv nx fa fb x).2.1) ((leR σ rk rv nx fa fb x).2.2) σ β (γ') pn τ ks κ φ hn hf hg wn wf wg)) := by
  refine ⟨⟨_, _, _, _, W.oX, rfl⟩, qX11_least, ?_⟩
  refine xS.intro RX11 false ⟨rfl, rfl, by decide, by decide, Nat.le_of_ble_eq_true rfl⟩ (ls := [some (.ref X), some (.int x), none]) rfl ?_
  refine xr_il1 dX11_least_0 ?_
  refine xr_ic1 dX11_least_1 ?_
  refine xr_icmplt (tgt := 10) dX11_least_2 (by decide) (fun zc2 => ?_) (fun zc2 => ?_)
  · skip
    refine xr_icm1 dX11_least_10 ?_
    refine xr_iret dX11_least_11 rfl ?_
    have e : (leR σ rk rv (fun _ => 0) 0 0 x) = _ := if_pos (Or.inl zc2)
    refine ⟨_, rfl, fun _ => 0, 0, 0, ?_⟩
    rw [e]
    exact ⟨rfl, _, W⟩
  · skip
    refine xr_il1 dX11_least_5 ?_
    refine xr_ic5 dX11_least_6 ?_
    refine xr_icmple (tgt := 12) dX11_least_7 (by decide) (fun zc7 => ?_) (fun zc7 => ?_)
    · skip
      refine xr_al0 dX11_least_12 ?_
      refine xr_get W.oX fX11_83 rfl dX11_least_13 ?_
      refine xr_al0 dX11_least_16 ?_
      refine xr_get W.oX fX11_26 rfl dX11_least_17 ?_
      obtain ⟨_, _, _, _, _, _, zG⟩ := W.Hg
      refine xr_Vv1 (s_readFrom zG W.Hh W.pok (by omega)) kX11_317 (by decide) (Nat.le_of_ble_eq_true rfl) (Nat.zero_add _) (Nat.zero_add _) dX11_least_20 ?_
      refine xT.nm (fun zh1 zg1 => ?_)
      have G : gX K zh1 (X + 31) σ := gX.of W.pok zg1
      have W := W.ug ⟨(fB3 zg1).1, (fB3 zg1).2.1, ⟨_, _, _, _, _, _, (fB3 zg1).2.2⟩⟩
      refine xr_al0 dX11_least_23 ?_
      refine xr_get W.oX fX11_92 rfl dX11_least_24 ?_
      obtain ⟨t0, fa, fb, kn1, nx, zP⟩ := W.Hl
      refine xr_Vv0 (s_start zP) kX11_330 (by decide) (Nat.le_of_ble_eq_true rfl) (Nat.zero_add _) (Nat.zero_add _) dX11_least_27 ?_
      refine xT.nm (fun zh2 zg2 => ?_)
      have P : pX K zh2 (X + 31) kn0 nx 0 fa fb := x3_at zg2
      have G := G.frw (fun b _ _ => (fB3 zg2).2.1 b (by omega))
      have W := W.ul ⟨(fB3 zg2).1, (fB3 zg2).2.1, ⟨_, _, _, _, _, (fB3 zg2).2.2⟩⟩
      refine xr_ic1 dX11_least_30 ?_
      refine xr_is2 dX11_least_31 (by decide) rfl ?_
      rcases pk_ix x (n := 6) (by decide) with z | z | ⟨N, hN, rfl⟩
      · exact absurd (Int32.lt_trans z (by decide)) zc2
      · exact absurd (Int32.le_trans z zc7) (by decide)
      · have h1 : 1 ≤ N := by
          rcases Nat.eq_zero_or_pos N with q | q
          · subst q
            exact absurd (by decide) zc2
          · exact q
        have e : (leR σ rk rv nx fa fb (nI N)) = _ := if_neg (fun q => q.elim zc2 (Int32.not_lt.mpr zc7))
        rw [nI_clamp (by omega)] at e
        refine xT.post (fun r g q => ?_) (lp_least N (by omega) (N - 1) 1 W G P (by omega))
        obtain ⟨v, q1, q2⟩ := q
        exact ⟨v, q1, nx, fa, fb, by rw [e]; exact q2⟩
    · skip
      refine xr_icm1 dX11_least_10 ?_
      refine xr_iret dX11_least_11 rfl ?_
      have e : (leR σ rk rv (fun _ => 0) 0 0 x) = _ := if_pos (Or.inr (Int32.not_le.mp zc7))
      refine ⟨_, rfl, fun _ => 0, 0, 0, ?_⟩
      rw [e]
      exact ⟨rfl, _, W⟩
def frN (σ : xs) (rk : Int32) (rv : Nat → Int64) : Nat → Nat → (Nat → Int32) → (Nat → Int32) → Int32 → Int32 → Int32 → AR
  | 0, _, _, _, _, _, _ => (-2, rk, rv)
  | r + 1, k, kn, nx, t, fa, fb => if (plC σ kn fa fb).1 = 0 then (nI k, 2, tl2 rv (plC σ kn fa fb).2.1 (plC σ kn fa fb).2.2) else frN σ rk rv r (k + 1) (plA σ kn nx t) (plA σ kn nx t) (t + 1) (plC σ kn fa fb).2.1 (plC σ kn fa fb).2.2
theorem frN_s (σ : xs) (rk : Int32) (rv : Nat → Int64) (r k : Nat) (kn nx : Nat → Int32) (t fa fb : Int32) : frN σ rk rv (r + 1) k kn nx t fa fb = if (plC σ kn fa fb).1 = 0 then (nI k, 2, tl2 rv (plC σ kn fa fb).2.1 (plC σ kn fa fb).2.2) else frN σ rk rv r (k + 1) (plA σ kn nx t) (plA σ kn nx t) (t + 1) (plC σ kn fa fb).2.1 (plC σ kn fa fb).2.2 := rfl
def frR (σ : xs) (rk : Int32) (rv : Nat → Int64) (nx : Nat → Int32) (fa fb : Int32) : AR := if σ 10 + σ 11 = 0 then (0, 0, rv) else frN σ rk rv 5 1 kn0 nx 0 fa fb
set_option maxRecDepth 20000 in
theorem lp_freely {K : xK} {B : Nat} {l : Launch} {h0 : xH} {X D : Nat} {tn : Nat} {tf : Nat → Int32} {rk : Int32} {rv : Nat → Int64} {σ : xs} {β : xs} {γ : xs} {pn : Nat} {τ : Nat → xs} {ks : Nat → Bool} {κ : Nat → xs} {φ : xs → Int32} {hn : Nat} {hf : Nat → Int32} {hg : Nat → Int32} {wn : Nat} {wf : Nat → Int32} {wg : Nat → Int32}  : ∀ (r : Nat) (k : Nat) {h : xH} {kn nx : Nat → Int32} {t fa fb : Int32} (W : xCw K h0 h X D tn tf rk rv σ β γ pn τ ks κ φ hn hf hg wn wf wg) (G : gX K h (X + 31) σ) (P : pX K h (X + 31) kn nx t fa fb), k + r = 6 → xT K B l 5 RX11 false cX11_freely 2 (some .int) 0 0 0 0 (xPi (fun zr g => zr = (frN σ rk rv r k kn nx t fa fb).1 ∧ ∃ γ', xCw K h0 g X D tn tf ((frN σ rk rv r k kn nx t fa fb).2.1) ((frN σ rk rv r k kn nx t fa fb).2.2) σ β (γ') pn τ ks κ φ hn hf hg wn wf wg)) 39 [some (.ref X), some (.int (nI k))] [] h := by
  intro r
  induction r with
  | zero =>
    intro k h kn nx t fa fb W G P hk
    refine xr_il1 dX11_freely_39 ?_
    refine xr_ic5 dX11_freely_40 ?_
    refine xr_icmpgt (tgt := 92) dX11_freely_41 (by decide) (fun zc41 => ?_) (fun zc41 => ?_)
    · skip
      refine xr_bipush (v := (-2)) dX11_freely_92 (by decide) ?_
      refine xr_iret dX11_freely_94 rfl ?_
      exact ⟨_, rfl, rfl, _, W⟩
    · skip
      exact absurd (nI_lt (a := 5) (by omega) (by omega)) zc41
  | succ r ih =>
    intro k h kn nx t fa fb W G P hk
    refine xr_il1 dX11_freely_39 ?_
    refine xr_ic5 dX11_freely_40 ?_
    refine xr_icmpgt (tgt := 92) dX11_freely_41 (by decide) (fun zc41 => ?_) (fun zc41 => ?_)
    · skip
      exact absurd zc41 (Int32.not_lt.mpr (nI_le (b := 5) (by omega) (by decide)))
    · skip
      refine xr_al0 dX11_freely_44 ?_
      refine xr_get W.oX fX11_92 rfl dX11_freely_45 ?_
      refine xr_Vi0 (s_chooseFirst P G (hAll_n W.pok (s := 0) (by decide)).2 (hAll_n W.pok (s := 1) (by decide)).2) kX11_336 (by decide) (Nat.le_of_ble_eq_true rfl) (Nat.zero_add _) (Nat.zero_add _) dX11_freely_48 ?_
      refine xT.nm (fun zh1 zg1 => ?_)
      have P : pX K zh1 (X + 31) kn nx t (plC σ kn fa fb).2.1 (plC σ kn fa fb).2.2 := x3_at zg1
      have G := G.frw (fun b _ _ => (fB3 zg1).2.1 b (by omega))
      have W := W.ul ⟨(fB3 zg1).1, (fB3 zg1).2.1, ⟨_, _, _, _, _, (fB3 zg1).2.2⟩⟩
      refine xr_eqi (y := (plC σ kn fa fb).1) rfl ?_
      refine xr_ifne (tgt := 79) dX11_freely_51 (by decide) (fun zc51 => ?_) (fun zc51 => ?_)
      · skip
        refine xr_al0 dX11_freely_79 ?_
        refine xr_get W.oX fX11_92 rfl dX11_freely_80 ?_
        refine xr_Vv0 (s_allowMore P G (hAll_n W.pok (s := 0) (by decide)).2 (hAll_n W.pok (s := 1) (by decide)).2) kX11_333 (by decide) (Nat.le_of_ble_eq_true rfl) (Nat.zero_add _) (Nat.zero_add _) dX11_freely_83 ?_
        refine xT.nm (fun zh2 zg2 => ?_)
        have P : pX K zh2 (X + 31) (plA σ kn nx t) (plA σ kn nx t) (t + 1) (plC σ kn fa fb).2.1 (plC σ kn fa fb).2.2 := x3_at zg2
        have G := G.frw (fun b _ _ => (fB3 zg2).2.1 b (by omega))
        have W := W.ul ⟨(fB3 zg2).1, (fB3 zg2).2.1, ⟨_, _, _, _, _, (fB3 zg2).2.2⟩⟩
        refine xr_inc1 dX11_freely_86 (nI_inc k) (by decide) rfl ?_
        refine xr_goto (tgt := 39) dX11_freely_89 (by decide) ?_
        rw [frN_s, if_neg zc51]
        exact ih (k + 1) W G P (by omega)
      · skip
        refine xr_al0 dX11_freely_54 ?_
        refine xr_get W.oX fX11_19 rfl dX11_freely_55 ?_
        refine xr_al0 dX11_freely_58 ?_
        refine xr_get W.oX fX11_92 rfl dX11_freely_59 ?_
        refine xr_get P.1 fX11_340 rfl dX11_freely_62 ?_
        refine xr_i2l dX11_freely_65 ?_
        refine xr_al0 dX11_freely_66 ?_
        refine xr_get W.oX fX11_92 rfl dX11_freely_67 ?_
        refine xr_get P.1 fX11_343 rfl dX11_freely_70 ?_
        refine xr_i2l dX11_freely_73 ?_
        refine xr_Vv2 (s_tell2 W.Hr _ _) kX11_236 (by decide) (Nat.le_of_ble_eq_true rfl) (Nat.zero_add _) (Nat.zero_add _) dX11_freely_74 ?_
        refine xT.nm (fun zh2 zg2 => ?_)
        have W := W.ur (fB2 zg2)
        refine xr_il1 dX11_freely_77 ?_
        refine xr_iret dX11_freely_78 rfl ?_
        rw [frN_s, if_pos zc51]
        exact ⟨_, rfl, rfl, _, W⟩
set_option maxRecDepth 20000 in
theorem s_freely {K : xK} {B : Nat} {l : Launch} {h0 h : xH} {X D : Nat} {tn : Nat} {tf : Nat → Int32} {rk : Int32} {rv : Nat → Int64} {σ : xs} {β : xs} {γ : xs} {pn : Nat} {τ : Nat → xs} {ks : Nat → Bool} {κ : Nat → xs} {φ : xs → Int32} {hn : Nat} {hf : Nat → Int32} {hg : Nat → Int32} {wn : Nat} {wf : Nat → Int32} {wg : Nat → Int32} (W : xCw K h0 h X D tn tf rk rv σ β γ pn τ ks κ φ hn hf hg wn wf wg) : xV K B l 5 mX11_freely 0 0 (X) [] h (xPi (fun zr g => ∃ (nx : Nat → Int32) (fa fb : Int32), zr = (frR σ rk rv nx fa fb).1 ∧ ∃ γ', xCw K h0 g X D tn tf ((frR σ rk rv nx fa fb).2.1) ((frR σ rk rv nx fa fb).2.2) σ β (γ') pn τ ks κ φ hn hf hg wn wf wg)) := by
  refine ⟨⟨_, _, _, _, W.oX, rfl⟩, qX11_freely, ?_⟩
  refine xS.intro RX11 false ⟨rfl, rfl, by decide, by decide, Nat.le_of_ble_eq_true rfl⟩ (ls := [some (.ref X), none]) rfl ?_
  refine xr_al0 dX11_freely_0 ?_
  refine xr_get W.oX fX11_26 rfl dX11_freely_1 ?_
  refine xr_Vi0 (s_nobodyWaits W.Hh) kX11_245 (by decide) (Nat.le_of_ble_eq_true rfl) (Nat.zero_add _) (Nat.zero_add _) dX11_freely_4 ?_
  refine xr_ifeq (tgt := 19) dX11_freely_7 (by decide) (fun zc7 => ?_) (fun zc7 => ?_)
  · skip
    refine xr_al0 dX11_freely_19 ?_
    refine xr_get W.oX fX11_83 rfl dX11_freely_20 ?_
    refine xr_al0 dX11_freely_23 ?_
    refine xr_get W.oX fX11_26 rfl dX11_freely_24 ?_
    obtain ⟨_, _, _, _, _, _, zG⟩ := W.Hg
    refine xr_Vv1 (s_readFrom zG W.Hh W.pok (by omega)) kX11_317 (by decide) (Nat.le_of_ble_eq_true rfl) (Nat.zero_add _) (Nat.zero_add _) dX11_freely_27 ?_
    refine xT.nm (fun zh1 zg1 => ?_)
    have G : gX K zh1 (X + 31) σ := gX.of W.pok zg1
    have W := W.ug ⟨(fB3 zg1).1, (fB3 zg1).2.1, ⟨_, _, _, _, _, _, (fB3 zg1).2.2⟩⟩
    refine xr_al0 dX11_freely_30 ?_
    refine xr_get W.oX fX11_92 rfl dX11_freely_31 ?_
    obtain ⟨t0, fa, fb, kn1, nx, zP⟩ := W.Hl
    refine xr_Vv0 (s_start zP) kX11_330 (by decide) (Nat.le_of_ble_eq_true rfl) (Nat.zero_add _) (Nat.zero_add _) dX11_freely_34 ?_
    refine xT.nm (fun zh2 zg2 => ?_)
    have P : pX K zh2 (X + 31) kn0 nx 0 fa fb := x3_at zg2
    have G := G.frw (fun b _ _ => (fB3 zg2).2.1 b (by omega))
    have W := W.ul ⟨(fB3 zg2).1, (fB3 zg2).2.1, ⟨_, _, _, _, _, (fB3 zg2).2.2⟩⟩
    refine xr_ic1 dX11_freely_37 ?_
    refine xr_is1 dX11_freely_38 (by decide) rfl ?_
    have e : (frR σ rk rv nx fa fb) = _ := if_neg (bI_0.mp zc7)
    refine xT.post (fun r g q => ?_) (lp_freely 5 1 W G P (by omega))
    obtain ⟨v, q1, q2⟩ := q
    exact ⟨v, q1, nx, fa, fb, by rw [e]; exact q2⟩
  · skip
    refine xr_al0 dX11_freely_10 ?_
    refine xr_get W.oX fX11_19 rfl dX11_freely_11 ?_
    refine xr_Vv0 (s_tell0 W.Hr) kX11_346 (by decide) (Nat.le_of_ble_eq_true rfl) (Nat.zero_add _) (Nat.zero_add _) dX11_freely_14 ?_
    refine xT.nm (fun zh1 zg1 => ?_)
    have W := W.ur (fB2 zg1)
    refine xr_ic0 dX11_freely_17 ?_
    refine xr_iret dX11_freely_18 rfl ?_
    have e : (frR σ rk rv (fun _ => 0) 0 0) = _ := if_pos (Decidable.not_not.mp (fun q => zc7 (bI_0.mpr q)))
    refine ⟨_, rfl, fun _ => 0, 0, 0, ?_⟩
    rw [e]
    exact ⟨rfl, _, W⟩
def rlF (ou : List Int32) (f : Nat → Int32) : xs → Int32 := fun σ => spr σ f (fun _ => 0) ou.length
def RuleOk (tf : Nat → Int32) (tn : Nat) (φ' : xs → Int32) : Prop := (rdV tf tn).2.length ≤ 40 ∧ ∀ f : Nat → Int32, stk f (rdV tf tn).2 → ∀ σ g, spr σ f g (rdV tf tn).2.length = φ' σ
theorem wRead {K : xK} {B : Nat} {l : Launch} {h0 h : xH} {X D : Nat} {tn : Nat} {tf : Nat → Int32} {rk : Int32} {rv : Nat → Int64} {σ : xs} {β : xs} {γ : xs} {pn : Nat} {τ : Nat → xs} {ks : Nat → Bool} {κ : Nat → xs} {φ : xs → Int32} {hn : Nat} {hf : Nat → Int32} {hg : Nat → Int32} {wn : Nat} {wf : Nat → Int32} {wg : Nat → Int32} (W : xCw K h0 h X D tn tf rk rv σ β γ pn τ ks κ φ hn hf hg wn wf wg) : xV K B l 3 mX8_read 0 0 (X + 23) [] h (xPi (fun v g => v = (rdV tf tn).1 ∧ xCw K h0 g X D tn tf rk rv σ β γ pn τ ks κ φ hn hf hg wn wf wg ∧ ∃ f s : Nat → Int32, X3 g (X + 20) (ruO (X + 20) (nI (rdV tf tn).2.length)) (iA K 40 f) (iA K 40 s) ∧ stk f (rdV tf tn).2)) := by
  obtain ⟨ou, f, s, H3, hs3⟩ := W.Ho
  obtain ⟨sh, p, d, c, u, s2, H2, hs2⟩ := W.Hd
  have R : xRd K h h X tf tn sh ou p d c u := ⟨W.Ht, ⟨s2, H2, hs2⟩, ⟨f, s, H3, hs3⟩, rfl, fun _ _ => rfl⟩
  refine (s_read R W.pt).post (fun r g q => ?_)
  obtain ⟨v, rfl, hv, sh', p', d', c', u', r1, ⟨s3, r2, r2'⟩, ⟨f', g', r3, r3'⟩, r4, r5⟩ := q
  refine ⟨v, rfl, hv, ?_, f', g', r3, r3'⟩
  obtain ⟨oX, Ht, Hr, Hh, Hb, Hq, Hp, Hu, Ho, Hd, He, Hi, Hg, Hl, Hc, Hw, pXD, pD, pt, pok, pop, pok2, ph, pw, pf⟩ := W
  exact ⟨frc oX (fun b _ _ => r5 b (by omega)), Ht.frw (fun b _ _ => r5 b (by omega)), Hr.frw (fun b _ _ => r5 b (by omega)), Hh.fr (fun b _ _ => r5 b (by omega)), Hb.fr (fun b _ _ => r5 b (by omega)), Hq.fr (fun b _ _ => r5 b (by omega)), Hp.frw (Nat.le_of_eq r4.symm) (fun b _ _ => r5 b (by omega)) (fun b _ _ => r5 b (by omega)), Hu.frw (fun b _ _ => r5 b (by omega)), ⟨_, _, _, r3, r3'⟩, ⟨_, _, _, _, _, _, r2, r2'⟩, He.frw (fun b _ _ => r5 b (by omega)), Hi.frw (fun b _ _ => r5 b (by omega)), Hg.frw (fun b _ _ => r5 b (by omega)), Hl.frw (fun b _ _ => r5 b (by omega)), Hc.frw (fun b _ _ => r5 b (by omega)), Hw.frw (fun b _ _ => r5 b (by omega)), pXD, by rw [r4]; exact pD, pt, pok, pop, pok2, ph, pw, fun c c1 c2 => (r5 c (by omega)).trans (pf c c1 c2)⟩
theorem cU.cell {K : xK} {h : xH} {a : Nat} {φ : xs → Int32} (H : cU K h a φ) : ∃ n : Int32, h.2 a = some (ruO a n) := by
  obtain ⟨n, f, s, _, q, _⟩ := H
  exact ⟨_, q.1⟩
theorem cD.cell {K : xK} {h : xH} {X : Nat} (H : cD K h X) : ∃ e : List Value, h.2 (X + 23) = some (.inr (8, e)) := by
  obtain ⟨sh, p, d, c, u, s, q, _⟩ := H
  exact ⟨_, q.1⟩
set_option maxRecDepth 20000 in
theorem s_rule {K : xK} {B : Nat} {l : Launch} {h0 h : xH} {X D : Nat} {tn : Nat} {tf : Nat → Int32} {rk : Int32} {rv : Nat → Int64} {σ : xs} {β : xs} {γ : xs} {pn : Nat} {τ : Nat → xs} {ks : Nat → Bool} {κ : Nat → xs} {φ : xs → Int32} {hn : Nat} {hf : Nat → Int32} {hg : Nat → Int32} {wn : Nat} {wf : Nat → Int32} {wg : Nat → Int32} (W : xCw K h0 h X D tn tf rk rv σ β γ pn τ ks κ φ hn hf hg wn wf wg) (ψ : xs → Int32) (hR : (rdV tf tn).1 = -1 → RuleOk tf tn ψ) : xV K B l 4 mX11_rule 0 0 (X) [] h (xPi (fun zr g => zr = (if (rdV tf tn).1 = -1 then 0 else -1 - (rdV tf tn).1) ∧ xCw K h0 g X D 0 tf rk rv σ β γ pn τ ks κ (if (rdV tf tn).1 = -1 then ψ else φ) hn hf hg wn wf wg)) := by
  refine ⟨⟨_, _, _, _, W.oX, rfl⟩, qX11_rule, ?_⟩
  refine xS.intro RX11 false ⟨rfl, rfl, by decide, by decide, Nat.le_of_ble_eq_true rfl⟩ (ls := [some (.ref X), none]) rfl ?_
  refine xr_al0 dX11_rule_0 ?_
  refine xr_get W.oX fX11_62 rfl dX11_rule_1 ?_
  refine xr_Vpi0 (wRead W) kX11_141 (by decide) (Nat.le_of_ble_eq_true rfl) (Nat.zero_add _) (Nat.zero_add _) dX11_rule_4 (fun zv4 zh1 zq1 => ?_)
  obtain ⟨rfl, W, f5, s5, O5, k5⟩ := zq1
  refine xr_is1 dX11_rule_7 (by decide) rfl ?_
  refine xr_al0 dX11_rule_8 ?_
  refine xr_get W.oX fX11_12 rfl dX11_rule_9 ?_
  refine xr_Vv0 (s_slClear W.Ht) kX11_128 (by decide) (Nat.le_of_ble_eq_true rfl) (Nat.zero_add _) (Nat.zero_add _) dX11_rule_12 ?_
  refine xT.nm (fun zh2 zg2 => ?_)
  have O5 := X3.frw O5 (fun b _ _ => (fB2 zg2).2.1 b (by omega))
  have W := W.ut (tn' := 0) (fB2 zg2) (by decide)
  refine xr_il1 dX11_rule_15 ?_
  refine xr_icm1 dX11_rule_16 ?_
  refine xr_icmpeq (tgt := 24) dX11_rule_17 (by decide) (fun zc17 => ?_) (fun zc17 => ?_)
  · skip
    refine xr_al0 dX11_rule_24 ?_
    refine xr_get W.oX fX11_50 rfl dX11_rule_25 ?_
    refine xr_al0 dX11_rule_28 ?_
    refine xr_get W.oX fX11_54 rfl dX11_rule_29 ?_
    obtain ⟨n7, f7, s7, hn7, U7, h7⟩ := W.Hu
    refine xr_Vv1 (s_ruCopy U7 O5 (by omega)) kX11_144 (by decide) (Nat.le_of_ble_eq_true rfl) (Nat.zero_add _) (Nat.zero_add _) dX11_rule_32 ?_
    refine xT.nm (fun zh3 zg3 => ?_)
    have W := W.uu (φ' := ψ) ⟨(fB3 zg3).1, (fB3 zg3).2.1, ⟨_, _, _, (hR zc17).1, (fB3 zg3).2.2, (hR zc17).2 f5 k5⟩⟩
    refine xr_ic0 dX11_rule_35 ?_
    refine xr_iret dX11_rule_36 rfl ?_
    refine ⟨_, rfl, (if_pos zc17).symm, ?_⟩
    rw [if_pos zc17]
    exact W
  · skip
    refine xr_icm1 dX11_rule_20 ?_
    refine xr_il1 dX11_rule_21 ?_
    refine xr_isub dX11_rule_22 ?_
    refine xr_iret dX11_rule_23 rfl ?_
    refine ⟨_, rfl, (if_neg zc17).symm, ?_⟩
    rw [if_neg zc17]
    exact W
