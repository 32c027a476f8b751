/-! The class's own methods: acts (written by wip/whole/car1.py) -/
def hRun (φ : xs → Int32) (σ : xs) : xs := hPass (hMid σ) (φ (hMid σ))
theorem hOk_run {σ : xs} (ok : hOk σ) (φ : xs → Int32) : hOk (hRun φ σ) := hOk_pass (hOk_mid ok) _
theorem hOk_weigh {σ : xs} (ok : hOk σ) (side k x : Int32) : hOk (hWeigh σ side k x) := by
  unfold hWeigh
  split
  · rename_i q
    obtain ⟨s, j, hs, hj, rfl, rfl⟩ := hHas_sk q
    rw [(xix_sk hs hj).2]
    exact hOk_up0 ok (by omega) x
  · exact ok
theorem hOk_exch {σ : xs} (ok : hOk σ) (side i j : Int32) : hOk (hExch σ side i j) := hOk_weigh (hOk_weigh ok _ _ _) _ _ _
theorem hOk_seats {σ : xs} (ok : hOk σ) {v : Int32} (h1 : ¬ v < 1) (h2 : v ≤ 3) : hOk (upd σ 12 v) := by
  obtain ⟨k1, k2, k3, k4⟩ := ok
  have e : ∀ s, s < 2 → upd σ 12 v (10 + s) = σ (10 + s) := fun s hs => upd_hi σ v (by omega)
  have e2 : ∀ s, s < 2 → ln (upd σ 12 v) s = ln σ s := fun s hs => by unfold ln; rw [e s hs]
  rcases pk_ix v (n := 4) (by decide) with z | z | ⟨j, hj, rfl⟩
  · exact absurd (Int32.lt_trans z (by decide)) h1
  · exact absurd (Int32.le_trans z h2) (by decide)
  · have e3 : sn (upd σ 12 (nI j)) = j := by
      show (nI j).toNatClampNeg = j
      exact nI_clamp (by omega)
    have j1 : 1 ≤ j := by
      rcases Nat.eq_zero_or_pos j with q | q
      · subst q
        exact absurd (by decide) h1
      · exact q
    exact ⟨fun s hs => by rw [e s hs, e2 s hs]; exact k1 s hs, by rw [e3]; rfl, by omega, by omega⟩
theorem wSpring {K : xK} {B : Nat} {l : Launch} {h0 h : xH} {X D : Nat} {tn : Nat} {tf : Nat → Int32} {rk : Int32} {rv : Nat → Int64} {σ : xs} {β : xs} {γ : xs} {pn : Nat} {τ : Nat → xs} {ks : Nat → Bool} {κ : Nat → xs} {φ : xs → Int32} {hn : Nat} {hf : Nat → Int32} {hg : Nat → Int32} {wn : Nat} {wf : Nat → Int32} {wg : Nat → Int32} (W : xCw K h0 h X D tn tf rk rv σ β γ pn τ ks κ φ hn hf hg wn wf wg) : xV K B l 2 mX7_spring 0 0 (X + 17) [.ref (X + 5)] h (xPi (fun v g => v = φ σ ∧ xCw K h0 g X D tn tf rk rv σ β γ pn τ ks κ φ hn hf hg wn wf wg)) := by
  obtain ⟨n, f, s, hn, H3, hφ⟩ := W.Hu
  refine (s_spring H3 hn W.Hh W.pok (by omega)).post (fun r g q => ?_)
  obtain ⟨rfl, e⟩ := q
  rw [P3_f H3] at e
  exact ⟨_, rfl, hφ _ _, W.uu ⟨(fB3 e).1, (fB3 e).2.1, ⟨n, f, _, hn, (fB3 e).2.2, hφ⟩⟩⟩
theorem wRunH {K : xK} {B : Nat} {l : Launch} {h0 h : xH} {X D : Nat} {tn : Nat} {tf : Nat → Int32} {rk : Int32} {rv : Nat → Int64} {σ : xs} {β : xs} {γ : xs} {pn : Nat} {τ : Nat → xs} {ks : Nat → Bool} {κ : Nat → xs} {φ : xs → Int32} {hn : Nat} {hf : Nat → Int32} {hg : Nat → Int32} {wn : Nat} {wf : Nat → Int32} {wg : Nat → Int32} (W : xCw K h0 h X D tn tf rk rv σ β γ pn τ ks κ φ hn hf hg wn wf wg) : xV K B l 3 mX3_runMinute 0 0 (X + 5) [.ref (X + 17)] h (xPi (fun v g => v = bI (hGo σ) ∧ xCw K h0 g X D tn tf rk rv (hRun φ σ) β γ pn τ ks κ φ hn hf hg wn wf wg)) := by
  obtain ⟨n, f, s, hn, H3, hφ⟩ := W.Hu
  refine (s_runMinute W.Hh W.pok H3 hn (by omega)).post (fun r g q => ?_)
  obtain ⟨rfl, e⟩ := q
  rw [P3_f H3, hφ] at e
  have W1 := W.uu (g := P3 h (X + 17) (ruO (X + 17) (nI n)) (iA K 40 f) (iA K 40 (spN (hMid σ) f (s, 0) n).1)) ⟨rfl, (fB3 rfl).2.1, ⟨n, f, _, hn, (fB3 rfl).2.2, hφ⟩⟩
  exact ⟨_, rfl, rfl, W1.uh (fBH e) (hOk_run W.pok φ)⟩
theorem wRunT {K : xK} {B : Nat} {l : Launch} {h0 h : xH} {X D : Nat} {tn : Nat} {tf : Nat → Int32} {rk : Int32} {rv : Nat → Int64} {σ : xs} {β : xs} {γ : xs} {pn : Nat} {τ : Nat → xs} {ks : Nat → Bool} {κ : Nat → xs} {φ : xs → Int32} {hn : Nat} {hf : Nat → Int32} {hg : Nat → Int32} {wn : Nat} {wf : Nat → Int32} {wg : Nat → Int32} (W : xCw K h0 h X D tn tf rk rv σ β γ pn τ ks κ φ hn hf hg wn wf wg) (ok : hOk γ) : xV K B l 3 mX3_runMinute 0 0 (X + 11) [.ref (X + 17)] h (xPi (fun v g => v = bI (hGo γ) ∧ xCw K h0 g X D tn tf rk rv σ β (hRun φ γ) pn τ ks κ φ hn hf hg wn wf wg)) := by
  obtain ⟨n, f, s, hn, H3, hφ⟩ := W.Hu
  refine (s_runMinute W.Hq ok H3 hn (by omega)).post (fun r g q => ?_)
  obtain ⟨rfl, e⟩ := q
  rw [P3_f H3, hφ] at e
  have W1 := W.uu (g := P3 h (X + 17) (ruO (X + 17) (nI n)) (iA K 40 f) (iA K 40 (spN (hMid γ) f (s, 0) n).1)) ⟨rfl, (fB3 rfl).2.1, ⟨n, f, _, hn, (fB3 rfl).2.2, hφ⟩⟩
  exact ⟨_, rfl, rfl, W1.uq (fBH e)⟩
theorem wRem {K : xK} {B : Nat} {l : Launch} {h0 h : xH} {X D : Nat} {tn : Nat} {tf : Nat → Int32} {rk : Int32} {rv : Nat → Int64} {σ : xs} {β : xs} {γ : xs} {pn : Nat} {τ : Nat → xs} {ks : Nat → Bool} {κ : Nat → xs} {φ : xs → Int32} {hn : Nat} {hf : Nat → Int32} {hg : Nat → Int32} {wn : Nat} {wf : Nat → Int32} {wg : Nat → Int32} (W : xCw K h0 h X D tn tf rk rv σ β γ pn τ ks κ φ hn hf hg wn wf wg) (okb : hOk β) : xV K B l 3 mX5_remember 3 21 (X + 14) [.ref (X + 8)] h (xPv (fun g => xCw K h0 g X D tn tf rk rv σ β γ (psn pn) (psh pn τ β) ks κ φ hn hf hg wn wf wg)) := by
  have pXD := W.pXD
  have pD := W.pD
  obtain ⟨pm, pp, kq, τ', h1, h2, h3, h4, h5⟩ := W.Hp
  refine (s_remember h1 W.Hb (by omega) (by omega) pD).post (fun r g q => ?_)
  obtain ⟨rfl, m', p', τ2, P', ht, f1, f2, f3⟩ := q
  obtain ⟨k1, k2, k3, k4, k5, k6, k7⟩ := h1
  have fr : ∀ c, c < D → c ≠ X + 14 → c ≠ X + 15 → g.2 c = h.2 c := fun c hc c0 c1 => f3 c (by omega) c0 c1 (fun i hi => by have := k7 i hi; omega)
  refine ⟨rfl, ?_⟩
  obtain ⟨oX, Ht, Hr, Hh, Hb, Hq, Hp, Hu, Ho, Hd, He, Hi, Hg, Hl, Hc, Hw, pXD, pD, pt, pok, pop, pok2, ph, pw, pf⟩ := W
  refine ⟨frc oX (fun b _ _ => fr b (by omega) (by omega) (by omega)), Ht.frw (fun b _ _ => fr b (by omega) (by omega) (by omega)), Hr.frw (fun b _ _ => fr b (by omega) (by omega) (by omega)), Hh.fr (fun b _ _ => fr b (by omega) (by omega) (by omega)), Hb.fr (fun b _ _ => fr b (by omega) (by omega) (by omega)), Hq.fr (fun b _ _ => fr b (by omega) (by omega) (by omega)), ?_, Hu.frw (fun b _ _ => fr b (by omega) (by omega) (by omega)), Ho.frw (fun b _ _ => fr b (by omega) (by omega) (by omega)), Hd.frw (fun b _ _ => fr b (by omega) (by omega) (by omega)), He.frw (fun b _ _ => fr b (by omega) (by omega) (by omega)), Hi.frw (fun b _ _ => fr b (by omega) (by omega) (by omega)), Hg.frw (fun b _ _ => fr b (by omega) (by omega) (by omega)), Hl.frw (fun b _ _ => fr b (by omega) (by omega) (by omega)), Hc.frw (fun b _ _ => fr b (by omega) (by omega) (by omega)), Hw.frw (fun b _ _ => fr b (by omega) (by omega) (by omega)), pXD, by omega, pt, pok, ?_, pok2, ph, pw, fun c c1 c2 => (fr c (by omega) (by omega) (by omega)).trans (pf c c1 c2)⟩
  · refine ⟨m', p', kq, τ2, P', fun i hi => ?_, (fr _ (by omega) (by omega) (by omega)).trans h3, fun i hi q => ?_, h5⟩
    · rw [ht i hi]
      unfold psh
      by_cases n12 : pn < 12
      · rw [if_pos n12, if_pos n12]
        by_cases e : i = pn
        · rw [if_pos e, if_pos e]
        · have hi' : i < pn + 1 := by have e' : psn pn = pn + 1 := if_pos n12; omega
          rw [if_neg e, if_neg e, h2 i (by omega)]
      · rw [if_neg n12, if_neg n12]
        by_cases e : i = 11
        · rw [if_pos e, if_pos e]
        · have hi' : i < 12 := by have e' : psn pn = 12 := if_neg n12; omega
          rw [if_neg e, if_neg e, h2 (i + 1) (by omega)]
    · obtain ⟨z1, z2, z3, z4⟩ := h4 i hi q
      refine ⟨z1.fr (fun c _ _ => f3 c (by omega) (by omega) (by omega) (fun j hj => by have := z4 j hj; omega)), z2, by omega, fun j hj => ?_⟩
      rcases f2 j hj with ⟨y, hy, ey⟩ | y
      · rw [ey]
        exact z4 y hy
      · omega
  · intro i hi
    unfold psh
    by_cases n12 : pn < 12
    · rw [if_pos n12]
      by_cases e : i = pn
      · rw [if_pos e]
        exact okb
      · have hi' : i < pn + 1 := by have e' : psn pn = pn + 1 := if_pos n12; omega
        rw [if_neg e]
        exact pop i (by omega)
    · rw [if_neg n12]
      by_cases e : i = 11
      · rw [if_pos e]
        exact okb
      · have hi' : i < 12 := by have e' : psn pn = 12 := if_neg n12; omega
        rw [if_neg e]
        exact pop (i + 1) (by omega)
abbrev AC : Type := Int32 × xs × Int32 × (Nat → Int64)
def tl2 (rv : Nat → Int64) (x y : Int32) : Nat → Int64 := vp_updL (vp_updL rv 0 x.toInt64) 1 y.toInt64
def gw (φ : xs → Int32) (σ : xs) (rk : Int32) (rv : Nat → Int64) (a b : Int32) : AC := if a = 0 ∧ b = 0 then (-2, σ, rk, rv) else if σ 14 < hWater σ a b then (-3, σ, rk, rv) else (bc a + bc b, hPass (hTravel σ a b) (φ (hTravel σ a b)), 2, tl2 rv (hWater σ a b) (hPass (hTravel σ a b) (φ (hTravel σ a b)) 14))
set_option maxRecDepth 20000 in
theorem s_goWith {K : xK} {B : Nat} {l : Launch} {h0 h : xH} {X D : Nat} {tn : Nat} {tf : Nat → Int32} {rk : Int32} {rv : Nat → Int64} {σ : xs} {β : xs} {γ : xs} {pn : Nat} {τ : Nat → xs} {ks : Nat → Bool} {κ : Nat → xs} {φ : xs → Int32} {hn : Nat} {hf : Nat → Int32} {hg : Nat → Int32} {wn : Nat} {wf : Nat → Int32} {wg : Nat → Int32} (W : xCw K h0 h X D tn tf rk rv σ β γ pn τ ks κ φ hn hf hg wn wf wg) (x y : Int32) : xV K B l 3 mX11_goWith 0 0 (X) [.int x, .int y] h (xPi (fun v g => v = (gw φ σ rk rv x y).1 ∧ xCw K h0 g X D tn tf ((gw φ σ rk rv x y).2.2.1) ((gw φ σ rk rv x y).2.2.2) ((gw φ σ rk rv x y).2.1) β γ pn τ ks κ φ hn hf hg wn wf wg)) := by
  refine ⟨⟨_, _, _, _, W.oX, rfl⟩, qX11_goWith, ?_⟩
  refine xS.intro RX11 false ⟨rfl, rfl, by decide, by decide, Nat.le_of_ble_eq_true rfl⟩ (ls := [some (.ref X), some (.int x), some (.int y), none]) rfl ?_
  refine xr_il1 dX11_goWith_0 ?_
  refine xr_ifne (tgt := 11) dX11_goWith_1 (by decide) (fun zc1 => ?_) (fun zc1 => ?_)
  · skip
    refine xr_al0 dX11_goWith_11 ?_
    refine xr_get W.oX fX11_26 rfl dX11_goWith_12 ?_
    refine xr_il1 dX11_goWith_15 ?_
    refine xr_il2 dX11_goWith_16 ?_
    refine xr_Vi2 (s_waterFor W.Hh W.pok _ _) kX11_218 (by decide) (Nat.le_of_ble_eq_true rfl) (Nat.zero_add _) (Nat.zero_add _) dX11_goWith_17 ?_
    refine xr_is3 dX11_goWith_20 (by decide) rfl ?_
    refine xr_al0 dX11_goWith_21 ?_
    refine xr_get W.oX fX11_26 rfl dX11_goWith_22 ?_
    refine xr_get W.Hh.1 fX11_221 rfl dX11_goWith_25 ?_
    refine xr_il3 dX11_goWith_28 ?_
    refine xr_icmpge (tgt := 35) dX11_goWith_29 (by decide) (fun zc29 => ?_) (fun zc29 => ?_)
    · skip
      refine xr_al0 dX11_goWith_35 ?_
      refine xr_get W.oX fX11_26 rfl dX11_goWith_36 ?_
      refine xr_il1 dX11_goWith_39 ?_
      refine xr_il2 dX11_goWith_40 ?_
      refine xr_Vv2 (s_travel W.Hh W.pok _ _) kX11_225 (by decide) (Nat.le_of_ble_eq_true rfl) (Nat.zero_add _) (Nat.zero_add _) dX11_goWith_41 ?_
      refine xT.nm (fun zh1 zg1 => ?_)
      have W := W.uh (fBH zg1) (hOk_travel W.pok _ _)
      refine xr_al0 dX11_goWith_44 ?_
      refine xr_get W.oX fX11_26 rfl dX11_goWith_45 ?_
      refine xr_al0 dX11_goWith_48 ?_
      refine xr_get W.oX fX11_50 rfl dX11_goWith_49 ?_
      refine xr_al0 dX11_goWith_52 ?_
      refine xr_get W.oX fX11_26 rfl dX11_goWith_53 ?_
      refine xr_Vpi1 (wSpring W) kX11_229 (by decide) (Nat.le_of_ble_eq_true rfl) (Nat.zero_add _) (Nat.zero_add _) dX11_goWith_56 (fun zv56 zh2 zq2 => ?_)
      obtain ⟨rfl, W⟩ := zq2
      refine xr_Vv1 (s_passMinute W.Hh _) kX11_233 (by decide) (Nat.le_of_ble_eq_true rfl) (Nat.zero_add _) (Nat.zero_add _) dX11_goWith_59 ?_
      refine xT.nm (fun zh3 zg3 => ?_)
      have W := W.uh (fBH zg3) (hOk_pass W.pok _)
      refine xr_al0 dX11_goWith_62 ?_
      refine xr_get W.oX fX11_19 rfl dX11_goWith_63 ?_
      refine xr_il3 dX11_goWith_66 ?_
      refine xr_i2l dX11_goWith_67 ?_
      refine xr_al0 dX11_goWith_68 ?_
      refine xr_get W.oX fX11_26 rfl dX11_goWith_69 ?_
      refine xr_get W.Hh.1 fX11_221 rfl dX11_goWith_72 ?_
      refine xr_i2l dX11_goWith_75 ?_
      refine xr_Vv2 (s_tell2 W.Hr _ _) kX11_236 (by decide) (Nat.le_of_ble_eq_true rfl) (Nat.zero_add _) (Nat.zero_add _) dX11_goWith_76 ?_
      refine xT.nm (fun zh4 zg4 => ?_)
      have W := W.ur (fB2 zg4)
      refine xr_il1 dX11_goWith_79 ?_
      refine xr_Si1 (s_bitCount _) kX11_240 (by decide) (Nat.le_of_ble_eq_true rfl) (Nat.zero_add _) (Nat.zero_add _) dX11_goWith_80 ?_
      refine xr_il2 dX11_goWith_83 ?_
      refine xr_Si1 (s_bitCount _) kX11_240 (by decide) (Nat.le_of_ble_eq_true rfl) (Nat.zero_add _) (Nat.zero_add _) dX11_goWith_84 ?_
      refine xr_iadd dX11_goWith_87 ?_
      refine xr_iret dX11_goWith_88 rfl ?_
      have e : (gw φ σ rk rv x y) = _ := (if_neg (fun q => zc1 q.1)).trans (if_neg (Int32.not_lt.mpr zc29))
      rw [e]
      exact ⟨_, rfl, rfl, W⟩
    · skip
      refine xr_bipush (v := (-3)) dX11_goWith_32 (by decide) ?_
      refine xr_iret dX11_goWith_34 rfl ?_
      have e : (gw φ σ rk rv x y) = _ := (if_neg (fun q => zc1 q.1)).trans (if_pos (Int32.not_le.mp zc29))
      rw [e]
      exact ⟨_, rfl, rfl, W⟩
  · skip
    refine xr_il2 dX11_goWith_4 ?_
    refine xr_ifne (tgt := 11) dX11_goWith_5 (by decide) (fun zc5 => ?_) (fun zc5 => ?_)
    · skip
      refine xr_al0 dX11_goWith_11 ?_
      refine xr_get W.oX fX11_26 rfl dX11_goWith_12 ?_
      refine xr_il1 dX11_goWith_15 ?_
      refine xr_il2 dX11_goWith_16 ?_
      refine xr_Vi2 (s_waterFor W.Hh W.pok _ _) kX11_218 (by decide) (Nat.le_of_ble_eq_true rfl) (Nat.zero_add _) (Nat.zero_add _) dX11_goWith_17 ?_
      refine xr_is3 dX11_goWith_20 (by decide) rfl ?_
      refine xr_al0 dX11_goWith_21 ?_
      refine xr_get W.oX fX11_26 rfl dX11_goWith_22 ?_
      refine xr_get W.Hh.1 fX11_221 rfl dX11_goWith_25 ?_
      refine xr_il3 dX11_goWith_28 ?_
      refine xr_icmpge (tgt := 35) dX11_goWith_29 (by decide) (fun zc29 => ?_) (fun zc29 => ?_)
      · skip
        refine xr_al0 dX11_goWith_35 ?_
        refine xr_get W.oX fX11_26 rfl dX11_goWith_36 ?_
        refine xr_il1 dX11_goWith_39 ?_
        refine xr_il2 dX11_goWith_40 ?_
        refine xr_Vv2 (s_travel W.Hh W.pok _ _) kX11_225 (by decide) (Nat.le_of_ble_eq_true rfl) (Nat.zero_add _) (Nat.zero_add _) dX11_goWith_41 ?_
        refine xT.nm (fun zh1 zg1 => ?_)
        have W := W.uh (fBH zg1) (hOk_travel W.pok _ _)
        refine xr_al0 dX11_goWith_44 ?_
        refine xr_get W.oX fX11_26 rfl dX11_goWith_45 ?_
        refine xr_al0 dX11_goWith_48 ?_
        refine xr_get W.oX fX11_50 rfl dX11_goWith_49 ?_
        refine xr_al0 dX11_goWith_52 ?_
        refine xr_get W.oX fX11_26 rfl dX11_goWith_53 ?_
        refine xr_Vpi1 (wSpring W) kX11_229 (by decide) (Nat.le_of_ble_eq_true rfl) (Nat.zero_add _) (Nat.zero_add _) dX11_goWith_56 (fun zv56 zh2 zq2 => ?_)
        obtain ⟨rfl, W⟩ := zq2
        refine xr_Vv1 (s_passMinute W.Hh _) kX11_233 (by decide) (Nat.le_of_ble_eq_true rfl) (Nat.zero_add _) (Nat.zero_add _) dX11_goWith_59 ?_
        refine xT.nm (fun zh3 zg3 => ?_)
        have W := W.uh (fBH zg3) (hOk_pass W.pok _)
        refine xr_al0 dX11_goWith_62 ?_
        refine xr_get W.oX fX11_19 rfl dX11_goWith_63 ?_
        refine xr_il3 dX11_goWith_66 ?_
        refine xr_i2l dX11_goWith_67 ?_
        refine xr_al0 dX11_goWith_68 ?_
        refine xr_get W.oX fX11_26 rfl dX11_goWith_69 ?_
        refine xr_get W.Hh.1 fX11_221 rfl dX11_goWith_72 ?_
        refine xr_i2l dX11_goWith_75 ?_
        refine xr_Vv2 (s_tell2 W.Hr _ _) kX11_236 (by decide) (Nat.le_of_ble_eq_true rfl) (Nat.zero_add _) (Nat.zero_add _) dX11_goWith_76 ?_
        refine xT.nm (fun zh4 zg4 => ?_)
        have W := W.ur (fB2 zg4)
        refine xr_il1 dX11_goWith_79 ?_
        refine xr_Si1 (s_bitCount _) kX11_240 (by decide) (Nat.le_of_ble_eq_true rfl) (Nat.zero_add _) (Nat.zero_add _) dX11_goWith_80 ?_
        refine xr_il2 dX11_goWith_83 ?_
        refine xr_Si1 (s_bitCount _) kX11_240 (by decide) (Nat.le_of_ble_eq_true rfl) (Nat.zero_add _) (Nat.zero_add _) dX11_goWith_84 ?_
        refine xr_iadd dX11_goWith_87 ?_
        refine xr_iret dX11_goWith_88 rfl ?_
        have e : (gw φ σ rk rv x y) = _ := (if_neg (fun q => zc5 q.2)).trans (if_neg (Int32.not_lt.mpr zc29))
        rw [e]
        exact ⟨_, rfl, rfl, W⟩
      · skip
        refine xr_bipush (v := (-3)) dX11_goWith_32 (by decide) ?_
        refine xr_iret dX11_goWith_34 rfl ?_
        have e : (gw φ σ rk rv x y) = _ := (if_neg (fun q => zc5 q.2)).trans (if_pos (Int32.not_le.mp zc29))
        rw [e]
        exact ⟨_, rfl, rfl, W⟩
    · skip
      refine xr_bipush (v := (-2)) dX11_goWith_8 (by decide) ?_
      refine xr_iret dX11_goWith_10 rfl ?_
      have e : (gw φ σ rk rv x y) = _ := if_pos ⟨zc1, zc5⟩
      rw [e]
      exact ⟨_, rfl, rfl, W⟩
set_option maxRecDepth 20000 in
theorem s_goNext {K : xK} {B : Nat} {l : Launch} {h0 h : xH} {X D : Nat} {tn : Nat} {tf : Nat → Int32} {rk : Int32} {rv : Nat → Int64} {σ : xs} {β : xs} {γ : xs} {pn : Nat} {τ : Nat → xs} {ks : Nat → Bool} {κ : Nat → xs} {φ : xs → Int32} {hn : Nat} {hf : Nat → Int32} {hg : Nat → Int32} {wn : Nat} {wf : Nat → Int32} {wg : Nat → Int32} (W : xCw K h0 h X D tn tf rk rv σ β γ pn τ ks κ φ hn hf hg wn wf wg) : xV K B l 4 mX11_goNext 0 0 (X) [] h (xPi (fun v g => v = (gw φ σ rk rv (hNext σ 0) (hNext σ 1)).1 ∧ xCw K h0 g X D tn tf ((gw φ σ rk rv (hNext σ 0) (hNext σ 1)).2.2.1) ((gw φ σ rk rv (hNext σ 0) (hNext σ 1)).2.2.2) ((gw φ σ rk rv (hNext σ 0) (hNext σ 1)).2.1) β γ pn τ ks κ φ hn hf hg wn wf wg)) := by
  refine ⟨⟨_, _, _, _, W.oX, rfl⟩, qX11_goNext, ?_⟩
  refine xS.intro RX11 false ⟨rfl, rfl, by decide, by decide, Nat.le_of_ble_eq_true rfl⟩ (ls := [some (.ref X)]) rfl ?_
  refine xr_al0 dX11_goNext_0 ?_
  refine xr_al0 dX11_goNext_1 ?_
  refine xr_get W.oX fX11_26 rfl dX11_goNext_2 ?_
  refine xr_ic0 dX11_goNext_5 ?_
  refine xr_Vi1 (s_nextOf W.Hh _) kX11_215 (by decide) (Nat.le_of_ble_eq_true rfl) (Nat.zero_add _) (Nat.zero_add _) dX11_goNext_6 ?_
  refine xr_al0 dX11_goNext_9 ?_
  refine xr_get W.oX fX11_26 rfl dX11_goNext_10 ?_
  refine xr_ic1 dX11_goNext_13 ?_
  refine xr_Vi1 (s_nextOf W.Hh _) kX11_215 (by decide) (Nat.le_of_ble_eq_true rfl) (Nat.zero_add _) (Nat.zero_add _) dX11_goNext_14 ?_
  refine xr_Vpi2 (s_goWith W _ _) kX11_191 (by decide) (Nat.le_of_ble_eq_true rfl) (Nat.zero_add _) (Nat.zero_add _) dX11_goNext_17 (fun zv17 zh1 zq1 => ?_)
  obtain ⟨rfl, W⟩ := zq1
  refine xr_iret dX11_goNext_20 rfl ?_
  exact ⟨_, rfl, rfl, W⟩
def rn_ (r : Int32) (n : Nat) : Nat := if r < 0 then n else psn n
def rt_ (r : Int32) (n : Nat) (τ : Nat → xs) (σ : xs) : Nat → xs := if r < 0 then τ else psh n τ σ
set_option maxRecDepth 20000 in
theorem s_remembered {K : xK} {B : Nat} {l : Launch} {h0 h : xH} {X D : Nat} {tn : Nat} {tf : Nat → Int32} {rk : Int32} {rv : Nat → Int64} {σ : xs} {β : xs} {γ : xs} {pn : Nat} {τ : Nat → xs} {ks : Nat → Bool} {κ : Nat → xs} {φ : xs → Int32} {hn : Nat} {hf : Nat → Int32} {hg : Nat → Int32} {wn : Nat} {wf : Nat → Int32} {wg : Nat → Int32} (W : xCw K h0 h X D tn tf rk rv σ β γ pn τ ks κ φ hn hf hg wn wf wg) (okb : hOk β) (r : Int32) : xV K B l 4 mX11_remembered 3 21 (X) [.int r] h (xPi (fun v g => v = r ∧ xCw K h0 g X D tn tf rk rv σ β γ (rn_ r pn) (rt_ r pn τ β) ks κ φ hn hf hg wn wf wg)) := by
  refine ⟨⟨_, _, _, _, W.oX, rfl⟩, qX11_remembered, ?_⟩
  refine xS.intro RX11 false ⟨rfl, rfl, by decide, by decide, Nat.le_of_ble_eq_true rfl⟩ (ls := [some (.ref X), some (.int r)]) rfl ?_
  refine xr_il1 dX11_remembered_0 ?_
  refine xr_iflt (tgt := 15) dX11_remembered_1 (by decide) (fun zc1 => ?_) (fun zc1 => ?_)
  · skip
    refine xr_il1 dX11_remembered_15 ?_
    refine xr_iret dX11_remembered_16 rfl ?_
    refine ⟨_, rfl, rfl, ?_⟩
    unfold rn_ rt_
    rw [if_pos zc1, if_pos zc1]
    exact W
  · skip
    refine xr_al0 dX11_remembered_4 ?_
    refine xr_get W.oX fX11_39 rfl dX11_remembered_5 ?_
    refine xr_al0 dX11_remembered_8 ?_
    refine xr_get W.oX fX11_30 rfl dX11_remembered_9 ?_
    refine xr_Vpv1 (wRem W okb) kX11_212 (by decide) (Nat.le_of_ble_eq_true rfl) (rc' := 0) (rs' := 0) rfl rfl dX11_remembered_12 (fun zh1 zq1 => ?_)
    have W := zq1
    refine xr_il1 dX11_remembered_15 ?_
    refine xr_iret dX11_remembered_16 rfl ?_
    refine ⟨_, rfl, rfl, ?_⟩
    unfold rn_ rt_
    rw [if_neg zc1, if_neg zc1]
    exact W
set_option maxRecDepth 20000 in
theorem s_trip {K : xK} {B : Nat} {l : Launch} {h0 h : xH} {X D : Nat} {tn : Nat} {tf : Nat → Int32} {rk : Int32} {rv : Nat → Int64} {σ : xs} {β : xs} {γ : xs} {pn : Nat} {τ : Nat → xs} {ks : Nat → Bool} {κ : Nat → xs} {φ : xs → Int32} {hn : Nat} {hf : Nat → Int32} {hg : Nat → Int32} {wn : Nat} {wf : Nat → Int32} {wg : Nat → Int32} (W : xCw K h0 h X D tn tf rk rv σ β γ pn τ ks κ φ hn hf hg wn wf wg) : xV K B l 5 mX11_trip 3 21 (X) [] h (xPi (fun v g => v = (gw φ σ rk rv (hNext σ 0) (hNext σ 1)).1 ∧ xCw K h0 g X D tn tf ((gw φ σ rk rv (hNext σ 0) (hNext σ 1)).2.2.1) ((gw φ σ rk rv (hNext σ 0) (hNext σ 1)).2.2.2) ((gw φ σ rk rv (hNext σ 0) (hNext σ 1)).2.1) σ γ (rn_ (gw φ σ rk rv (hNext σ 0) (hNext σ 1)).1 pn) (rt_ (gw φ σ rk rv (hNext σ 0) (hNext σ 1)).1 pn τ σ) ks κ φ hn hf hg wn wf wg)) := by
  refine ⟨⟨_, _, _, _, W.oX, rfl⟩, qX11_trip, ?_⟩
  refine xS.intro RX11 false ⟨rfl, rfl, by decide, by decide, Nat.le_of_ble_eq_true rfl⟩ (ls := [some (.ref X)]) rfl ?_
  refine xr_al0 dX11_trip_0 ?_
  refine xr_get W.oX fX11_30 rfl dX11_trip_1 ?_
  refine xr_al0 dX11_trip_4 ?_
  refine xr_get W.oX fX11_26 rfl dX11_trip_5 ?_
  refine xr_Vv1 (s_copyFrom W.Hb W.Hh (by omega)) kX11_179 (by decide) (Nat.le_of_ble_eq_true rfl) (Nat.zero_add _) (Nat.zero_add _) dX11_trip_8 ?_
  refine xT.nm (fun zh1 zg1 => ?_)
  have okb := W.pok
  have W := W.ub (fBH zg1)
  refine xr_al0 dX11_trip_11 ?_
  refine xr_al0 dX11_trip_12 ?_
  refine xr_Vpi0 (s_goNext W) kX11_182 (by decide) (Nat.le_of_ble_eq_true rfl) (Nat.zero_add _) (Nat.zero_add _) dX11_trip_13 (fun zv13 zh2 zq2 => ?_)
  obtain ⟨rfl, W⟩ := zq2
  refine xr_Vpi1 (s_remembered W okb _) kX11_185 (by decide) (Nat.le_of_ble_eq_true rfl) (rc' := 0) (rs' := 0) rfl rfl dX11_trip_16 (fun zv16 zh3 zq3 => ?_)
  obtain ⟨rfl, W⟩ := zq3
  refine xr_iret dX11_trip_19 rfl ?_
  exact ⟨_, rfl, rfl, W⟩
def sendsOk (σ : xs) (x y : Int32) : Bool := decide (hMay σ 0 x ∧ hMay σ 1 y)
set_option maxRecDepth 20000 in
theorem s_sends {K : xK} {B : Nat} {l : Launch} {h0 h : xH} {X D : Nat} {tn : Nat} {tf : Nat → Int32} {rk : Int32} {rv : Nat → Int64} {σ : xs} {β : xs} {γ : xs} {pn : Nat} {τ : Nat → xs} {ks : Nat → Bool} {κ : Nat → xs} {φ : xs → Int32} {hn : Nat} {hf : Nat → Int32} {hg : Nat → Int32} {wn : Nat} {wf : Nat → Int32} {wg : Nat → Int32} (W : xCw K h0 h X D tn tf rk rv σ β γ pn τ ks κ φ hn hf hg wn wf wg) (x y : Int32) : xV K B l 5 mX11_sends 3 21 (X) [.int x, .int y] h (xPi (fun v g => (¬ (hMay σ 0 x ∧ hMay σ 1 y) ∧ v = -1 ∧ xCw K h0 g X D tn tf rk rv σ β γ pn τ ks κ φ hn hf hg wn wf wg) ∨ (hMay σ 0 x ∧ hMay σ 1 y) ∧ v = (gw φ σ rk rv x y).1 ∧ xCw K h0 g X D tn tf ((gw φ σ rk rv x y).2.2.1) ((gw φ σ rk rv x y).2.2.2) ((gw φ σ rk rv x y).2.1) σ γ (rn_ (gw φ σ rk rv x y).1 pn) (rt_ (gw φ σ rk rv x y).1 pn τ σ) ks κ φ hn hf hg wn wf wg)) := by
  refine ⟨⟨_, _, _, _, W.oX, rfl⟩, qX11_sends, ?_⟩
  refine xS.intro RX11 false ⟨rfl, rfl, by decide, by decide, Nat.le_of_ble_eq_true rfl⟩ (ls := [some (.ref X), some (.int x), some (.int y)]) rfl ?_
  refine xr_al0 dX11_sends_0 ?_
  refine xr_get W.oX fX11_26 rfl dX11_sends_1 ?_
  refine xr_ic0 dX11_sends_4 ?_
  refine xr_il1 dX11_sends_5 ?_
  refine xr_Vi2 (s_mayBoard W.Hh _ _) kX11_188 (by decide) (Nat.le_of_ble_eq_true rfl) (Nat.zero_add _) (Nat.zero_add _) dX11_sends_6 ?_
  refine xr_ifeq (tgt := 24) dX11_sends_9 (by decide) (fun zc9 => ?_) (fun zc9 => ?_)
  · skip
    refine xr_icm1 dX11_sends_24 ?_
    refine xr_iret dX11_sends_25 rfl ?_
    exact ⟨_, rfl, Or.inl ⟨fun q => bI_0.mp zc9 q.1, rfl, W⟩⟩
  · skip
    refine xr_al0 dX11_sends_12 ?_
    refine xr_get W.oX fX11_26 rfl dX11_sends_13 ?_
    refine xr_ic1 dX11_sends_16 ?_
    refine xr_il2 dX11_sends_17 ?_
    refine xr_Vi2 (s_mayBoard W.Hh _ _) kX11_188 (by decide) (Nat.le_of_ble_eq_true rfl) (Nat.zero_add _) (Nat.zero_add _) dX11_sends_18 ?_
    refine xr_ifne (tgt := 26) dX11_sends_21 (by decide) (fun zc21 => ?_) (fun zc21 => ?_)
    · skip
      refine xr_al0 dX11_sends_26 ?_
      refine xr_get W.oX fX11_30 rfl dX11_sends_27 ?_
      refine xr_al0 dX11_sends_30 ?_
      refine xr_get W.oX fX11_26 rfl dX11_sends_31 ?_
      refine xr_Vv1 (s_copyFrom W.Hb W.Hh (by omega)) kX11_179 (by decide) (Nat.le_of_ble_eq_true rfl) (Nat.zero_add _) (Nat.zero_add _) dX11_sends_34 ?_
      refine xT.nm (fun zh1 zg1 => ?_)
      have okb := W.pok
      have W := W.ub (fBH zg1)
      refine xr_al0 dX11_sends_37 ?_
      refine xr_al0 dX11_sends_38 ?_
      refine xr_il1 dX11_sends_39 ?_
      refine xr_il2 dX11_sends_40 ?_
      refine xr_Vpi2 (s_goWith W _ _) kX11_191 (by decide) (Nat.le_of_ble_eq_true rfl) (Nat.zero_add _) (Nat.zero_add _) dX11_sends_41 (fun zv41 zh2 zq2 => ?_)
      obtain ⟨rfl, W⟩ := zq2
      refine xr_Vpi1 (s_remembered W okb _) kX11_185 (by decide) (Nat.le_of_ble_eq_true rfl) (rc' := 0) (rs' := 0) rfl rfl dX11_sends_44 (fun zv44 zh3 zq3 => ?_)
      obtain ⟨rfl, W⟩ := zq3
      refine xr_iret dX11_sends_47 rfl ?_
      exact ⟨_, rfl, Or.inr ⟨⟨Decidable.not_not.mp (fun q => zc9 (bI_0.mpr q)), Decidable.not_not.mp (fun q => zc21 (bI_0.mpr q))⟩, rfl, W⟩⟩
    · skip
      refine xr_icm1 dX11_sends_24 ?_
      refine xr_iret dX11_sends_25 rfl ?_
      exact ⟨_, rfl, Or.inl ⟨fun q => bI_0.mp zc21 q.2, rfl, W⟩⟩
def aGrip (σ : xs) (rk : Int32) (rv : Nat → Int64) (v : Int32) : AC := if v < 0 ∨ 9 < v then (-1, σ, rk, rv) else if v = σ 13 then (-2, σ, rk, rv) else (10 + σ 13, upd σ 13 v, rk, rv)
def aSeats (σ : xs) (rk : Int32) (rv : Nat → Int64) (v : Int32) : AC := if v < 1 ∨ 3 < v then (-1, σ, rk, rv) else if v = σ 12 then (-2, σ, rk, rv) else (10 + σ 12, upd σ 12 v, rk, rv)
def aAway (σ : xs) (rk : Int32) (rv : Nat → Int64) (side k : Int32) : AC := if hHas σ side k then (hWaits (hTake σ side.toNatClampNeg ((1 : Int32) <<< (k &&& 31))) side, hTake σ side.toNatClampNeg ((1 : Int32) <<< (k &&& 31)), rk, rv) else (-1, σ, rk, rv)
def aSwap (σ : xs) (rk : Int32) (rv : Nat → Int64) (side k : Int32) : AC := if ¬ hHas σ side k then (-1, σ, rk, rv) else if k + 1 < hWaits σ side then (hWat (hExch σ side k (k + 1)) side k, hExch σ side k (k + 1), rk, rv) else (-2, σ, rk, rv)
def aOut (σ : xs) (rk : Int32) (rv : Nat → Int64) (v : Int32) : AC := if v < 1 ∨ 99 < v then (-1, σ, rk, rv) else if σ 14 < v then (-2, σ, rk, rv) else (σ 14 - v, upd σ 14 (σ 14 - v), rk, rv)
set_option maxRecDepth 20000 in
theorem s_setGrip {K : xK} {B : Nat} {l : Launch} {h0 h : xH} {X D : Nat} {tn : Nat} {tf : Nat → Int32} {rk : Int32} {rv : Nat → Int64} {σ : xs} {β : xs} {γ : xs} {pn : Nat} {τ : Nat → xs} {ks : Nat → Bool} {κ : Nat → xs} {φ : xs → Int32} {hn : Nat} {hf : Nat → Int32} {hg : Nat → Int32} {wn : Nat} {wf : Nat → Int32} {wg : Nat → Int32} (W : xCw K h0 h X D tn tf rk rv σ β γ pn τ ks κ φ hn hf hg wn wf wg) (x : Int32) : xV K B l 0 mX11_setGrip 0 0 (X) [.int x] h (xPi (fun v g => v = (aGrip σ rk rv x).1 ∧ xCw K h0 g X D tn tf ((aGrip σ rk rv x).2.2.1) ((aGrip σ rk rv x).2.2.2) ((aGrip σ rk rv x).2.1) β γ pn τ ks κ φ hn hf hg wn wf wg)) := by
  refine ⟨⟨_, _, _, _, W.oX, rfl⟩, qX11_setGrip, ?_⟩
  refine xS.intro RX11 false ⟨rfl, rfl, by decide, by decide, Nat.le_of_ble_eq_true rfl⟩ (ls := [some (.ref X), some (.int x), none]) rfl ?_
  refine xr_il1 dX11_setGrip_0 ?_
  refine xr_iflt (tgt := 10) dX11_setGrip_1 (by decide) (fun zc1 => ?_) (fun zc1 => ?_)
  · skip
    refine xr_icm1 dX11_setGrip_10 ?_
    refine xr_iret dX11_setGrip_11 rfl ?_
    have e : (aGrip σ rk rv x) = _ := if_pos (Or.inl zc1)
    rw [e]
    exact ⟨_, rfl, rfl, W⟩
  · skip
    refine xr_il1 dX11_setGrip_4 ?_
    refine xr_bipush (v := 9) dX11_setGrip_5 (by decide) ?_
    refine xr_icmple (tgt := 12) dX11_setGrip_7 (by decide) (fun zc7 => ?_) (fun zc7 => ?_)
    · skip
      refine xr_il1 dX11_setGrip_12 ?_
      refine xr_al0 dX11_setGrip_13 ?_
      refine xr_get W.oX fX11_26 rfl dX11_setGrip_14 ?_
      refine xr_get W.Hh.1 fX11_253 rfl dX11_setGrip_17 ?_
      refine xr_icmpne (tgt := 26) dX11_setGrip_20 (by decide) (fun zc20 => ?_) (fun zc20 => ?_)
      · skip
        refine xr_al0 dX11_setGrip_26 ?_
        refine xr_get W.oX fX11_26 rfl dX11_setGrip_27 ?_
        refine xr_get W.Hh.1 fX11_253 rfl dX11_setGrip_30 ?_
        refine xr_is2 dX11_setGrip_33 (by decide) rfl ?_
        refine xr_al0 dX11_setGrip_34 ?_
        refine xr_get W.oX fX11_26 rfl dX11_setGrip_35 ?_
        refine xr_il1 dX11_setGrip_38 ?_
        refine xr_put W.Hh.1 fX11_253 (Nat.le_of_ble_eq_true rfl) rfl rfl dX11_setGrip_39 ?_
        refine xT.nm (fun zh1 zg1 => ?_)
        rw [zg1]
        refine xT.equiv (hill_f W.Hh (i := 13) (by decide) x rfl) ?_
        refine xT.nm (fun zk1 zw1 => ?_)
        have W := W.uh (fBH zw1) (hOk_upd W.pok (by decide) _)
        refine xr_bipush (v := 10) dX11_setGrip_42 (by decide) ?_
        refine xr_il2 dX11_setGrip_44 ?_
        refine xr_iadd dX11_setGrip_45 ?_
        refine xr_iret dX11_setGrip_46 rfl ?_
        have e : (aGrip σ rk rv x) = _ := (if_neg (fun q => q.elim zc1 (Int32.not_lt.mpr zc7))).trans (if_neg zc20)
        rw [e]
        exact ⟨_, rfl, rfl, W⟩
      · skip
        refine xr_bipush (v := (-2)) dX11_setGrip_23 (by decide) ?_
        refine xr_iret dX11_setGrip_25 rfl ?_
        have e : (aGrip σ rk rv x) = _ := (if_neg (fun q => q.elim zc1 (Int32.not_lt.mpr zc7))).trans (if_pos zc20)
        rw [e]
        exact ⟨_, rfl, rfl, W⟩
    · skip
      refine xr_icm1 dX11_setGrip_10 ?_
      refine xr_iret dX11_setGrip_11 rfl ?_
      have e : (aGrip σ rk rv x) = _ := if_pos (Or.inr (Int32.not_le.mp zc7))
      rw [e]
      exact ⟨_, rfl, rfl, W⟩
set_option maxRecDepth 20000 in
theorem s_setSeats {K : xK} {B : Nat} {l : Launch} {h0 h : xH} {X D : Nat} {tn : Nat} {tf : Nat → Int32} {rk : Int32} {rv : Nat → Int64} {σ : xs} {β : xs} {γ : xs} {pn : Nat} {τ : Nat → xs} {ks : Nat → Bool} {κ : Nat → xs} {φ : xs → Int32} {hn : Nat} {hf : Nat → Int32} {hg : Nat → Int32} {wn : Nat} {wf : Nat → Int32} {wg : Nat → Int32} (W : xCw K h0 h X D tn tf rk rv σ β γ pn τ ks κ φ hn hf hg wn wf wg) (x : Int32) : xV K B l 0 mX11_setSeats 0 0 (X) [.int x] h (xPi (fun v g => v = (aSeats σ rk rv x).1 ∧ xCw K h0 g X D tn tf ((aSeats σ rk rv x).2.2.1) ((aSeats σ rk rv x).2.2.2) ((aSeats σ rk rv x).2.1) β γ pn τ ks κ φ hn hf hg wn wf wg)) := by
  refine ⟨⟨_, _, _, _, W.oX, rfl⟩, qX11_setSeats, ?_⟩
  refine xS.intro RX11 false ⟨rfl, rfl, by decide, by decide, Nat.le_of_ble_eq_true rfl⟩ (ls := [some (.ref X), some (.int x), none]) rfl ?_
  refine xr_il1 dX11_setSeats_0 ?_
  refine xr_ic1 dX11_setSeats_1 ?_
  refine xr_icmplt (tgt := 10) dX11_setSeats_2 (by decide) (fun zc2 => ?_) (fun zc2 => ?_)
  · skip
    refine xr_icm1 dX11_setSeats_10 ?_
    refine xr_iret dX11_setSeats_11 rfl ?_
    have e : (aSeats σ rk rv x) = _ := if_pos (Or.inl zc2)
    rw [e]
    exact ⟨_, rfl, rfl, W⟩
  · skip
    refine xr_il1 dX11_setSeats_5 ?_
    refine xr_ic3 dX11_setSeats_6 ?_
    refine xr_icmple (tgt := 12) dX11_setSeats_7 (by decide) (fun zc7 => ?_) (fun zc7 => ?_)
    · skip
      refine xr_il1 dX11_setSeats_12 ?_
      refine xr_al0 dX11_setSeats_13 ?_
      refine xr_get W.oX fX11_26 rfl dX11_setSeats_14 ?_
      refine xr_get W.Hh.1 fX11_256 rfl dX11_setSeats_17 ?_
      refine xr_icmpne (tgt := 26) dX11_setSeats_20 (by decide) (fun zc20 => ?_) (fun zc20 => ?_)
      · skip
        refine xr_al0 dX11_setSeats_26 ?_
        refine xr_get W.oX fX11_26 rfl dX11_setSeats_27 ?_
        refine xr_get W.Hh.1 fX11_256 rfl dX11_setSeats_30 ?_
        refine xr_is2 dX11_setSeats_33 (by decide) rfl ?_
        refine xr_al0 dX11_setSeats_34 ?_
        refine xr_get W.oX fX11_26 rfl dX11_setSeats_35 ?_
        refine xr_il1 dX11_setSeats_38 ?_
        refine xr_put W.Hh.1 fX11_256 (Nat.le_of_ble_eq_true rfl) rfl rfl dX11_setSeats_39 ?_
        refine xT.nm (fun zh1 zg1 => ?_)
        rw [zg1]
        refine xT.equiv (hill_f W.Hh (i := 12) (by decide) x rfl) ?_
        refine xT.nm (fun zk1 zw1 => ?_)
        have W := W.uh (fBH zw1) (hOk_seats W.pok zc2 zc7)
        refine xr_bipush (v := 10) dX11_setSeats_42 (by decide) ?_
        refine xr_il2 dX11_setSeats_44 ?_
        refine xr_iadd dX11_setSeats_45 ?_
        refine xr_iret dX11_setSeats_46 rfl ?_
        have e : (aSeats σ rk rv x) = _ := (if_neg (fun q => q.elim zc2 (Int32.not_lt.mpr zc7))).trans (if_neg zc20)
        rw [e]
        exact ⟨_, rfl, rfl, W⟩
      · skip
        refine xr_bipush (v := (-2)) dX11_setSeats_23 (by decide) ?_
        refine xr_iret dX11_setSeats_25 rfl ?_
        have e : (aSeats σ rk rv x) = _ := (if_neg (fun q => q.elim zc2 (Int32.not_lt.mpr zc7))).trans (if_pos zc20)
        rw [e]
        exact ⟨_, rfl, rfl, W⟩
    · skip
      refine xr_icm1 dX11_setSeats_10 ?_
      refine xr_iret dX11_setSeats_11 rfl ?_
      have e : (aSeats σ rk rv x) = _ := if_pos (Or.inr (Int32.not_le.mp zc7))
      rw [e]
      exact ⟨_, rfl, rfl, W⟩
set_option maxRecDepth 20000 in
theorem s_letOut {K : xK} {B : Nat} {l : Launch} {h0 h : xH} {X D : Nat} {tn : Nat} {tf : Nat → Int32} {rk : Int32} {rv : Nat → Int64} {σ : xs} {β : xs} {γ : xs} {pn : Nat} {τ : Nat → xs} {ks : Nat → Bool} {κ : Nat → xs} {φ : xs → Int32} {hn : Nat} {hf : Nat → Int32} {hg : Nat → Int32} {wn : Nat} {wf : Nat → Int32} {wg : Nat → Int32} (W : xCw K h0 h X D tn tf rk rv σ β γ pn τ ks κ φ hn hf hg wn wf wg) (x : Int32) : xV K B l 0 mX11_letOut 0 0 (X) [.int x] h (xPi (fun v g => v = (aOut σ rk rv x).1 ∧ xCw K h0 g X D tn tf ((aOut σ rk rv x).2.2.1) ((aOut σ rk rv x).2.2.2) ((aOut σ rk rv x).2.1) β γ pn τ ks κ φ hn hf hg wn wf wg)) := by
  refine ⟨⟨_, _, _, _, W.oX, rfl⟩, qX11_letOut, ?_⟩
  refine xS.intro RX11 false ⟨rfl, rfl, by decide, by decide, Nat.le_of_ble_eq_true rfl⟩ (ls := [some (.ref X), some (.int x)]) rfl ?_
  refine xr_il1 dX11_letOut_0 ?_
  refine xr_ic1 dX11_letOut_1 ?_
  refine xr_icmplt (tgt := 11) dX11_letOut_2 (by decide) (fun zc2 => ?_) (fun zc2 => ?_)
  · skip
    refine xr_icm1 dX11_letOut_11 ?_
    refine xr_iret dX11_letOut_12 rfl ?_
    have e : (aOut σ rk rv x) = _ := if_pos (Or.inl zc2)
    rw [e]
    exact ⟨_, rfl, rfl, W⟩
  · skip
    refine xr_il1 dX11_letOut_5 ?_
    refine xr_bipush (v := 99) dX11_letOut_6 (by decide) ?_
    refine xr_icmple (tgt := 13) dX11_letOut_8 (by decide) (fun zc8 => ?_) (fun zc8 => ?_)
    · skip
      refine xr_il1 dX11_letOut_13 ?_
      refine xr_al0 dX11_letOut_14 ?_
      refine xr_get W.oX fX11_26 rfl dX11_letOut_15 ?_
      refine xr_get W.Hh.1 fX11_221 rfl dX11_letOut_18 ?_
      refine xr_icmple (tgt := 27) dX11_letOut_21 (by decide) (fun zc21 => ?_) (fun zc21 => ?_)
      · skip
        refine xr_al0 dX11_letOut_27 ?_
        refine xr_get W.oX fX11_26 rfl dX11_letOut_28 ?_
        refine xr_dup dX11_letOut_31 rfl ?_
        refine xr_get W.Hh.1 fX11_221 rfl dX11_letOut_32 ?_
        refine xr_il1 dX11_letOut_35 ?_
        refine xr_isub dX11_letOut_36 ?_
        refine xr_put W.Hh.1 fX11_221 (Nat.le_of_ble_eq_true rfl) rfl rfl dX11_letOut_37 ?_
        refine xT.nm (fun zh1 zg1 => ?_)
        rw [zg1]
        refine xT.equiv (hill_f W.Hh (i := 14) (by decide) (σ 14 - x) rfl) ?_
        refine xT.nm (fun zk1 zw1 => ?_)
        have W := W.uh (fBH zw1) (hOk_upd W.pok (by decide) _)
        refine xr_al0 dX11_letOut_40 ?_
        refine xr_get W.oX fX11_26 rfl dX11_letOut_41 ?_
        refine xr_get W.Hh.1 fX11_221 rfl dX11_letOut_44 ?_
        refine xr_iret dX11_letOut_47 rfl ?_
        have e : (aOut σ rk rv x) = _ := (if_neg (fun q => q.elim zc2 (Int32.not_lt.mpr zc8))).trans (if_neg (Int32.not_lt.mpr zc21))
        rw [e]
        exact ⟨_, rfl, rfl, W⟩
      · skip
        refine xr_bipush (v := (-2)) dX11_letOut_24 (by decide) ?_
        refine xr_iret dX11_letOut_26 rfl ?_
        have e : (aOut σ rk rv x) = _ := (if_neg (fun q => q.elim zc2 (Int32.not_lt.mpr zc8))).trans (if_pos (Int32.not_le.mp zc21))
        rw [e]
        exact ⟨_, rfl, rfl, W⟩
    · skip
      refine xr_icm1 dX11_letOut_11 ?_
      refine xr_iret dX11_letOut_12 rfl ?_
      have e : (aOut σ rk rv x) = _ := if_pos (Or.inr (Int32.not_le.mp zc8))
      rw [e]
      exact ⟨_, rfl, rfl, W⟩
set_option maxRecDepth 20000 in
theorem s_goAway {K : xK} {B : Nat} {l : Launch} {h0 h : xH} {X D : Nat} {tn : Nat} {tf : Nat → Int32} {rk : Int32} {rv : Nat → Int64} {σ : xs} {β : xs} {γ : xs} {pn : Nat} {τ : Nat → xs} {ks : Nat → Bool} {κ : Nat → xs} {φ : xs → Int32} {hn : Nat} {hf : Nat → Int32} {hg : Nat → Int32} {wn : Nat} {wf : Nat → Int32} {wg : Nat → Int32} (W : xCw K h0 h X D tn tf rk rv σ β γ pn τ ks κ φ hn hf hg wn wf wg) (x y : Int32) : xV K B l 2 mX11_goAway 0 0 (X) [.int x, .int y] h (xPi (fun v g => v = (aAway σ rk rv x y).1 ∧ xCw K h0 g X D tn tf ((aAway σ rk rv x y).2.2.1) ((aAway σ rk rv x y).2.2.2) ((aAway σ rk rv x y).2.1) β γ pn τ ks κ φ hn hf hg wn wf wg)) := by
  refine ⟨⟨_, _, _, _, W.oX, rfl⟩, qX11_goAway, ?_⟩
  refine xS.intro RX11 false ⟨rfl, rfl, by decide, by decide, Nat.le_of_ble_eq_true rfl⟩ (ls := [some (.ref X), some (.int x), some (.int y)]) rfl ?_
  refine xr_al0 dX11_goAway_0 ?_
  refine xr_get W.oX fX11_26 rfl dX11_goAway_1 ?_
  refine xr_il1 dX11_goAway_4 ?_
  refine xr_il2 dX11_goAway_5 ?_
  refine xr_Vi2 (s_has W.Hh _ _) kX11_148 (by decide) (Nat.le_of_ble_eq_true rfl) (Nat.zero_add _) (Nat.zero_add _) dX11_goAway_6 ?_
  refine xr_ifne (tgt := 14) dX11_goAway_9 (by decide) (fun zc9 => ?_) (fun zc9 => ?_)
  · skip
    have hs := Decidable.not_not.mp (fun q => zc9 (bI_0.mpr q))
    obtain ⟨s, j, hs2, hj, rfl, rfl⟩ := hHas_sk hs
    refine xr_al0 dX11_goAway_14 ?_
    refine xr_get W.oX fX11_26 rfl dX11_goAway_15 ?_
    refine xr_il1 dX11_goAway_18 ?_
    refine xr_ic1 dX11_goAway_19 ?_
    refine xr_il2 dX11_goAway_20 ?_
    refine xr_ishl dX11_goAway_21 ?_
    refine xr_Vv2 (s_takeAway W.Hh W.pok hs2 _) kX11_259 (by decide) (Nat.le_of_ble_eq_true rfl) (Nat.zero_add _) (Nat.zero_add _) dX11_goAway_22 ?_
    refine xT.nm (fun zh1 zg1 => ?_)
    have W := W.uh (fBH zg1) (hOk_take W.pok hs2 _)
    refine xr_al0 dX11_goAway_25 ?_
    refine xr_get W.oX fX11_26 rfl dX11_goAway_26 ?_
    refine xr_il1 dX11_goAway_29 ?_
    refine xr_Vi1 (s_waits W.Hh _) kX11_131 (by decide) (Nat.le_of_ble_eq_true rfl) (Nat.zero_add _) (Nat.zero_add _) dX11_goAway_30 ?_
    refine xr_iret dX11_goAway_33 rfl ?_
    have e : (aAway σ rk rv (nI s) (nI j)) = _ := if_pos hs
    rw [nI_clamp (by omega)] at e
    rw [e]
    exact ⟨_, rfl, rfl, W⟩
  · skip
    refine xr_icm1 dX11_goAway_12 ?_
    refine xr_iret dX11_goAway_13 rfl ?_
    have e : (aAway σ rk rv x y) = _ := if_neg (bI_0.mp zc9)
    rw [e]
    exact ⟨_, rfl, rfl, W⟩
set_option maxRecDepth 20000 in
theorem s_swapNext {K : xK} {B : Nat} {l : Launch} {h0 h : xH} {X D : Nat} {tn : Nat} {tf : Nat → Int32} {rk : Int32} {rv : Nat → Int64} {σ : xs} {β : xs} {γ : xs} {pn : Nat} {τ : Nat → xs} {ks : Nat → Bool} {κ : Nat → xs} {φ : xs → Int32} {hn : Nat} {hf : Nat → Int32} {hg : Nat → Int32} {wn : Nat} {wf : Nat → Int32} {wg : Nat → Int32} (W : xCw K h0 h X D tn tf rk rv σ β γ pn τ ks κ φ hn hf hg wn wf wg) (x y : Int32) : xV K B l 4 mX11_swapWithNext 0 0 (X) [.int x, .int y] h (xPi (fun v g => v = (aSwap σ rk rv x y).1 ∧ xCw K h0 g X D tn tf ((aSwap σ rk rv x y).2.2.1) ((aSwap σ rk rv x y).2.2.2) ((aSwap σ rk rv x y).2.1) β γ pn τ ks κ φ hn hf hg wn wf wg)) := by
  refine ⟨⟨_, _, _, _, W.oX, rfl⟩, qX11_swapWithNext, ?_⟩
  refine xS.intro RX11 false ⟨rfl, rfl, by decide, by decide, Nat.le_of_ble_eq_true rfl⟩ (ls := [some (.ref X), some (.int x), some (.int y)]) rfl ?_
  refine xr_al0 dX11_swapWithNext_0 ?_
  refine xr_get W.oX fX11_26 rfl dX11_swapWithNext_1 ?_
  refine xr_il1 dX11_swapWithNext_4 ?_
  refine xr_il2 dX11_swapWithNext_5 ?_
  refine xr_Vi2 (s_has W.Hh _ _) kX11_148 (by decide) (Nat.le_of_ble_eq_true rfl) (Nat.zero_add _) (Nat.zero_add _) dX11_swapWithNext_6 ?_
  refine xr_ifne (tgt := 14) dX11_swapWithNext_9 (by decide) (fun zc9 => ?_) (fun zc9 => ?_)
  · skip
    have hs := Decidable.not_not.mp (fun q => zc9 (bI_0.mpr q))
    refine xr_il2 dX11_swapWithNext_14 ?_
    refine xr_ic1 dX11_swapWithNext_15 ?_
    refine xr_iadd dX11_swapWithNext_16 ?_
    refine xr_al0 dX11_swapWithNext_17 ?_
    refine xr_get W.oX fX11_26 rfl dX11_swapWithNext_18 ?_
    refine xr_il1 dX11_swapWithNext_21 ?_
    refine xr_Vi1 (s_waits W.Hh _) kX11_131 (by decide) (Nat.le_of_ble_eq_true rfl) (Nat.zero_add _) (Nat.zero_add _) dX11_swapWithNext_22 ?_
    refine xr_icmplt (tgt := 31) dX11_swapWithNext_25 (by decide) (fun zc25 => ?_) (fun zc25 => ?_)
    · skip
      refine xr_al0 dX11_swapWithNext_31 ?_
      refine xr_get W.oX fX11_26 rfl dX11_swapWithNext_32 ?_
      refine xr_il1 dX11_swapWithNext_35 ?_
      refine xr_il2 dX11_swapWithNext_36 ?_
      refine xr_il2 dX11_swapWithNext_37 ?_
      refine xr_ic1 dX11_swapWithNext_38 ?_
      refine xr_iadd dX11_swapWithNext_39 ?_
      refine xr_Vv3 (s_exchange W.Hh _ _ _) kX11_262 (by decide) (Nat.le_of_ble_eq_true rfl) (Nat.zero_add _) (Nat.zero_add _) dX11_swapWithNext_40 ?_
      refine xT.nm (fun zh1 zg1 => ?_)
      have W := W.uh (fBH zg1) (hOk_exch W.pok _ _ _)
      refine xr_al0 dX11_swapWithNext_43 ?_
      refine xr_get W.oX fX11_26 rfl dX11_swapWithNext_44 ?_
      refine xr_il1 dX11_swapWithNext_47 ?_
      refine xr_il2 dX11_swapWithNext_48 ?_
      refine xr_Vi2 (s_weightAt W.Hh _ _) kX11_154 (by decide) (Nat.le_of_ble_eq_true rfl) (Nat.zero_add _) (Nat.zero_add _) dX11_swapWithNext_49 ?_
      refine xr_iret dX11_swapWithNext_52 rfl ?_
      have e : (aSwap σ rk rv x y) = _ := (if_neg (not_not_intro hs)).trans (if_pos zc25)
      rw [e]
      exact ⟨_, rfl, rfl, W⟩
    · skip
      refine xr_bipush (v := (-2)) dX11_swapWithNext_28 (by decide) ?_
      refine xr_iret dX11_swapWithNext_30 rfl ?_
      have e : (aSwap σ rk rv x y) = _ := (if_neg (not_not_intro hs)).trans (if_neg zc25)
      rw [e]
      exact ⟨_, rfl, rfl, W⟩
  · skip
    refine xr_icm1 dX11_swapWithNext_12 ?_
    refine xr_iret dX11_swapWithNext_13 rfl ?_
    have e : (aSwap σ rk rv x y) = _ := if_pos (bI_0.mp zc9)
    rw [e]
    exact ⟨_, rfl, rfl, W⟩
set_option maxRecDepth 20000 in
theorem s_grips {K : xK} {B : Nat} {l : Launch} {h0 h : xH} {X D : Nat} {tn : Nat} {tf : Nat → Int32} {rk : Int32} {rv : Nat → Int64} {σ : xs} {β : xs} {γ : xs} {pn : Nat} {τ : Nat → xs} {ks : Nat → Bool} {κ : Nat → xs} {φ : xs → Int32} {hn : Nat} {hf : Nat → Int32} {hg : Nat → Int32} {wn : Nat} {wf : Nat → Int32} {wg : Nat → Int32} (W : xCw K h0 h X D tn tf rk rv σ β γ pn τ ks κ φ hn hf hg wn wf wg) (x : Int32) : xV K B l 5 mX11_grips 3 21 (X) [.int x] h (xPi (fun v g => v = (aGrip σ rk rv x).1 ∧ xCw K h0 g X D tn tf ((aGrip σ rk rv x).2.2.1) ((aGrip σ rk rv x).2.2.2) ((aGrip σ rk rv x).2.1) σ γ (rn_ (aGrip σ rk rv x).1 pn) (rt_ (aGrip σ rk rv x).1 pn τ σ) ks κ φ hn hf hg wn wf wg)) := by
  refine ⟨⟨_, _, _, _, W.oX, rfl⟩, qX11_grips, ?_⟩
  refine xS.intro RX11 false ⟨rfl, rfl, by decide, by decide, Nat.le_of_ble_eq_true rfl⟩ (ls := [some (.ref X), some (.int x)]) rfl ?_
  refine xr_al0 dX11_grips_0 ?_
  refine xr_get W.oX fX11_30 rfl dX11_grips_1 ?_
  refine xr_al0 dX11_grips_4 ?_
  refine xr_get W.oX fX11_26 rfl dX11_grips_5 ?_
  refine xr_Vv1 (s_copyFrom W.Hb W.Hh (by omega)) kX11_179 (by decide) (Nat.le_of_ble_eq_true rfl) (Nat.zero_add _) (Nat.zero_add _) dX11_grips_8 ?_
  refine xT.nm (fun zh1 zg1 => ?_)
  have okb := W.pok
  have W := W.ub (fBH zg1)
  refine xr_al0 dX11_grips_11 ?_
  refine xr_al0 dX11_grips_12 ?_
  refine xr_il1 dX11_grips_13 ?_
  refine xr_Vpi1 (s_setGrip W _) kX11_197 (by decide) (Nat.le_of_ble_eq_true rfl) (Nat.zero_add _) (Nat.zero_add _) dX11_grips_14 (fun zv14 zh2 zq2 => ?_)
  obtain ⟨rfl, W⟩ := zq2
  refine xr_Vpi1 (s_remembered W okb _) kX11_185 (by decide) (Nat.le_of_ble_eq_true rfl) (rc' := 0) (rs' := 0) rfl rfl dX11_grips_17 (fun zv17 zh3 zq3 => ?_)
  obtain ⟨rfl, W⟩ := zq3
  refine xr_iret dX11_grips_20 rfl ?_
  exact ⟨_, rfl, rfl, W⟩
set_option maxRecDepth 20000 in
theorem s_seats {K : xK} {B : Nat} {l : Launch} {h0 h : xH} {X D : Nat} {tn : Nat} {tf : Nat → Int32} {rk : Int32} {rv : Nat → Int64} {σ : xs} {β : xs} {γ : xs} {pn : Nat} {τ : Nat → xs} {ks : Nat → Bool} {κ : Nat → xs} {φ : xs → Int32} {hn : Nat} {hf : Nat → Int32} {hg : Nat → Int32} {wn : Nat} {wf : Nat → Int32} {wg : Nat → Int32} (W : xCw K h0 h X D tn tf rk rv σ β γ pn τ ks κ φ hn hf hg wn wf wg) (x : Int32) : xV K B l 5 mX11_seats 3 21 (X) [.int x] h (xPi (fun v g => v = (aSeats σ rk rv x).1 ∧ xCw K h0 g X D tn tf ((aSeats σ rk rv x).2.2.1) ((aSeats σ rk rv x).2.2.2) ((aSeats σ rk rv x).2.1) σ γ (rn_ (aSeats σ rk rv x).1 pn) (rt_ (aSeats σ rk rv x).1 pn τ σ) ks κ φ hn hf hg wn wf wg)) := by
  refine ⟨⟨_, _, _, _, W.oX, rfl⟩, qX11_seats, ?_⟩
  refine xS.intro RX11 false ⟨rfl, rfl, by decide, by decide, Nat.le_of_ble_eq_true rfl⟩ (ls := [some (.ref X), some (.int x)]) rfl ?_
  refine xr_al0 dX11_seats_0 ?_
  refine xr_get W.oX fX11_30 rfl dX11_seats_1 ?_
  refine xr_al0 dX11_seats_4 ?_
  refine xr_get W.oX fX11_26 rfl dX11_seats_5 ?_
  refine xr_Vv1 (s_copyFrom W.Hb W.Hh (by omega)) kX11_179 (by decide) (Nat.le_of_ble_eq_true rfl) (Nat.zero_add _) (Nat.zero_add _) dX11_seats_8 ?_
  refine xT.nm (fun zh1 zg1 => ?_)
  have okb := W.pok
  have W := W.ub (fBH zg1)
  refine xr_al0 dX11_seats_11 ?_
  refine xr_al0 dX11_seats_12 ?_
  refine xr_il1 dX11_seats_13 ?_
  refine xr_Vpi1 (s_setSeats W _) kX11_200 (by decide) (Nat.le_of_ble_eq_true rfl) (Nat.zero_add _) (Nat.zero_add _) dX11_seats_14 (fun zv14 zh2 zq2 => ?_)
  obtain ⟨rfl, W⟩ := zq2
  refine xr_Vpi1 (s_remembered W okb _) kX11_185 (by decide) (Nat.le_of_ble_eq_true rfl) (rc' := 0) (rs' := 0) rfl rfl dX11_seats_17 (fun zv17 zh3 zq3 => ?_)
  obtain ⟨rfl, W⟩ := zq3
  refine xr_iret dX11_seats_20 rfl ?_
  exact ⟨_, rfl, rfl, W⟩
set_option maxRecDepth 20000 in
theorem s_drains {K : xK} {B : Nat} {l : Launch} {h0 h : xH} {X D : Nat} {tn : Nat} {tf : Nat → Int32} {rk : Int32} {rv : Nat → Int64} {σ : xs} {β : xs} {γ : xs} {pn : Nat} {τ : Nat → xs} {ks : Nat → Bool} {κ : Nat → xs} {φ : xs → Int32} {hn : Nat} {hf : Nat → Int32} {hg : Nat → Int32} {wn : Nat} {wf : Nat → Int32} {wg : Nat → Int32} (W : xCw K h0 h X D tn tf rk rv σ β γ pn τ ks κ φ hn hf hg wn wf wg) (x : Int32) : xV K B l 5 mX11_drains 3 21 (X) [.int x] h (xPi (fun v g => v = (aOut σ rk rv x).1 ∧ xCw K h0 g X D tn tf ((aOut σ rk rv x).2.2.1) ((aOut σ rk rv x).2.2.2) ((aOut σ rk rv x).2.1) σ γ (rn_ (aOut σ rk rv x).1 pn) (rt_ (aOut σ rk rv x).1 pn τ σ) ks κ φ hn hf hg wn wf wg)) := by
  refine ⟨⟨_, _, _, _, W.oX, rfl⟩, qX11_drains, ?_⟩
  refine xS.intro RX11 false ⟨rfl, rfl, by decide, by decide, Nat.le_of_ble_eq_true rfl⟩ (ls := [some (.ref X), some (.int x)]) rfl ?_
  refine xr_al0 dX11_drains_0 ?_
  refine xr_get W.oX fX11_30 rfl dX11_drains_1 ?_
  refine xr_al0 dX11_drains_4 ?_
  refine xr_get W.oX fX11_26 rfl dX11_drains_5 ?_
  refine xr_Vv1 (s_copyFrom W.Hb W.Hh (by omega)) kX11_179 (by decide) (Nat.le_of_ble_eq_true rfl) (Nat.zero_add _) (Nat.zero_add _) dX11_drains_8 ?_
  refine xT.nm (fun zh1 zg1 => ?_)
  have okb := W.pok
  have W := W.ub (fBH zg1)
  refine xr_al0 dX11_drains_11 ?_
  refine xr_al0 dX11_drains_12 ?_
  refine xr_il1 dX11_drains_13 ?_
  refine xr_Vpi1 (s_letOut W _) kX11_209 (by decide) (Nat.le_of_ble_eq_true rfl) (Nat.zero_add _) (Nat.zero_add _) dX11_drains_14 (fun zv14 zh2 zq2 => ?_)
  obtain ⟨rfl, W⟩ := zq2
  refine xr_Vpi1 (s_remembered W okb _) kX11_185 (by decide) (Nat.le_of_ble_eq_true rfl) (rc' := 0) (rs' := 0) rfl rfl dX11_drains_17 (fun zv17 zh3 zq3 => ?_)
  obtain ⟨rfl, W⟩ := zq3
  refine xr_iret dX11_drains_20 rfl ?_
  exact ⟨_, rfl, rfl, W⟩
set_option maxRecDepth 20000 in
theorem s_leaves {K : xK} {B : Nat} {l : Launch} {h0 h : xH} {X D : Nat} {tn : Nat} {tf : Nat → Int32} {rk : Int32} {rv : Nat → Int64} {σ : xs} {β : xs} {γ : xs} {pn : Nat} {τ : Nat → xs} {ks : Nat → Bool} {κ : Nat → xs} {φ : xs → Int32} {hn : Nat} {hf : Nat → Int32} {hg : Nat → Int32} {wn : Nat} {wf : Nat → Int32} {wg : Nat → Int32} (W : xCw K h0 h X D tn tf rk rv σ β γ pn τ ks κ φ hn hf hg wn wf wg) (x y : Int32) : xV K B l 5 mX11_leaves 3 21 (X) [.int x, .int y] h (xPi (fun v g => v = (aAway σ rk rv x y).1 ∧ xCw K h0 g X D tn tf ((aAway σ rk rv x y).2.2.1) ((aAway σ rk rv x y).2.2.2) ((aAway σ rk rv x y).2.1) σ γ (rn_ (aAway σ rk rv x y).1 pn) (rt_ (aAway σ rk rv x y).1 pn τ σ) ks κ φ hn hf hg wn wf wg)) := by
  refine ⟨⟨_, _, _, _, W.oX, rfl⟩, qX11_leaves, ?_⟩
  refine xS.intro RX11 false ⟨rfl, rfl, by decide, by decide, Nat.le_of_ble_eq_true rfl⟩ (ls := [some (.ref X), some (.int x), some (.int y)]) rfl ?_
  refine xr_al0 dX11_leaves_0 ?_
  refine xr_get W.oX fX11_30 rfl dX11_leaves_1 ?_
  refine xr_al0 dX11_leaves_4 ?_
  refine xr_get W.oX fX11_26 rfl dX11_leaves_5 ?_
  refine xr_Vv1 (s_copyFrom W.Hb W.Hh (by omega)) kX11_179 (by decide) (Nat.le_of_ble_eq_true rfl) (Nat.zero_add _) (Nat.zero_add _) dX11_leaves_8 ?_
  refine xT.nm (fun zh1 zg1 => ?_)
  have okb := W.pok
  have W := W.ub (fBH zg1)
  refine xr_al0 dX11_leaves_11 ?_
  refine xr_al0 dX11_leaves_12 ?_
  refine xr_il1 dX11_leaves_13 ?_
  refine xr_il2 dX11_leaves_14 ?_
  refine xr_Vpi2 (s_goAway W _ _) kX11_203 (by decide) (Nat.le_of_ble_eq_true rfl) (Nat.zero_add _) (Nat.zero_add _) dX11_leaves_15 (fun zv15 zh2 zq2 => ?_)
  obtain ⟨rfl, W⟩ := zq2
  refine xr_Vpi1 (s_remembered W okb _) kX11_185 (by decide) (Nat.le_of_ble_eq_true rfl) (rc' := 0) (rs' := 0) rfl rfl dX11_leaves_18 (fun zv18 zh3 zq3 => ?_)
  obtain ⟨rfl, W⟩ := zq3
  refine xr_iret dX11_leaves_21 rfl ?_
  exact ⟨_, rfl, rfl, W⟩
set_option maxRecDepth 20000 in
theorem s_swaps {K : xK} {B : Nat} {l : Launch} {h0 h : xH} {X D : Nat} {tn : Nat} {tf : Nat → Int32} {rk : Int32} {rv : Nat → Int64} {σ : xs} {β : xs} {γ : xs} {pn : Nat} {τ : Nat → xs} {ks : Nat → Bool} {κ : Nat → xs} {φ : xs → Int32} {hn : Nat} {hf : Nat → Int32} {hg : Nat → Int32} {wn : Nat} {wf : Nat → Int32} {wg : Nat → Int32} (W : xCw K h0 h X D tn tf rk rv σ β γ pn τ ks κ φ hn hf hg wn wf wg) (x y : Int32) : xV K B l 5 mX11_swaps 3 21 (X) [.int x, .int y] h (xPi (fun v g => v = (aSwap σ rk rv x y).1 ∧ xCw K h0 g X D tn tf ((aSwap σ rk rv x y).2.2.1) ((aSwap σ rk rv x y).2.2.2) ((aSwap σ rk rv x y).2.1) σ γ (rn_ (aSwap σ rk rv x y).1 pn) (rt_ (aSwap σ rk rv x y).1 pn τ σ) ks κ φ hn hf hg wn wf wg)) := by
  refine ⟨⟨_, _, _, _, W.oX, rfl⟩, qX11_swaps, ?_⟩
  refine xS.intro RX11 false ⟨rfl, rfl, by decide, by decide, Nat.le_of_ble_eq_true rfl⟩ (ls := [some (.ref X), some (.int x), some (.int y)]) rfl ?_
  refine xr_al0 dX11_swaps_0 ?_
  refine xr_get W.oX fX11_30 rfl dX11_swaps_1 ?_
  refine xr_al0 dX11_swaps_4 ?_
  refine xr_get W.oX fX11_26 rfl dX11_swaps_5 ?_
  refine xr_Vv1 (s_copyFrom W.Hb W.Hh (by omega)) kX11_179 (by decide) (Nat.le_of_ble_eq_true rfl) (Nat.zero_add _) (Nat.zero_add _) dX11_swaps_8 ?_
  refine xT.nm (fun zh1 zg1 => ?_)
  have okb := W.pok
  have W := W.ub (fBH zg1)
  refine xr_al0 dX11_swaps_11 ?_
  refine xr_al0 dX11_swaps_12 ?_
  refine xr_il1 dX11_swaps_13 ?_
  refine xr_il2 dX11_swaps_14 ?_
  refine xr_Vpi2 (s_swapNext W _ _) kX11_206 (by decide) (Nat.le_of_ble_eq_true rfl) (Nat.zero_add _) (Nat.zero_add _) dX11_swaps_15 (fun zv15 zh2 zq2 => ?_)
  obtain ⟨rfl, W⟩ := zq2
  refine xr_Vpi1 (s_remembered W okb _) kX11_185 (by decide) (Nat.le_of_ble_eq_true rfl) (rc' := 0) (rs' := 0) rfl rfl dX11_swaps_18 (fun zv18 zh3 zq3 => ?_)
  obtain ⟨rfl, W⟩ := zq3
  refine xr_iret dX11_swaps_21 rfl ?_
  exact ⟨_, rfl, rfl, W⟩
