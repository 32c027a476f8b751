/-! The class's own methods: text, parties, rule (written by wip/whole/car2.py) -/
theorem xLo.cell {K : xK} {h : xH} {X D pn : Nat} {τ : Nat → xs} {ks : Nat → Bool} {κ : Nat → xs} (H : xLo K h X D pn τ ks κ) : h.2 (X + 14) = some (paO (X + 14) (nI pn)) := by
  obtain ⟨_, _, _, _, q, _⟩ := H
  exact q.1.1
theorem wForget {K : xK} {B : Nat} {l : Launch} {h0 h : xH} {X D : Nat} {tn : Nat} {tf : Nat → Int32} {rk : Int32} {rv : Nat → Int64} {σ : xs} {β : xs} {γ : xs} {pn : Nat} {τ : Nat → xs} {ks : Nat → Bool} {κ : Nat → xs} {φ : xs → Int32} {hn : Nat} {hf : Nat → Int32} {hg : Nat → Int32} {wn : Nat} {wf : Nat → Int32} {wg : Nat → Int32} (W : xCw K h0 h X D tn tf rk rv σ β γ pn τ ks κ φ hn hf hg wn wf wg) : xV K B l 0 mX5_forgetAll 0 0 (X + 14) [] h (xPv (fun g => xCw K h0 g X D tn tf rk rv σ β γ 0 τ ks κ φ hn hf hg wn wf wg)) := by
  obtain ⟨pm, pp, kq, τ', h1, h2, h3, h4, h5⟩ := W.Hp
  have pXD := W.pXD
  refine (s_paForget h1).post (fun r g q => ?_)
  obtain ⟨rfl, e⟩ := q
  obtain ⟨k1, k2, k3, k4, k5, k6, k7⟩ := h1
  have e1 : g.1 = h.1 := by rw [e]; rfl
  have f : ∀ b, b ≠ X + 14 → g.2 b = h.2 b := fun b hb => by rw [e, xup_ne _ _ hb]
  refine ⟨rfl, W.up ⟨e1, fun b hb => f b (by omega), pm, pp, kq, τ', ⟨⟨by rw [e]; exact xup_eq _ _ _, (f _ (by omega)).trans k1.2⟩, by omega, k3, k4, fun i hi => ?_, k6, by rw [e1]; exact k7⟩, fun i hi => absurd hi (by omega), (f _ (by omega)).trans h3, fun i hi q => ?_, h5⟩ (fun i hi => absurd hi (by omega)) W.pok2⟩
  · have := k7 i hi
    exact (k5 i hi).fr (fun c _ _ => f c (by omega))
  · obtain ⟨z1, z2, z3, z4⟩ := h4 i hi q
    exact ⟨z1.fr (fun c _ _ => f c (by omega)), z2, by rw [e1]; exact z3, z4⟩
theorem wUndo {K : xK} {B : Nat} {l : Launch} {h0 h : xH} {X D : Nat} {tn : Nat} {tf : Nat → Int32} {rk : Int32} {rv : Nat → Int64} {σ : xs} {β : xs} {γ : xs} {pn : Nat} {τ : Nat → xs} {ks : Nat → Bool} {κ : Nat → xs} {φ : xs → Int32} {hn : Nat} {hf : Nat → Int32} {hg : Nat → Int32} {wn : Nat} {wf : Nat → Int32} {wg : Nat → Int32} (W : xCw K h0 h X D tn tf rk rv σ β γ pn τ ks κ φ hn hf hg wn wf wg) : xV K B l 2 mX5_bringBack 0 0 (X + 14) [.ref (X + 5)] h (xPi (fun v g => v = bI (0 < pn) ∧ xCw K h0 g X D tn tf rk rv (if 0 < pn then τ (pn - 1) else σ) β γ (pn - 1) τ ks κ φ hn hf hg wn wf wg)) := by
  obtain ⟨pm, pp, kq, τ', h1, h2, h3, h4, h5⟩ := W.Hp
  have pXD := W.pXD
  refine (s_bringPast h1 W.Hh (by omega) (by omega)).post (fun r g q => ?_)
  obtain ⟨rfl, e⟩ := q
  obtain ⟨k1, k2, k3, k4, k5, k6, k7⟩ := h1
  refine ⟨_, rfl, rfl, ?_⟩
  by_cases n0 : 0 < pn
  · rw [if_pos n0] at e
    rw [if_pos n0]
    have f : ∀ b, b ≠ X + 14 → (xup h (X + 14) (paO (X + 14) (nI (pn - 1)))).2 b = h.2 b := fun b hb => xup_ne _ _ hb
    have W1 := W.up (g := xup h (X + 14) (paO (X + 14) (nI (pn - 1)))) ⟨rfl, fun b hb => f b (by omega), pm, pp, kq, τ', ⟨⟨xup_eq _ _ _, (f _ (by omega)).trans k1.2⟩, by omega, k3, k4, fun i hi => by
      have := k7 i hi
      exact (k5 i hi).fr (fun c _ _ => f c (by omega)), k6, k7⟩, fun i hi => h2 i (by omega), (f _ (by omega)).trans h3, fun i hi q => by
      obtain ⟨z1, z2, z3, z4⟩ := h4 i hi q
      exact ⟨z1.fr (fun c _ _ => f c (by omega)), z2, z3, z4⟩, h5⟩ (fun i hi => W.pop i (by omega)) W.pok2
    rw [← h2 (pn - 1) (by omega)]
    exact W1.uh (fBH e) (by rw [h2 (pn - 1) (by omega)]; exact W.pop _ (by omega))
  · rw [if_neg n0] at e
    rw [if_neg n0, show pn - 1 = pn by omega, e]
    exact W
def sgf (tf : Nat → Int32) (n : Nat) (v : Int32) : Nat → Int32 := upd (upd (upd (upd tf n (ushr v (24 &&& 31) &&& 255)) (n + 1) (ushr v (16 &&& 31) &&& 255)) (n + 2) (ushr v (8 &&& 31) &&& 255)) (n + 3) (ushr v (0 &&& 31) &&& 255)
set_option maxRecDepth 20000 in
theorem s_sign {K : xK} {B : Nat} {l : Launch} {h0 h : xH} {X D : Nat} {tn : Nat} {tf : Nat → Int32} {rk : Int32} {rv : Nat → Int64} {σ : xs} {β : xs} {γ : xs} {pn : Nat} {τ : Nat → xs} {ks : Nat → Bool} {κ : Nat → xs} {φ : xs → Int32} {hn : Nat} {hf : Nat → Int32} {hg : Nat → Int32} {wn : Nat} {wf : Nat → Int32} {wg : Nat → Int32} (W : xCw K h0 h X D tn tf rk rv σ β γ pn τ ks κ φ hn hf hg wn wf wg) (v : Int32) : xV K B l 1 mX11_sign 0 0 (X) [.int v] h (xPi (fun r g => r = (if tn + 4 ≤ 80 then nI (tn + 4) else -1) ∧ xCw K h0 g X D (if tn + 4 ≤ 80 then tn + 4 else tn) (if tn + 4 ≤ 80 then sgf tf tn v else tf) rk rv σ β γ pn τ ks κ φ hn hf hg wn wf wg)) := by
  have pt := W.pt
  refine ⟨⟨_, _, _, _, W.oX, rfl⟩, qX11_sign, ?_⟩
  refine xS.intro RX11 false ⟨rfl, rfl, by decide, by decide, Nat.le_of_ble_eq_true rfl⟩ (ls := [some (.ref X), some (.int v), none]) rfl ?_
  refine xr_al0 dX11_sign_0 ?_
  refine xr_get W.oX fX11_12 rfl dX11_sign_1 ?_
  refine xr_Vi0 (s_slLength W.Ht) kX11_107 (by decide) (Nat.le_of_ble_eq_true rfl) (Nat.zero_add _) (Nat.zero_add _) dX11_sign_4 ?_
  refine xr_ic4 dX11_sign_7 ?_
  refine xr_iadd dX11_sign_8 ?_
  refine xr_eqi (y := nI (tn + 4)) (nI_add tn 4) ?_
  refine xr_bipush (v := 80) dX11_sign_9 (by decide) ?_
  refine xr_icmple (tgt := 16) dX11_sign_11 (by decide) (fun zc11 => ?_) (fun zc11 => ?_)
  · skip
    have q4 : tn + 4 ≤ 80 := (nI_leI (by omega) (by decide)).mp zc11
    refine xr_bipush (v := 24) dX11_sign_16 (by decide) ?_
    refine xr_is2 dX11_sign_18 (by decide) rfl ?_
    refine xr_il2 dX11_sign_19 ?_
    refine xr_iflt (tgt := 43) dX11_sign_20 (by decide) (fun zc20 => ?_) (fun zc20 => ?_)
    · skip
      exact absurd zc20 (by decide)
    · skip
      refine xr_al0 dX11_sign_23 ?_
      refine xr_get W.oX fX11_12 rfl dX11_sign_24 ?_
      refine xr_il1 dX11_sign_27 ?_
      refine xr_il2 dX11_sign_28 ?_
      refine xr_iushr dX11_sign_29 ?_
      refine xr_sipush (v := 255) dX11_sign_30 (by decide) ?_
      refine xr_iand dX11_sign_33 ?_
      refine xr_Vv1 (s_slWrite W.Ht (by omega) _) kX11_111 (by decide) (Nat.le_of_ble_eq_true rfl) (Nat.zero_add _) (Nat.zero_add _) dX11_sign_34 ?_
      refine xT.nm (fun zh1 zg1 => ?_)
      have W := W.ut (fB2 zg1) (by omega)
      refine xr_inc2 dX11_sign_37 (show (24 : Int32) + Int32.ofInt (-8) = 16 from rfl) (by decide) rfl ?_
      refine xr_goto (tgt := 19) dX11_sign_40 (by decide) ?_
      refine xr_il2 dX11_sign_19 ?_
      refine xr_iflt (tgt := 43) dX11_sign_20 (by decide) (fun zc20 => ?_) (fun zc20 => ?_)
      · skip
        exact absurd zc20 (by decide)
      · skip
        refine xr_al0 dX11_sign_23 ?_
        refine xr_get W.oX fX11_12 rfl dX11_sign_24 ?_
        refine xr_il1 dX11_sign_27 ?_
        refine xr_il2 dX11_sign_28 ?_
        refine xr_iushr dX11_sign_29 ?_
        refine xr_sipush (v := 255) dX11_sign_30 (by decide) ?_
        refine xr_iand dX11_sign_33 ?_
        refine xr_Vv1 (s_slWrite W.Ht (by omega) _) kX11_111 (by decide) (Nat.le_of_ble_eq_true rfl) (Nat.zero_add _) (Nat.zero_add _) dX11_sign_34 ?_
        refine xT.nm (fun zh1 zg1 => ?_)
        have W := W.ut (fB2 zg1) (by omega)
        refine xr_inc2 dX11_sign_37 (show (16 : Int32) + Int32.ofInt (-8) = 8 from rfl) (by decide) rfl ?_
        refine xr_goto (tgt := 19) dX11_sign_40 (by decide) ?_
        refine xr_il2 dX11_sign_19 ?_
        refine xr_iflt (tgt := 43) dX11_sign_20 (by decide) (fun zc20 => ?_) (fun zc20 => ?_)
        · skip
          exact absurd zc20 (by decide)
        · skip
          refine xr_al0 dX11_sign_23 ?_
          refine xr_get W.oX fX11_12 rfl dX11_sign_24 ?_
          refine xr_il1 dX11_sign_27 ?_
          refine xr_il2 dX11_sign_28 ?_
          refine xr_iushr dX11_sign_29 ?_
          refine xr_sipush (v := 255) dX11_sign_30 (by decide) ?_
          refine xr_iand dX11_sign_33 ?_
          refine xr_Vv1 (s_slWrite W.Ht (by omega) _) kX11_111 (by decide) (Nat.le_of_ble_eq_true rfl) (Nat.zero_add _) (Nat.zero_add _) dX11_sign_34 ?_
          refine xT.nm (fun zh1 zg1 => ?_)
          have W := W.ut (fB2 zg1) (by omega)
          refine xr_inc2 dX11_sign_37 (show (8 : Int32) + Int32.ofInt (-8) = 0 from rfl) (by decide) rfl ?_
          refine xr_goto (tgt := 19) dX11_sign_40 (by decide) ?_
          refine xr_il2 dX11_sign_19 ?_
          refine xr_iflt (tgt := 43) dX11_sign_20 (by decide) (fun zc20 => ?_) (fun zc20 => ?_)
          · skip
            exact absurd zc20 (by decide)
          · skip
            refine xr_al0 dX11_sign_23 ?_
            refine xr_get W.oX fX11_12 rfl dX11_sign_24 ?_
            refine xr_il1 dX11_sign_27 ?_
            refine xr_il2 dX11_sign_28 ?_
            refine xr_iushr dX11_sign_29 ?_
            refine xr_sipush (v := 255) dX11_sign_30 (by decide) ?_
            refine xr_iand dX11_sign_33 ?_
            refine xr_Vv1 (s_slWrite W.Ht (by omega) _) kX11_111 (by decide) (Nat.le_of_ble_eq_true rfl) (Nat.zero_add _) (Nat.zero_add _) dX11_sign_34 ?_
            refine xT.nm (fun zh1 zg1 => ?_)
            have W := W.ut (fB2 zg1) (by omega)
            refine xr_inc2 dX11_sign_37 (show (0 : Int32) + Int32.ofInt (-8) = (-8) from rfl) (by decide) rfl ?_
            refine xr_goto (tgt := 19) dX11_sign_40 (by decide) ?_
            refine xr_il2 dX11_sign_19 ?_
            refine xr_iflt (tgt := 43) dX11_sign_20 (by decide) (fun zc20 => ?_) (fun zc20 => ?_)
            · skip
              refine xr_al0 dX11_sign_43 ?_
              refine xr_get W.oX fX11_12 rfl dX11_sign_44 ?_
              refine xr_Vi0 (s_slLength W.Ht) kX11_107 (by decide) (Nat.le_of_ble_eq_true rfl) (Nat.zero_add _) (Nat.zero_add _) dX11_sign_47 ?_
              refine xr_iret dX11_sign_50 rfl ?_
              refine ⟨_, rfl, (if_pos q4).symm, ?_⟩
              rw [if_pos q4, if_pos q4]
              exact W
            · skip
              exact absurd (by decide) zc20
  · skip
    have q4 : ¬ tn + 4 ≤ 80 := fun q => zc11 (nI_le q (by decide))
    refine xr_icm1 dX11_sign_14 ?_
    refine xr_iret dX11_sign_15 rfl ?_
    refine ⟨_, rfl, (if_neg q4).symm, ?_⟩
    rw [if_neg q4, if_neg q4]
    exact W
set_option maxRecDepth 20000 in
theorem s_end {K : xK} {B : Nat} {l : Launch} {h0 h : xH} {X D : Nat} {tn : Nat} {tf : Nat → Int32} {rk : Int32} {rv : Nat → Int64} {σ : xs} {β : xs} {γ : xs} {pn : Nat} {τ : Nat → xs} {ks : Nat → Bool} {κ : Nat → xs} {φ : xs → Int32} {hn : Nat} {hf : Nat → Int32} {hg : Nat → Int32} {wn : Nat} {wf : Nat → Int32} {wg : Nat → Int32} (W : xCw K h0 h X D tn tf rk rv σ β γ pn τ ks κ φ hn hf hg wn wf wg) (v : Int32) : xV K B l 1 mX11_end 0 0 (X) [.int v] h (xPi (fun r g => r = bI (¬ v < 0 ∧ v ≤ nI tn) ∧ xCw K h0 g X D (if ¬ v < 0 ∧ v ≤ nI tn then v.toNatClampNeg else tn) tf rk rv σ β γ pn τ ks κ φ hn hf hg wn wf wg)) := by
  refine ⟨⟨_, _, _, _, W.oX, rfl⟩, qX11_end, ?_⟩
  refine xS.intro RX11 false ⟨rfl, rfl, by decide, by decide, Nat.le_of_ble_eq_true rfl⟩ (ls := [some (.ref X), some (.int v)]) rfl ?_
  refine xr_al0 dX11_end_0 ?_
  refine xr_get W.oX fX11_12 rfl dX11_end_1 ?_
  refine xr_il1 dX11_end_4 ?_
  refine xr_Vi1 (s_slCut W.Ht _) kX11_115 (by decide) (Nat.le_of_ble_eq_true rfl) (Nat.zero_add _) (Nat.zero_add _) dX11_end_5 ?_
  refine xT.nm (fun zh1 zg1 => ?_)
  have pt := W.pt
  refine xr_zret dX11_end_8 rfl (bI_n _) ?_
  refine ⟨_, rfl, rfl, ?_⟩
  by_cases q : ¬ v < 0 ∧ v ≤ nI tn
  · rw [if_pos q] at zg1
    rw [if_pos q]
    rcases pk_ix v (n := 81) (by decide) with z | z | ⟨j, hj, rfl⟩
    · exact absurd z q.1
    · exact absurd (Int32.le_trans z (Int32.le_trans q.2 (nI_le (b := 80) pt (by decide)))) (by decide)
    · rw [nI_clamp (by omega)]
      exact W.ut (fB2 zg1) (by omega)
  · rw [if_neg q] at zg1
    rw [if_neg q, zg1]
    exact W
def rfN (φ : xs → Int32) : Nat → Int32 → Int32 → xs → Int32 × Int32 × xs
  | 0, w, s, σ => (w, s, σ)
  | r + 1, w, s, σ => rfN φ r (if hGo σ then w + 1 else w) (if hGo σ then s else if σ 10 + σ 11 = 0 then s else s + 1) (hRun φ σ)
theorem rfN_s (φ : xs → Int32) (r : Nat) (w s : Int32) (σ : xs) : rfN φ (r + 1) w s σ = rfN φ r (if hGo σ then w + 1 else w) (if hGo σ then s else if σ 10 + σ 11 = 0 then s else s + 1) (hRun φ σ) := rfl
def aRuns (φ : xs → Int32) (σ : xs) (rk : Int32) (rv : Nat → Int64) (n : Int32) : AC := if n < 0 ∨ 60 < n then (-1, σ, rk, rv) else ((rfN φ n.toNatClampNeg 0 0 σ).1, (rfN φ n.toNatClampNeg 0 0 σ).2.2, 2, tl2 rv (rfN φ n.toNatClampNeg 0 0 σ).2.1 ((rfN φ n.toNatClampNeg 0 0 σ).2.2 14))
set_option maxRecDepth 20000 in
theorem lp_runFor {K : xK} {B : Nat} {l : Launch} {h0 : xH} {X D : Nat} {tn : Nat} {tf : Nat → Int32} {rk : Int32} {rv : Nat → Int64} {β : xs} {γ : xs} {pn : Nat} {τ : Nat → xs} {ks : Nat → Bool} {κ : Nat → xs} {φ : xs → Int32} {hn : Nat} {hf : Nat → Int32} {hg : Nat → Int32} {wn : Nat} {wf : Nat → Int32} {wg : Nat → Int32} (N : Nat) (hN : N ≤ 60) : ∀ (r : Nat) (k : Nat) (w s : Int32) (y5 : Option Value) {h : xH} {σ : xs} (W : xCw K h0 h X D tn tf rk rv σ β γ pn τ ks κ φ hn hf hg wn wf wg), k + r = N → xT K B l 4 RX11 false cX11_runFor 6 (some .int) 0 0 0 0 (xPi (fun v g => v = (rfN φ r w s σ).1 ∧ xCw K h0 g X D tn tf 2 (tl2 rv (rfN φ r w s σ).2.1 ((rfN φ r w s σ).2.2 14)) ((rfN φ r w s σ).2.2) β γ pn τ ks κ φ hn hf hg wn wf wg)) 19 [some (.ref X), some (.int (nI N)), some (.int w), some (.int s), some (.int (nI k)), y5] [] h := by
  intro r
  induction r with
  | zero =>
    intro k w s y5 h σ W hk
    refine xr_il4 dX11_runFor_19 ?_
    refine xr_il1 dX11_runFor_21 ?_
    refine xr_icmpge (tgt := 76) dX11_runFor_22 (by decide) (fun zc22 => ?_) (fun zc22 => ?_)
    · skip
      refine xr_al0 dX11_runFor_76 ?_
      refine xr_get W.oX fX11_19 rfl dX11_runFor_77 ?_
      refine xr_il3 dX11_runFor_80 ?_
      refine xr_i2l dX11_runFor_81 ?_
      refine xr_al0 dX11_runFor_82 ?_
      refine xr_get W.oX fX11_26 rfl dX11_runFor_83 ?_
      refine xr_get W.Hh.1 fX11_221 rfl dX11_runFor_86 ?_
      refine xr_i2l dX11_runFor_89 ?_
      refine xr_Vv2 (s_tell2 W.Hr _ _) kX11_236 (by decide) (Nat.le_of_ble_eq_true rfl) (Nat.zero_add _) (Nat.zero_add _) dX11_runFor_90 ?_
      refine xT.nm (fun zh1 zg1 => ?_)
      have W := W.ur (fB2 zg1)
      refine xr_il2 dX11_runFor_93 ?_
      refine xr_iret dX11_runFor_94 rfl ?_
      exact ⟨_, rfl, rfl, W⟩
    · skip
      exact absurd (nI_le (a := N) (by omega) (by omega)) zc22
  | succ r ih =>
    intro k w s y5 h σ W hk
    refine xr_il4 dX11_runFor_19 ?_
    refine xr_il1 dX11_runFor_21 ?_
    refine xr_icmpge (tgt := 76) dX11_runFor_22 (by decide) (fun zc22 => ?_) (fun zc22 => ?_)
    · skip
      exact absurd zc22 (nI_ge (by omega) (by omega))
    · skip
      refine xr_al0 dX11_runFor_25 ?_
      refine xr_get W.oX fX11_26 rfl dX11_runFor_26 ?_
      refine xr_Vi0 (s_nobodyWaits W.Hh) kX11_245 (by decide) (Nat.le_of_ble_eq_true rfl) (Nat.zero_add _) (Nat.zero_add _) dX11_runFor_29 ?_
      refine xr_ifne (tgt := 39) dX11_runFor_32 (by decide) (fun zc32 => ?_) (fun zc32 => ?_)
      · skip
        refine xr_ic0 dX11_runFor_39 ?_
        refine xr_is5 dX11_runFor_40 (by decide) rfl ?_
        refine xr_al0 dX11_runFor_42 ?_
        refine xr_get W.oX fX11_26 rfl dX11_runFor_43 ?_
        refine xr_al0 dX11_runFor_46 ?_
        refine xr_get W.oX fX11_50 rfl dX11_runFor_47 ?_
        refine xr_Vpi1 (wRunH W) kX11_249 (by decide) (Nat.le_of_ble_eq_true rfl) (Nat.zero_add _) (Nat.zero_add _) dX11_runFor_50 (fun zv50 zh1 zq1 => ?_)
        obtain ⟨rfl, W⟩ := zq1
        refine xr_ifeq (tgt := 62) dX11_runFor_53 (by decide) (fun zc53 => ?_) (fun zc53 => ?_)
        · skip
          refine xr_il5 dX11_runFor_62 ?_
          refine xr_ifeq (tgt := 70) dX11_runFor_64 (by decide) (fun zc64 => ?_) (fun zc64 => ?_)
          · skip
            refine xr_inc4 dX11_runFor_70 (nI_inc k) (by decide) rfl ?_
            refine xr_goto (tgt := 19) dX11_runFor_73 (by decide) ?_
            have zno := Decidable.not_not.mp (fun q => zc32 (bI_0.mpr q))
            have hi := ih (k + 1) (if hGo σ then w + 1 else w) (if hGo σ then s else if σ 10 + σ 11 = 0 then s else s + 1) (some (.int 0)) W (by omega)
            rw [← rfN_s] at hi
            rw [if_neg (bI_0.mp zc53), if_neg (bI_0.mp zc53)] at hi
            rw [if_pos zno] at hi
            exact hi
          · skip
            exact absurd rfl zc64
        · skip
          refine xr_inc2 dX11_runFor_56 (show w + Int32.ofInt (1) = w + 1 from rfl) (by decide) rfl ?_
          refine xr_goto (tgt := 70) dX11_runFor_59 (by decide) ?_
          refine xr_inc4 dX11_runFor_70 (nI_inc k) (by decide) rfl ?_
          refine xr_goto (tgt := 19) dX11_runFor_73 (by decide) ?_
          have zgo := Decidable.not_not.mp (fun q => zc53 (bI_0.mpr q))
          have zno := Decidable.not_not.mp (fun q => zc32 (bI_0.mpr q))
          have hi := ih (k + 1) (if hGo σ then w + 1 else w) (if hGo σ then s else if σ 10 + σ 11 = 0 then s else s + 1) (some (.int 0)) W (by omega)
          rw [← rfN_s] at hi
          rw [if_pos zgo, if_pos zgo] at hi
          exact hi
      · skip
        refine xr_ic1 dX11_runFor_35 ?_
        refine xr_goto (tgt := 40) dX11_runFor_36 (by decide) ?_
        refine xr_is5 dX11_runFor_40 (by decide) rfl ?_
        refine xr_al0 dX11_runFor_42 ?_
        refine xr_get W.oX fX11_26 rfl dX11_runFor_43 ?_
        refine xr_al0 dX11_runFor_46 ?_
        refine xr_get W.oX fX11_50 rfl dX11_runFor_47 ?_
        refine xr_Vpi1 (wRunH W) kX11_249 (by decide) (Nat.le_of_ble_eq_true rfl) (Nat.zero_add _) (Nat.zero_add _) dX11_runFor_50 (fun zv50 zh1 zq1 => ?_)
        obtain ⟨rfl, W⟩ := zq1
        refine xr_ifeq (tgt := 62) dX11_runFor_53 (by decide) (fun zc53 => ?_) (fun zc53 => ?_)
        · skip
          refine xr_il5 dX11_runFor_62 ?_
          refine xr_ifeq (tgt := 70) dX11_runFor_64 (by decide) (fun zc64 => ?_) (fun zc64 => ?_)
          · skip
            exact absurd zc64 (by decide)
          · skip
            refine xr_inc3 dX11_runFor_67 (show s + Int32.ofInt (1) = s + 1 from rfl) (by decide) rfl ?_
            refine xr_inc4 dX11_runFor_70 (nI_inc k) (by decide) rfl ?_
            refine xr_goto (tgt := 19) dX11_runFor_73 (by decide) ?_
            have zno := bI_0.mp zc32
            have hi := ih (k + 1) (if hGo σ then w + 1 else w) (if hGo σ then s else if σ 10 + σ 11 = 0 then s else s + 1) (some (.int 1)) W (by omega)
            rw [← rfN_s] at hi
            rw [if_neg (bI_0.mp zc53), if_neg (bI_0.mp zc53)] at hi
            rw [if_neg zno] at hi
            exact hi
        · skip
          refine xr_inc2 dX11_runFor_56 (show w + Int32.ofInt (1) = w + 1 from rfl) (by decide) rfl ?_
          refine xr_goto (tgt := 70) dX11_runFor_59 (by decide) ?_
          refine xr_inc4 dX11_runFor_70 (nI_inc k) (by decide) rfl ?_
          refine xr_goto (tgt := 19) dX11_runFor_73 (by decide) ?_
          have zgo := Decidable.not_not.mp (fun q => zc53 (bI_0.mpr q))
          have zno := bI_0.mp zc32
          have hi := ih (k + 1) (if hGo σ then w + 1 else w) (if hGo σ then s else if σ 10 + σ 11 = 0 then s else s + 1) (some (.int 1)) W (by omega)
          rw [← rfN_s] at hi
          rw [if_pos zgo, if_pos zgo] at hi
          exact hi
set_option maxRecDepth 20000 in
theorem s_runFor {K : xK} {B : Nat} {l : Launch} {h0 h : xH} {X D : Nat} {tn : Nat} {tf : Nat → Int32} {rk : Int32} {rv : Nat → Int64} {σ : xs} {β : xs} {γ : xs} {pn : Nat} {τ : Nat → xs} {ks : Nat → Bool} {κ : Nat → xs} {φ : xs → Int32} {hn : Nat} {hf : Nat → Int32} {hg : Nat → Int32} {wn : Nat} {wf : Nat → Int32} {wg : Nat → Int32} (W : xCw K h0 h X D tn tf rk rv σ β γ pn τ ks κ φ hn hf hg wn wf wg) (x : Int32) : xV K B l 4 mX11_runFor 0 0 (X) [.int x] h (xPi (fun v g => v = (aRuns φ σ rk rv x).1 ∧ xCw K h0 g X D tn tf ((aRuns φ σ rk rv x).2.2.1) ((aRuns φ σ rk rv x).2.2.2) ((aRuns φ σ rk rv x).2.1) β γ pn τ ks κ φ hn hf hg wn wf wg)) := by
  refine ⟨⟨_, _, _, _, W.oX, rfl⟩, qX11_runFor, ?_⟩
  refine xS.intro RX11 false ⟨rfl, rfl, by decide, by decide, Nat.le_of_ble_eq_true rfl⟩ (ls := [some (.ref X), some (.int x), none, none, none, none]) rfl ?_
  refine xr_il1 dX11_runFor_0 ?_
  refine xr_iflt (tgt := 10) dX11_runFor_1 (by decide) (fun zc1 => ?_) (fun zc1 => ?_)
  · skip
    refine xr_icm1 dX11_runFor_10 ?_
    refine xr_iret dX11_runFor_11 rfl ?_
    have e : (aRuns φ σ rk rv x) = _ := if_pos (Or.inl zc1)
    rw [e]
    exact ⟨_, rfl, rfl, W⟩
  · skip
    refine xr_il1 dX11_runFor_4 ?_
    refine xr_bipush (v := 60) dX11_runFor_5 (by decide) ?_
    refine xr_icmple (tgt := 12) dX11_runFor_7 (by decide) (fun zc7 => ?_) (fun zc7 => ?_)
    · skip
      refine xr_ic0 dX11_runFor_12 ?_
      refine xr_is2 dX11_runFor_13 (by decide) rfl ?_
      refine xr_ic0 dX11_runFor_14 ?_
      refine xr_is3 dX11_runFor_15 (by decide) rfl ?_
      refine xr_ic0 dX11_runFor_16 ?_
      refine xr_is4 dX11_runFor_17 (by decide) rfl ?_
      rcases pk_ix x (n := 61) (by decide) with z | z | ⟨N, hN, rfl⟩
      · exact absurd z zc1
      · exact absurd (Int32.le_trans z zc7) (by decide)
      · have e : (aRuns φ σ rk rv (nI N)) = _ := if_neg (fun q => q.elim zc1 (Int32.not_lt.mpr zc7))
        rw [nI_clamp (by omega)] at e
        rw [e]
        exact lp_runFor N (by omega) N 0 0 0 none W (by omega)
    · skip
      refine xr_icm1 dX11_runFor_10 ?_
      refine xr_iret dX11_runFor_11 rfl ?_
      have e : (aRuns φ σ rk rv x) = _ := if_pos (Or.inr (Int32.not_le.mp zc7))
      rw [e]
      exact ⟨_, rfl, rfl, W⟩
set_option maxRecDepth 20000 in
theorem s_runs {K : xK} {B : Nat} {l : Launch} {h0 h : xH} {X D : Nat} {tn : Nat} {tf : Nat → Int32} {rk : Int32} {rv : Nat → Int64} {σ : xs} {β : xs} {γ : xs} {pn : Nat} {τ : Nat → xs} {ks : Nat → Bool} {κ : Nat → xs} {φ : xs → Int32} {hn : Nat} {hf : Nat → Int32} {hg : Nat → Int32} {wn : Nat} {wf : Nat → Int32} {wg : Nat → Int32} (W : xCw K h0 h X D tn tf rk rv σ β γ pn τ ks κ φ hn hf hg wn wf wg) (x : Int32) : xV K B l 5 mX11_runs 3 21 (X) [.int x] h (xPi (fun v g => v = (aRuns φ σ rk rv x).1 ∧ xCw K h0 g X D tn tf ((aRuns φ σ rk rv x).2.2.1) ((aRuns φ σ rk rv x).2.2.2) ((aRuns φ σ rk rv x).2.1) σ γ (rn_ (aRuns φ σ rk rv x).1 pn) (rt_ (aRuns φ σ rk rv x).1 pn τ σ) ks κ φ hn hf hg wn wf wg)) := by
  refine ⟨⟨_, _, _, _, W.oX, rfl⟩, qX11_runs, ?_⟩
  refine xS.intro RX11 false ⟨rfl, rfl, by decide, by decide, Nat.le_of_ble_eq_true rfl⟩ (ls := [some (.ref X), some (.int x)]) rfl ?_
  refine xr_al0 dX11_runs_0 ?_
  refine xr_get W.oX fX11_30 rfl dX11_runs_1 ?_
  refine xr_al0 dX11_runs_4 ?_
  refine xr_get W.oX fX11_26 rfl dX11_runs_5 ?_
  refine xr_Vv1 (s_copyFrom W.Hb W.Hh (by omega)) kX11_179 (by decide) (Nat.le_of_ble_eq_true rfl) (Nat.zero_add _) (Nat.zero_add _) dX11_runs_8 ?_
  refine xT.nm (fun zh1 zg1 => ?_)
  have okb := W.pok
  have W := W.ub (fBH zg1)
  refine xr_al0 dX11_runs_11 ?_
  refine xr_al0 dX11_runs_12 ?_
  refine xr_il1 dX11_runs_13 ?_
  refine xr_Vpi1 (s_runFor W _) kX11_194 (by decide) (Nat.le_of_ble_eq_true rfl) (Nat.zero_add _) (Nat.zero_add _) dX11_runs_14 (fun zv14 zh2 zq2 => ?_)
  obtain ⟨rfl, W⟩ := zq2
  refine xr_Vpi1 (s_remembered W okb _) kX11_185 (by decide) (Nat.le_of_ble_eq_true rfl) (rc' := 0) (rs' := 0) rfl rfl dX11_runs_17 (fun zv17 zh3 zq3 => ?_)
  obtain ⟨rfl, W⟩ := zq3
  refine xr_iret dX11_runs_20 rfl ?_
  exact ⟨_, rfl, rfl, W⟩
def nMany (σ : xs) : Prop := σ 10 + σ 11 = 0
set_option maxRecDepth 20000 in
theorem s_needs {K : xK} {B : Nat} {l : Launch} {h0 h : xH} {X D : Nat} {tn : Nat} {tf : Nat → Int32} {rk : Int32} {rv : Nat → Int64} {σ : xs} {β : xs} {γ : xs} {pn : Nat} {τ : Nat → xs} {ks : Nat → Bool} {κ : Nat → xs} {φ : xs → Int32} {hn : Nat} {hf : Nat → Int32} {hg : Nat → Int32} {wn : Nat} {wf : Nat → Int32} {wg : Nat → Int32} (W : xCw K h0 h X D tn tf rk rv σ β γ pn τ ks κ φ hn hf hg wn wf wg) : xV K B l 3 mX11_needs 0 0 (X) [] h (xPi (fun v g => v = (if σ 10 + σ 11 = 0 then -2 else hWater σ (hNext σ 0) (hNext σ 1)) ∧ xCw K h0 g X D tn tf (if σ 10 + σ 11 = 0 then rk else 2) (if σ 10 + σ 11 = 0 then rv else tl2 rv (wt σ 0 (hNext σ 0)) (wt σ 1 (hNext σ 1))) σ β γ pn τ ks κ φ hn hf hg wn wf wg)) := by
  refine ⟨⟨_, _, _, _, W.oX, rfl⟩, qX11_needs, ?_⟩
  refine xS.intro RX11 false ⟨rfl, rfl, by decide, by decide, Nat.le_of_ble_eq_true rfl⟩ (ls := [some (.ref X), none, none]) rfl ?_
  refine xr_al0 dX11_needs_0 ?_
  refine xr_get W.oX fX11_26 rfl dX11_needs_1 ?_
  refine xr_Vi0 (s_nobodyWaits W.Hh) kX11_245 (by decide) (Nat.le_of_ble_eq_true rfl) (Nat.zero_add _) (Nat.zero_add _) dX11_needs_4 ?_
  refine xr_ifeq (tgt := 13) dX11_needs_7 (by decide) (fun zc7 => ?_) (fun zc7 => ?_)
  · skip
    have z0 := bI_0.mp zc7
    refine xr_al0 dX11_needs_13 ?_
    refine xr_get W.oX fX11_26 rfl dX11_needs_14 ?_
    refine xr_ic0 dX11_needs_17 ?_
    refine xr_Vi1 (s_nextOf W.Hh _) kX11_215 (by decide) (Nat.le_of_ble_eq_true rfl) (Nat.zero_add _) (Nat.zero_add _) dX11_needs_18 ?_
    refine xr_is1 dX11_needs_21 (by decide) rfl ?_
    refine xr_al0 dX11_needs_22 ?_
    refine xr_get W.oX fX11_26 rfl dX11_needs_23 ?_
    refine xr_ic1 dX11_needs_26 ?_
    refine xr_Vi1 (s_nextOf W.Hh _) kX11_215 (by decide) (Nat.le_of_ble_eq_true rfl) (Nat.zero_add _) (Nat.zero_add _) dX11_needs_27 ?_
    refine xr_is2 dX11_needs_30 (by decide) rfl ?_
    refine xr_al0 dX11_needs_31 ?_
    refine xr_get W.oX fX11_19 rfl dX11_needs_32 ?_
    refine xr_al0 dX11_needs_35 ?_
    refine xr_get W.oX fX11_26 rfl dX11_needs_36 ?_
    refine xr_ic0 dX11_needs_39 ?_
    refine xr_il1 dX11_needs_40 ?_
    refine xr_Vi2 (s_weightOf W.Hh W.pok (s := 0) (by decide) _) kX11_168 (by decide) (Nat.le_of_ble_eq_true rfl) (Nat.zero_add _) (Nat.zero_add _) dX11_needs_41 ?_
    refine xr_i2l dX11_needs_44 ?_
    refine xr_al0 dX11_needs_45 ?_
    refine xr_get W.oX fX11_26 rfl dX11_needs_46 ?_
    refine xr_ic1 dX11_needs_49 ?_
    refine xr_il2 dX11_needs_50 ?_
    refine xr_Vi2 (s_weightOf W.Hh W.pok (s := 1) (by decide) _) kX11_168 (by decide) (Nat.le_of_ble_eq_true rfl) (Nat.zero_add _) (Nat.zero_add _) dX11_needs_51 ?_
    refine xr_i2l dX11_needs_54 ?_
    refine xr_Vv2 (s_tell2 W.Hr _ _) kX11_236 (by decide) (Nat.le_of_ble_eq_true rfl) (Nat.zero_add _) (Nat.zero_add _) dX11_needs_55 ?_
    refine xT.nm (fun zh1 zg1 => ?_)
    have W := W.ur (fB2 zg1)
    refine xr_al0 dX11_needs_58 ?_
    refine xr_get W.oX fX11_26 rfl dX11_needs_59 ?_
    refine xr_il1 dX11_needs_62 ?_
    refine xr_il2 dX11_needs_63 ?_
    refine xr_Vi2 (s_waterFor W.Hh W.pok _ _) kX11_218 (by decide) (Nat.le_of_ble_eq_true rfl) (Nat.zero_add _) (Nat.zero_add _) dX11_needs_64 ?_
    refine xr_iret dX11_needs_67 rfl ?_
    refine ⟨_, rfl, (if_neg z0).symm, ?_⟩
    rw [if_neg z0, if_neg z0]
    exact W
  · skip
    have z0 := Decidable.not_not.mp (fun q => zc7 (bI_0.mpr q))
    refine xr_bipush (v := (-2)) dX11_needs_10 (by decide) ?_
    refine xr_iret dX11_needs_12 rfl ?_
    refine ⟨_, rfl, (if_pos z0).symm, ?_⟩
    rw [if_pos z0, if_pos z0]
    exact W
set_option maxRecDepth 20000 in
theorem s_undo {K : xK} {B : Nat} {l : Launch} {h0 h : xH} {X D : Nat} {tn : Nat} {tf : Nat → Int32} {rk : Int32} {rv : Nat → Int64} {σ : xs} {β : xs} {γ : xs} {pn : Nat} {τ : Nat → xs} {ks : Nat → Bool} {κ : Nat → xs} {φ : xs → Int32} {hn : Nat} {hf : Nat → Int32} {hg : Nat → Int32} {wn : Nat} {wf : Nat → Int32} {wg : Nat → Int32} (W : xCw K h0 h X D tn tf rk rv σ β γ pn τ ks κ φ hn hf hg wn wf wg) : xV K B l 3 mX11_undo 0 0 (X) [] h (xPi (fun v g => v = (if 0 < pn then nI (pn - 1) else -1) ∧ xCw K h0 g X D tn tf rk rv (if 0 < pn then τ (pn - 1) else σ) β γ (pn - 1) τ ks κ φ hn hf hg wn wf wg)) := by
  refine ⟨⟨_, _, _, _, W.oX, rfl⟩, qX11_undo, ?_⟩
  refine xS.intro RX11 false ⟨rfl, rfl, by decide, by decide, Nat.le_of_ble_eq_true rfl⟩ (ls := [some (.ref X)]) rfl ?_
  refine xr_al0 dX11_undo_0 ?_
  refine xr_get W.oX fX11_39 rfl dX11_undo_1 ?_
  refine xr_al0 dX11_undo_4 ?_
  refine xr_get W.oX fX11_26 rfl dX11_undo_5 ?_
  refine xr_Vpi1 (wUndo W) kX11_280 (by decide) (Nat.le_of_ble_eq_true rfl) (Nat.zero_add _) (Nat.zero_add _) dX11_undo_8 (fun zv8 zh1 zq1 => ?_)
  obtain ⟨rfl, W⟩ := zq1
  refine xr_ifeq (tgt := 24) dX11_undo_11 (by decide) (fun zc11 => ?_) (fun zc11 => ?_)
  · skip
    refine xr_icm1 dX11_undo_24 ?_
    refine xr_iret dX11_undo_25 rfl ?_
    exact ⟨_, rfl, (if_neg (bI_0.mp zc11)).symm, W⟩
  · skip
    refine xr_al0 dX11_undo_14 ?_
    refine xr_get W.oX fX11_39 rfl dX11_undo_15 ?_
    refine xr_Vi0 (s_paSize (Classical.choose_spec (Classical.choose_spec (Classical.choose_spec (Classical.choose_spec W.Hp)))).1) kX11_284 (by decide) (Nat.le_of_ble_eq_true rfl) (Nat.zero_add _) (Nat.zero_add _) dX11_undo_18 ?_
    refine xr_goto (tgt := 25) dX11_undo_21 (by decide) ?_
    refine xr_iret dX11_undo_25 rfl ?_
    exact ⟨_, rfl, (if_pos (Decidable.not_not.mp (fun q => zc11 (bI_0.mpr q)))).symm, W⟩
