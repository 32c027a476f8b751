/-! law, years, count, odds (written by wip/whole/car10.py) -/
/-- the other rule is put in: what it holds, and its meaning -/
def oX (K : xK) (h : xH) (a : Nat) (ou : List Int32) (f : Nat → Int32) (ψ : xs → Int32) : Prop := ou.length ≤ 40 ∧ stk f ou ∧ (∀ σ g, spr σ f g ou.length = ψ σ) ∧ ∃ s : Nat → Int32, X3 h a (ruO a (nI ou.length)) (iA K 40 f) (iA K 40 s)
theorem wRunO {K : xK} {B : Nat} {l : Launch} {h0 h : xH} {X D : Nat} {tn : Nat} {tf : Nat → Int32} {rk : Int32} {rv : Nat → Int64} {σ : xs} {β : xs} {γ : xs} {pn : Nat} {τ : Nat → xs} {ks : Nat → Bool} {κ : Nat → xs} {φ : xs → Int32} {hn : Nat} {hf : Nat → Int32} {hg : Nat → Int32} {wn : Nat} {wf : Nat → Int32} {wg : Nat → Int32} (W : xCw K h0 h X D tn tf rk rv σ β γ pn τ ks κ φ hn hf hg wn wf wg) (okt : hOk γ) {ou : List Int32} {f : Nat → Int32} {ψ : xs → Int32} (O : oX K h (X + 20) ou f ψ) : xV K B l 3 mX3_runMinute 0 0 (X + 11) [.ref (X + 20)] h (xPi (fun v g => v = bI (hGo γ) ∧ xCw K h0 g X D tn tf rk rv σ β (hRun ψ γ) pn τ ks κ φ hn hf hg wn wf wg ∧ oX K g (X + 20) ou f ψ)) := by
  obtain ⟨hn, hs, hψ, s, H3⟩ := O
  refine (s_runMinute W.Hq okt H3 hn (by omega)).post (fun r g q => ?_)
  obtain ⟨rfl, e⟩ := q
  rw [P3_f H3, hψ] at e
  have W1 := W.uo (g := P3 h (X + 20) (ruO (X + 20) (nI ou.length)) (iA K 40 f) (iA K 40 (spN (hMid γ) f (s, 0) ou.length).1)) ⟨rfl, (fB3 rfl).2.1, ⟨ou, f, _, (fB3 rfl).2.2, hs⟩⟩
  exact ⟨_, rfl, rfl, W1.uq (fBH e), hn, hs, hψ, _, X3.frw (P3_at h (X + 20) _ _ _) (fun b _ _ => (fBH e).2.1 b (by omega))⟩
theorem oX.frw {K : xK} {h g : xH} {a : Nat} {ou : List Int32} {f : Nat → Int32} {ψ : xs → Int32} (O : oX K h a ou f ψ) (q : ∀ b, a ≤ b → b < a + 3 → g.2 b = h.2 b) : oX K g a ou f ψ := by
  obtain ⟨hn, hs, hψ, s, H3⟩ := O
  exact ⟨hn, hs, hψ, s, H3.frw q⟩
set_option maxRecDepth 20000 in
theorem lp_twentyT {K : xK} {B : Nat} {l : Launch} {h0 : xH} {X D : Nat} {tn : Nat} {tf : Nat → Int32} {rk : Int32} {rv : Nat → Int64} {σ : xs} {β : xs} {pn : Nat} {τ : Nat → xs} {ks : Nat → Bool} {κ : Nat → xs} {φ : xs → Int32} {hn : Nat} {hf : Nat → Int32} {hg : Nat → Int32} {wn : Nat} {wf : Nat → Int32} {wg : Nat → Int32} : ∀ (r : Nat) (k : Nat) {h : xH} {γ : xs} (W : xCw K h0 h X D tn tf rk rv σ β γ pn τ ks κ φ hn hf hg wn wf wg), k + r = 20 → hOk γ → xT K B l 4 RX11 false cX11_runTwentyBy 3 (some .int) 0 0 0 0 (xPi (fun zr g => zr = (itR φ r γ) 17 - σ 17 ∧ xCw K h0 g X D tn tf rk rv σ β ((itR φ r γ)) pn τ ks κ φ hn hf hg wn wf wg)) 13 [some (.ref X), some (.ref (X + 17)), some (.int (nI k))] [] h := by
  intro r
  induction r with
  | zero =>
    intro k h γ W hk okt
    refine xr_il2 dX11_runTwentyBy_13 ?_
    refine xr_bipush (v := 20) dX11_runTwentyBy_14 (by decide) ?_
    refine xr_icmpge (tgt := 34) dX11_runTwentyBy_16 (by decide) (fun zc16 => ?_) (fun zc16 => ?_)
    · skip
      refine xr_al0 dX11_runTwentyBy_34 ?_
      refine xr_get W.oX fX11_33 rfl dX11_runTwentyBy_35 ?_
      refine xr_get W.Hq.1 fX11_299 rfl dX11_runTwentyBy_38 ?_
      refine xr_al0 dX11_runTwentyBy_41 ?_
      refine xr_get W.oX fX11_26 rfl dX11_runTwentyBy_42 ?_
      refine xr_get W.Hh.1 fX11_299 rfl dX11_runTwentyBy_45 ?_
      refine xr_isub dX11_runTwentyBy_48 ?_
      refine xr_iret dX11_runTwentyBy_49 rfl ?_
      exact ⟨_, rfl, rfl, W⟩
    · skip
      exact absurd (nI_le (a := 20) (by omega) (by omega)) zc16
  | succ r ih =>
    intro k h γ W hk okt
    refine xr_il2 dX11_runTwentyBy_13 ?_
    refine xr_bipush (v := 20) dX11_runTwentyBy_14 (by decide) ?_
    refine xr_icmpge (tgt := 34) dX11_runTwentyBy_16 (by decide) (fun zc16 => ?_) (fun zc16 => ?_)
    · skip
      exact absurd zc16 (nI_ge (b := 20) (by omega) (by decide))
    · skip
      refine xr_al0 dX11_runTwentyBy_19 ?_
      refine xr_get W.oX fX11_33 rfl dX11_runTwentyBy_20 ?_
      refine xr_al1 dX11_runTwentyBy_23 ?_
      refine xr_Vpi1 (wRunT W okt) kX11_249 (by decide) (Nat.le_of_ble_eq_true rfl) (Nat.zero_add _) (Nat.zero_add _) dX11_runTwentyBy_24 (fun zv24 zh1 zq1 => ?_)
      have okt := hOk_run okt φ
      obtain ⟨rfl, W⟩ := zq1
      refine xr_pop dX11_runTwentyBy_27 rfl ?_
      refine xr_inc2 dX11_runTwentyBy_28 (nI_inc k) (by decide) rfl ?_
      refine xr_goto (tgt := 13) dX11_runTwentyBy_31 (by decide) ?_
      rw [itR_s]
      exact ih (k + 1) W (by omega) okt
set_option maxRecDepth 20000 in
theorem s_twentyT {K : xK} {B : Nat} {l : Launch} {h0 h : xH} {X D : Nat} {tn : Nat} {tf : Nat → Int32} {rk : Int32} {rv : Nat → Int64} {σ : xs} {β : xs} {γ : xs} {pn : Nat} {τ : Nat → xs} {ks : Nat → Bool} {κ : Nat → xs} {φ : xs → Int32} {hn : Nat} {hf : Nat → Int32} {hg : Nat → Int32} {wn : Nat} {wf : Nat → Int32} {wg : Nat → Int32} (W : xCw K h0 h X D tn tf rk rv σ β γ pn τ ks κ φ hn hf hg wn wf wg) : xV K B l 4 mX11_runTwentyBy 0 0 (X) [.ref (X + 17)] h (xPi (fun zr g => zr = (itR φ 20 σ) 17 - σ 17 ∧ xCw K h0 g X D tn tf rk rv σ β ((itR φ 20 σ)) pn τ ks κ φ hn hf hg wn wf wg)) := by
  refine ⟨⟨_, _, _, _, W.oX, rfl⟩, qX11_runTwentyBy, ?_⟩
  refine xS.intro RX11 false ⟨rfl, rfl, by decide, by decide, Nat.le_of_ble_eq_true rfl⟩ (ls := [some (.ref X), some (.ref (X + 17)), none]) rfl ?_
  refine xr_al0 dX11_runTwentyBy_0 ?_
  refine xr_get W.oX fX11_33 rfl dX11_runTwentyBy_1 ?_
  refine xr_al0 dX11_runTwentyBy_4 ?_
  refine xr_get W.oX fX11_26 rfl dX11_runTwentyBy_5 ?_
  refine xr_Vv1 (s_copyFrom W.Hq W.Hh (by omega)) kX11_179 (by decide) (Nat.le_of_ble_eq_true rfl) (Nat.zero_add _) (Nat.zero_add _) dX11_runTwentyBy_8 ?_
  refine xT.nm (fun zh1 zg1 => ?_)
  have okt := W.pok
  have W := W.uq (fBH zg1)
  refine xr_ic0 dX11_runTwentyBy_11 ?_
  refine xr_is2 dX11_runTwentyBy_12 (by decide) rfl ?_
  exact lp_twentyT 20 0 W (by omega) okt
set_option maxRecDepth 20000 in
theorem lp_twentyO {K : xK} {B : Nat} {l : Launch} {h0 : xH} {X D : Nat} {tn : Nat} {tf : Nat → Int32} {rk : Int32} {rv : Nat → Int64} {σ : xs} {β : xs} {pn : Nat} {τ : Nat → xs} {ks : Nat → Bool} {κ : Nat → xs} {φ : xs → Int32} {hn : Nat} {hf : Nat → Int32} {hg : Nat → Int32} {wn : Nat} {wf : Nat → Int32} {wg : Nat → Int32} {ou : List Int32} {f : Nat → Int32} {ψ : xs → Int32} : ∀ (r : Nat) (k : Nat) {h : xH} {γ : xs} (W : xCw K h0 h X D tn tf rk rv σ β γ pn τ ks κ φ hn hf hg wn wf wg) (O : oX K h (X + 20) ou f ψ), k + r = 20 → hOk γ → xT K B l 4 RX11 false cX11_runTwentyBy 3 (some .int) 0 0 0 0 (xPi (fun zr g => zr = (itR ψ r γ) 17 - σ 17 ∧ xCw K h0 g X D tn tf rk rv σ β ((itR ψ r γ)) pn τ ks κ φ hn hf hg wn wf wg ∧ oX K g (X + 20) ou f ψ)) 13 [some (.ref X), some (.ref (X + 20)), some (.int (nI k))] [] h := by
  intro r
  induction r with
  | zero =>
    intro k h γ W O hk okt
    refine xr_il2 dX11_runTwentyBy_13 ?_
    refine xr_bipush (v := 20) dX11_runTwentyBy_14 (by decide) ?_
    refine xr_icmpge (tgt := 34) dX11_runTwentyBy_16 (by decide) (fun zc16 => ?_) (fun zc16 => ?_)
    · skip
      refine xr_al0 dX11_runTwentyBy_34 ?_
      refine xr_get W.oX fX11_33 rfl dX11_runTwentyBy_35 ?_
      refine xr_get W.Hq.1 fX11_299 rfl dX11_runTwentyBy_38 ?_
      refine xr_al0 dX11_runTwentyBy_41 ?_
      refine xr_get W.oX fX11_26 rfl dX11_runTwentyBy_42 ?_
      refine xr_get W.Hh.1 fX11_299 rfl dX11_runTwentyBy_45 ?_
      refine xr_isub dX11_runTwentyBy_48 ?_
      refine xr_iret dX11_runTwentyBy_49 rfl ?_
      exact ⟨_, rfl, rfl, W, O⟩
    · skip
      exact absurd (nI_le (a := 20) (by omega) (by omega)) zc16
  | succ r ih =>
    intro k h γ W O hk okt
    refine xr_il2 dX11_runTwentyBy_13 ?_
    refine xr_bipush (v := 20) dX11_runTwentyBy_14 (by decide) ?_
    refine xr_icmpge (tgt := 34) dX11_runTwentyBy_16 (by decide) (fun zc16 => ?_) (fun zc16 => ?_)
    · skip
      exact absurd zc16 (nI_ge (b := 20) (by omega) (by decide))
    · skip
      refine xr_al0 dX11_runTwentyBy_19 ?_
      refine xr_get W.oX fX11_33 rfl dX11_runTwentyBy_20 ?_
      refine xr_al1 dX11_runTwentyBy_23 ?_
      refine xr_Vpi1 (wRunO W okt O) kX11_249 (by decide) (Nat.le_of_ble_eq_true rfl) (Nat.zero_add _) (Nat.zero_add _) dX11_runTwentyBy_24 (fun zv24 zh1 zq1 => ?_)
      have okt := hOk_run okt ψ
      obtain ⟨rfl, W, O⟩ := zq1
      refine xr_pop dX11_runTwentyBy_27 rfl ?_
      refine xr_inc2 dX11_runTwentyBy_28 (nI_inc k) (by decide) rfl ?_
      refine xr_goto (tgt := 13) dX11_runTwentyBy_31 (by decide) ?_
      rw [itR_s]
      exact ih (k + 1) W O (by omega) okt
set_option maxRecDepth 20000 in
theorem s_twentyO {K : xK} {B : Nat} {l : Launch} {h0 h : xH} {X D : Nat} {tn : Nat} {tf : Nat → Int32} {rk : Int32} {rv : Nat → Int64} {σ : xs} {β : xs} {γ : xs} {pn : Nat} {τ : Nat → xs} {ks : Nat → Bool} {κ : Nat → xs} {φ : xs → Int32} {hn : Nat} {hf : Nat → Int32} {hg : Nat → Int32} {wn : Nat} {wf : Nat → Int32} {wg : Nat → Int32} (W : xCw K h0 h X D tn tf rk rv σ β γ pn τ ks κ φ hn hf hg wn wf wg) {ou : List Int32} {f : Nat → Int32} {ψ : xs → Int32} (O : oX K h (X + 20) ou f ψ) : xV K B l 4 mX11_runTwentyBy 0 0 (X) [.ref (X + 20)] h (xPi (fun zr g => zr = (itR ψ 20 σ) 17 - σ 17 ∧ xCw K h0 g X D tn tf rk rv σ β ((itR ψ 20 σ)) pn τ ks κ φ hn hf hg wn wf wg ∧ oX K g (X + 20) ou f ψ)) := by
  refine ⟨⟨_, _, _, _, W.oX, rfl⟩, qX11_runTwentyBy, ?_⟩
  refine xS.intro RX11 false ⟨rfl, rfl, by decide, by decide, Nat.le_of_ble_eq_true rfl⟩ (ls := [some (.ref X), some (.ref (X + 20)), none]) rfl ?_
  refine xr_al0 dX11_runTwentyBy_0 ?_
  refine xr_get W.oX fX11_33 rfl dX11_runTwentyBy_1 ?_
  refine xr_al0 dX11_runTwentyBy_4 ?_
  refine xr_get W.oX fX11_26 rfl dX11_runTwentyBy_5 ?_
  refine xr_Vv1 (s_copyFrom W.Hq W.Hh (by omega)) kX11_179 (by decide) (Nat.le_of_ble_eq_true rfl) (Nat.zero_add _) (Nat.zero_add _) dX11_runTwentyBy_8 ?_
  refine xT.nm (fun zh1 zg1 => ?_)
  have okt := W.pok
  have O := O.frw (fun b _ _ => (fBH zg1).2.1 b (by omega))
  have W := W.uq (fBH zg1)
  refine xr_ic0 dX11_runTwentyBy_11 ?_
  refine xr_is2 dX11_runTwentyBy_12 (by decide) rfl ?_
  exact lp_twentyO 20 0 W O (by omega) okt
def lawR (b : Int32) (φ ψ : xs → Int32) (σ : xs) (rk : Int32) (rv : Nat → Int64) : AR := if b = -1 then (itR ψ 20 σ 14 - itR φ 20 σ 14, 4, tl4 rv (itR ψ 20 σ 14) (itR φ 20 σ 14) (itR ψ 20 σ 17 - σ 17) (itR φ 20 σ 17 - σ 17)) else (-10000 - b, rk, rv)
set_option maxRecDepth 20000 in
theorem s_law {K : xK} {B : Nat} {l : Launch} {h0 h : xH} {X D : Nat} {tn : Nat} {tf : Nat → Int32} {rk : Int32} {rv : Nat → Int64} {σ : xs} {β : xs} {γ : xs} {pn : Nat} {τ : Nat → xs} {ks : Nat → Bool} {κ : Nat → xs} {φ : xs → Int32} {hn : Nat} {hf : Nat → Int32} {hg : Nat → Int32} {wn : Nat} {wf : Nat → Int32} {wg : Nat → Int32} (W : xCw K h0 h X D tn tf rk rv σ β γ pn τ ks κ φ hn hf hg wn wf wg) (ψ : xs → Int32) (hR : (rdV tf tn).1 = -1 → RuleOk tf tn ψ) : xV K B l 5 mX11_law 0 0 (X) [] h (xPi (fun zr g => zr = (lawR (rdV tf tn).1 φ ψ σ rk rv).1 ∧ ∃ γ', xCw K h0 g X D 0 tf ((lawR (rdV tf tn).1 φ ψ σ rk rv).2.1) ((lawR (rdV tf tn).1 φ ψ σ rk rv).2.2) σ β (γ') pn τ ks κ φ hn hf hg wn wf wg)) := by
  refine ⟨⟨_, _, _, _, W.oX, rfl⟩, qX11_law, ?_⟩
  refine xS.intro RX11 false ⟨rfl, rfl, by decide, by decide, Nat.le_of_ble_eq_true rfl⟩ (ls := [some (.ref X), none, none, none, none]) rfl ?_
  refine xr_al0 dX11_law_0 ?_
  refine xr_get W.oX fX11_62 rfl dX11_law_1 ?_
  refine xr_Vpi0 (wRead W) kX11_141 (by decide) (Nat.le_of_ble_eq_true rfl) (Nat.zero_add _) (Nat.zero_add _) dX11_law_4 (fun zv4 zh1 zq1 => ?_)
  obtain ⟨rfl, W, f5, s5, O5, k5⟩ := zq1
  refine xr_is1 dX11_law_7 (by decide) rfl ?_
  refine xr_al0 dX11_law_8 ?_
  refine xr_get W.oX fX11_12 rfl dX11_law_9 ?_
  refine xr_Vv0 (s_slClear W.Ht) kX11_128 (by decide) (Nat.le_of_ble_eq_true rfl) (Nat.zero_add _) (Nat.zero_add _) dX11_law_12 ?_
  refine xT.nm (fun zh2 zg2 => ?_)
  have O5 := X3.frw O5 (fun b _ _ => (fB2 zg2).2.1 b (by omega))
  have W := W.ut (tn' := 0) (fB2 zg2) (by decide)
  refine xr_il1 dX11_law_15 ?_
  refine xr_icm1 dX11_law_16 ?_
  refine xr_icmpeq (tgt := 26) dX11_law_17 (by decide) (fun zc17 => ?_) (fun zc17 => ?_)
  · skip
    refine xr_al0 dX11_law_26 ?_
    refine xr_al0 dX11_law_27 ?_
    refine xr_get W.oX fX11_54 rfl dX11_law_28 ?_
    have O : oX K zh2 (X + 20) (rdV tf tn).2 f5 ψ := ⟨(hR zc17).1, k5, (hR zc17).2 f5 k5, s5, O5⟩
    refine xr_Vpi1 (s_twentyO W O) kX11_427 (by decide) (Nat.le_of_ble_eq_true rfl) (Nat.zero_add _) (Nat.zero_add _) dX11_law_31 (fun zv31 zh3 zq3 => ?_)
    obtain ⟨rfl, W, O⟩ := zq3
    refine xr_is2 dX11_law_34 (by decide) rfl ?_
    refine xr_al0 dX11_law_35 ?_
    refine xr_get W.oX fX11_33 rfl dX11_law_36 ?_
    refine xr_get W.Hq.1 fX11_221 rfl dX11_law_39 ?_
    refine xr_is3 dX11_law_42 (by decide) rfl ?_
    refine xr_al0 dX11_law_43 ?_
    refine xr_al0 dX11_law_44 ?_
    refine xr_get W.oX fX11_50 rfl dX11_law_45 ?_
    refine xr_Vpi1 (s_twentyT W) kX11_427 (by decide) (Nat.le_of_ble_eq_true rfl) (Nat.zero_add _) (Nat.zero_add _) dX11_law_48 (fun zv48 zh4 zq4 => ?_)
    obtain ⟨rfl, W⟩ := zq4
    refine xr_is4 dX11_law_51 (by decide) rfl ?_
    refine xr_al0 dX11_law_53 ?_
    refine xr_get W.oX fX11_19 rfl dX11_law_54 ?_
    refine xr_il3 dX11_law_57 ?_
    refine xr_i2l dX11_law_58 ?_
    refine xr_al0 dX11_law_59 ?_
    refine xr_get W.oX fX11_33 rfl dX11_law_60 ?_
    refine xr_get W.Hq.1 fX11_221 rfl dX11_law_63 ?_
    refine xr_i2l dX11_law_66 ?_
    refine xr_il2 dX11_law_67 ?_
    refine xr_i2l dX11_law_68 ?_
    refine xr_il4 dX11_law_69 ?_
    refine xr_i2l dX11_law_71 ?_
    refine xr_Vv4 (s_tell4 W.Hr _ _ _ _) kX11_293 (by decide) (Nat.le_of_ble_eq_true rfl) (Nat.zero_add _) (Nat.zero_add _) dX11_law_72 ?_
    refine xT.nm (fun zh5 zg5 => ?_)
    have W := W.ur (fB2 zg5)
    refine xr_il3 dX11_law_75 ?_
    refine xr_al0 dX11_law_76 ?_
    refine xr_get W.oX fX11_33 rfl dX11_law_77 ?_
    refine xr_get W.Hq.1 fX11_221 rfl dX11_law_80 ?_
    refine xr_isub dX11_law_83 ?_
    refine xr_iret dX11_law_84 rfl ?_
    have e : (lawR (rdV tf tn).1 φ ψ σ rk rv) = _ := if_pos zc17
    rw [e]
    exact ⟨_, rfl, rfl, _, W⟩
  · skip
    refine xr_sipush (v := (-10000)) dX11_law_20 (by decide) ?_
    refine xr_il1 dX11_law_23 ?_
    refine xr_isub dX11_law_24 ?_
    refine xr_iret dX11_law_25 rfl ?_
    have e : (lawR (rdV tf tn).1 φ ψ σ rk rv) = _ := if_neg zc17
    rw [e]
    exact ⟨_, rfl, rfl, _, W⟩
theorem wRunT2 {K : xK} {B : Nat} {l : Launch} {h0 h : xH} {X D : Nat} {tn : Nat} {tf : Nat → Int32} {rk : Int32} {rv : Nat → Int64} {σ : xs} {β : xs} {γ : xs} {pn : Nat} {τ : Nat → xs} {ks : Nat → Bool} {κ : Nat → xs} {φ : xs → Int32} {hn : Nat} {hf : Nat → Int32} {hg : Nat → Int32} {wn : Nat} {wf : Nat → Int32} {wg : Nat → Int32} (W : xCw K h0 h X D tn tf rk rv σ β γ pn τ ks κ φ hn hf hg wn wf wg) (ok : hOk γ) : xV K B l 3 mX3_runMinute 0 0 (X + 11) [.ref (X + 17)] h (xPi (fun v g => v = bI (hGo γ) ∧ xCw K h0 g X D tn tf rk rv σ β (hRun φ γ) pn τ ks κ φ hn hf hg wn wf wg ∧ ∀ b, X + 20 ≤ b → g.2 b = h.2 b)) := by
  obtain ⟨n, f, s, hn, H3, hφ⟩ := W.Hu
  refine (s_runMinute W.Hq ok H3 hn (by omega)).post (fun r g q => ?_)
  obtain ⟨rfl, e⟩ := q
  rw [P3_f H3, hφ] at e
  have W1 := W.uu (g := P3 h (X + 17) (ruO (X + 17) (nI n)) (iA K 40 f) (iA K 40 (spN (hMid γ) f (s, 0) n).1)) ⟨rfl, (fB3 rfl).2.1, ⟨n, f, _, hn, (fB3 rfl).2.2, hφ⟩⟩
  exact ⟨_, rfl, rfl, W1.uq (fBH e), fun b hb => ((fBH e).2.1 b (by omega)).trans (P3_ne _ _ _ _ (by omega) (by omega) (by omega))⟩
def yr1 (φ : xs → Int32) (s : Int32) (γ : xs) : Int32 × xs := if drN (dr s) 4 = 0 then (dr s, hRun φ γ) else if drN (dr s) 4 = 3 then (dr (dr s), upd γ 13 (drN (dr (dr s)) 10)) else (dr (dr s), hCome γ (if drN (dr s) 4 = 1 then 0 else 1) (drN (dr (dr s)) 9 + 1))
def itG {α : Type} (f : α → α) : Nat → α → α
  | 0, z => z
  | r + 1, z => itG f r (f z)
theorem itG_s {α : Type} (f : α → α) (r : Nat) (z : α) : itG f (r + 1) z = itG f r (f z) := rfl
def yrF (φ : xs → Int32) (z : Int32 × xs) : Int32 × xs := yr1 φ z.1 z.2
def yrE (rv : Nat → Int64) (γ : xs) : AR := (γ 10 + γ 11, 2, tl2 rv (γ 15 + γ 16) (γ 14))
def yrR (φ : xs → Int32) (σ : xs) (rk : Int32) (rv : Nat → Int64) (s n : Int32) : AR := if n < 1 ∨ 60 < n then (-1, rk, rv) else yrE rv (itG (yrF φ) n.toNatClampNeg (s, σ)).2
set_option maxRecDepth 20000 in
theorem lp_years {K : xK} {B : Nat} {l : Launch} {h0 : xH} {X D : Nat} {tn : Nat} {tf : Nat → Int32} {rk : Int32} {rv : Nat → Int64} {σ : xs} {β : xs} {pn : Nat} {τ : Nat → xs} {ks : Nat → Bool} {κ : Nat → xs} {φ : xs → Int32} {hn : Nat} {hf : Nat → Int32} {hg : Nat → Int32} {wn : Nat} {wf : Nat → Int32} {wg : Nat → Int32} (sd : Int32) (N : Nat) (hN : N ≤ 60) : ∀ (r : Nat) (k : Nat) (y4 : Option Value) {h : xH} {γ : xs} {s : Int32} (W : xCw K h0 h X D tn tf rk rv σ β γ pn τ ks κ φ hn hf hg wn wf wg) (Dc : h.2 (X + 37) = some (diO s)), k + r = N → hOk γ → xT K B l 4 RX11 false cX11_years 5 (some .int) 0 0 0 0 (xPi (fun zr g => zr = (yrE rv (itG (yrF φ) r (s, γ)).2).1 ∧ ∃ γ', xCw K h0 g X D tn tf ((yrE rv (itG (yrF φ) r (s, γ)).2).2.1) ((yrE rv (itG (yrF φ) r (s, γ)).2).2.2) σ β (γ') pn τ ks κ φ hn hf hg wn wf wg)) 34 [some (.ref X), some (.int sd), some (.int (nI N)), some (.int (nI k)), y4] [] h := by
  intro r
  induction r with
  | zero =>
    intro k y4 h γ s W Dc hk okt
    refine xr_il3 dX11_years_34 ?_
    refine xr_il2 dX11_years_35 ?_
    refine xr_icmpge (tgt := 130) dX11_years_36 (by decide) (fun zc36 => ?_) (fun zc36 => ?_)
    · skip
      refine xr_al0 dX11_years_130 ?_
      refine xr_get W.oX fX11_19 rfl dX11_years_131 ?_
      refine xr_al0 dX11_years_134 ?_
      refine xr_get W.oX fX11_33 rfl dX11_years_135 ?_
      refine xr_get W.Hq.1 fX11_287 rfl dX11_years_138 ?_
      refine xr_al0 dX11_years_141 ?_
      refine xr_get W.oX fX11_33 rfl dX11_years_142 ?_
      refine xr_get W.Hq.1 fX11_290 rfl dX11_years_145 ?_
      refine xr_iadd dX11_years_148 ?_
      refine xr_i2l dX11_years_149 ?_
      refine xr_al0 dX11_years_150 ?_
      refine xr_get W.oX fX11_33 rfl dX11_years_151 ?_
      refine xr_get W.Hq.1 fX11_221 rfl dX11_years_154 ?_
      refine xr_i2l dX11_years_157 ?_
      refine xr_Vv2 (s_tell2 W.Hr _ _) kX11_236 (by decide) (Nat.le_of_ble_eq_true rfl) (Nat.zero_add _) (Nat.zero_add _) dX11_years_158 ?_
      refine xT.nm (fun zh1 zg1 => ?_)
      have W := W.ur (fB2 zg1)
      refine xr_al0 dX11_years_161 ?_
      refine xr_get W.oX fX11_33 rfl dX11_years_162 ?_
      refine xr_Vi0 (s_waitsInAll W.Hq) kX11_308 (by decide) (Nat.le_of_ble_eq_true rfl) (Nat.zero_add _) (Nat.zero_add _) dX11_years_165 ?_
      refine xr_iret dX11_years_168 rfl ?_
      exact ⟨_, rfl, rfl, _, W⟩
    · skip
      exact absurd (nI_le (a := N) (by omega) (by omega)) zc36
  | succ r ih =>
    intro k y4 h γ s W Dc hk okt
    refine xr_il3 dX11_years_34 ?_
    refine xr_il2 dX11_years_35 ?_
    refine xr_icmpge (tgt := 130) dX11_years_36 (by decide) (fun zc36 => ?_) (fun zc36 => ?_)
    · skip
      exact absurd zc36 (nI_ge (by omega) (by omega))
    · skip
      refine xr_al0 dX11_years_39 ?_
      refine xr_get W.oX fX11_99 rfl dX11_years_40 ?_
      refine xr_ic4 dX11_years_43 ?_
      refine xr_Vi1 (s_diDraw Dc (by decide)) kX11_434 (by decide) (Nat.le_of_ble_eq_true rfl) (Nat.zero_add _) (Nat.zero_add _) dX11_years_44 ?_
      refine xT.nm (fun zh1 zg1 => ?_)
      have Dc := (fB1 zg1).2.2
      have W := W.uc ⟨(fB1 zg1).1, (fB1 zg1).2.1, ⟨_, (fB1 zg1).2.2⟩⟩
      refine xr_is4 dX11_years_47 (by decide) rfl ?_
      refine xr_il4 dX11_years_49 ?_
      refine xr_ifne (tgt := 69) dX11_years_51 (by decide) (fun zc51 => ?_) (fun zc51 => ?_)
      · skip
        refine xr_il4 dX11_years_69 ?_
        refine xr_ic3 dX11_years_71 ?_
        refine xr_icmpne (tgt := 94) dX11_years_72 (by decide) (fun zc72 => ?_) (fun zc72 => ?_)
        · skip
          refine xr_al0 dX11_years_94 ?_
          refine xr_get W.oX fX11_33 rfl dX11_years_95 ?_
          refine xr_il4 dX11_years_98 ?_
          refine xr_ic1 dX11_years_100 ?_
          refine xr_icmpne (tgt := 108) dX11_years_101 (by decide) (fun zc101 => ?_) (fun zc101 => ?_)
          · skip
            refine xr_ic1 dX11_years_108 ?_
            refine xr_al0 dX11_years_109 ?_
            refine xr_get W.oX fX11_99 rfl dX11_years_110 ?_
            refine xr_bipush (v := 9) dX11_years_113 (by decide) ?_
            refine xr_Vi1 (s_diDraw Dc (by decide)) kX11_434 (by decide) (Nat.le_of_ble_eq_true rfl) (Nat.zero_add _) (Nat.zero_add _) dX11_years_115 ?_
            refine xT.nm (fun zh2 zg2 => ?_)
            have Dc := (fB1 zg2).2.2
            have W := W.uc ⟨(fB1 zg2).1, (fB1 zg2).2.1, ⟨_, (fB1 zg2).2.2⟩⟩
            refine xr_ic1 dX11_years_118 ?_
            refine xr_iadd dX11_years_119 ?_
            refine xr_Vi2 (s_letCome W.Hq okt (s := 1) (by decide) _) kX11_138 (by decide) (Nat.le_of_ble_eq_true rfl) (Nat.zero_add _) (Nat.zero_add _) dX11_years_120 ?_
            refine xT.nm (fun zh3 zg3 => ?_)
            have okt := hOk_come okt (s := 1) (by decide) (drN (dr (dr s)) 9 + 1)
            have Dc := ((fBH zg3).2.1 _ (by omega)).trans Dc
            have W := W.uq (fBH zg3)
            refine xr_pop dX11_years_123 rfl ?_
            refine xr_inc3 dX11_years_124 (nI_inc k) (by decide) rfl ?_
            refine xr_goto (tgt := 34) dX11_years_127 (by decide) ?_
            have e : yrF φ (s, γ) = (dr (dr s), hCome γ 1 (drN (dr (dr s)) 9 + 1)) := (if_neg zc51).trans ((if_neg zc72).trans (by rw [if_neg zc101]))
            rw [itG_s, e]
            exact ih (k + 1) _ W Dc (by omega) okt
          · skip
            refine xr_ic0 dX11_years_104 ?_
            refine xr_goto (tgt := 109) dX11_years_105 (by decide) ?_
            refine xr_al0 dX11_years_109 ?_
            refine xr_get W.oX fX11_99 rfl dX11_years_110 ?_
            refine xr_bipush (v := 9) dX11_years_113 (by decide) ?_
            refine xr_Vi1 (s_diDraw Dc (by decide)) kX11_434 (by decide) (Nat.le_of_ble_eq_true rfl) (Nat.zero_add _) (Nat.zero_add _) dX11_years_115 ?_
            refine xT.nm (fun zh2 zg2 => ?_)
            have Dc := (fB1 zg2).2.2
            have W := W.uc ⟨(fB1 zg2).1, (fB1 zg2).2.1, ⟨_, (fB1 zg2).2.2⟩⟩
            refine xr_ic1 dX11_years_118 ?_
            refine xr_iadd dX11_years_119 ?_
            refine xr_Vi2 (s_letCome W.Hq okt (s := 0) (by decide) _) kX11_138 (by decide) (Nat.le_of_ble_eq_true rfl) (Nat.zero_add _) (Nat.zero_add _) dX11_years_120 ?_
            refine xT.nm (fun zh3 zg3 => ?_)
            have okt := hOk_come okt (s := 0) (by decide) (drN (dr (dr s)) 9 + 1)
            have Dc := ((fBH zg3).2.1 _ (by omega)).trans Dc
            have W := W.uq (fBH zg3)
            refine xr_pop dX11_years_123 rfl ?_
            refine xr_inc3 dX11_years_124 (nI_inc k) (by decide) rfl ?_
            refine xr_goto (tgt := 34) dX11_years_127 (by decide) ?_
            have e : yrF φ (s, γ) = (dr (dr s), hCome γ 0 (drN (dr (dr s)) 9 + 1)) := (if_neg zc51).trans ((if_neg zc72).trans (by rw [if_pos zc101]))
            rw [itG_s, e]
            exact ih (k + 1) _ W Dc (by omega) okt
        · skip
          refine xr_al0 dX11_years_75 ?_
          refine xr_get W.oX fX11_33 rfl dX11_years_76 ?_
          refine xr_al0 dX11_years_79 ?_
          refine xr_get W.oX fX11_99 rfl dX11_years_80 ?_
          refine xr_bipush (v := 10) dX11_years_83 (by decide) ?_
          refine xr_Vi1 (s_diDraw Dc (by decide)) kX11_434 (by decide) (Nat.le_of_ble_eq_true rfl) (Nat.zero_add _) (Nat.zero_add _) dX11_years_85 ?_
          refine xT.nm (fun zh2 zg2 => ?_)
          have Dc := (fB1 zg2).2.2
          have W := W.uc ⟨(fB1 zg2).1, (fB1 zg2).2.1, ⟨_, (fB1 zg2).2.2⟩⟩
          refine xr_put W.Hq.1 fX11_253 (Nat.le_of_ble_eq_true rfl) rfl rfl dX11_years_88 ?_
          refine xT.nm (fun zh3 zg3 => ?_)
          rw [zg3]
          refine xT.equiv (hill_f W.Hq (i := 13) (by decide) (drN (dr (dr s)) 10) rfl) ?_
          refine xT.nm (fun zk1 zw1 => ?_)
          have okt := hOk_upd okt (i := 13) (by decide) (drN (dr (dr s)) 10)
          have Dc := ((fBH zw1).2.1 _ (by omega)).trans Dc
          have W := W.uq (fBH zw1)
          refine xr_goto (tgt := 124) dX11_years_91 (by decide) ?_
          refine xr_inc3 dX11_years_124 (nI_inc k) (by decide) rfl ?_
          refine xr_goto (tgt := 34) dX11_years_127 (by decide) ?_
          have e : yrF φ (s, γ) = _ := (if_neg zc51).trans (if_pos zc72)
          rw [itG_s, e]
          exact ih (k + 1) _ W Dc (by omega) okt
      · skip
        refine xr_al0 dX11_years_54 ?_
        refine xr_get W.oX fX11_33 rfl dX11_years_55 ?_
        refine xr_al0 dX11_years_58 ?_
        refine xr_get W.oX fX11_50 rfl dX11_years_59 ?_
        refine xr_Vpi1 (wRunT2 W okt) kX11_249 (by decide) (Nat.le_of_ble_eq_true rfl) (Nat.zero_add _) (Nat.zero_add _) dX11_years_62 (fun zv62 zh2 zq2 => ?_)
        have okt := hOk_run okt φ
        obtain ⟨rfl, W, zfr⟩ := zq2
        have Dc := (zfr _ (by omega)).trans Dc
        refine xr_pop dX11_years_65 rfl ?_
        refine xr_goto (tgt := 124) dX11_years_66 (by decide) ?_
        refine xr_inc3 dX11_years_124 (nI_inc k) (by decide) rfl ?_
        refine xr_goto (tgt := 34) dX11_years_127 (by decide) ?_
        have e : yrF φ (s, γ) = _ := if_pos zc51
        rw [itG_s, e]
        exact ih (k + 1) _ W Dc (by omega) okt
set_option maxRecDepth 20000 in
theorem s_years {K : xK} {B : Nat} {l : Launch} {h0 h : xH} {X D : Nat} {tn : Nat} {tf : Nat → Int32} {rk : Int32} {rv : Nat → Int64} {σ : xs} {β : xs} {γ : xs} {pn : Nat} {τ : Nat → xs} {ks : Nat → Bool} {κ : Nat → xs} {φ : xs → Int32} {hn : Nat} {hf : Nat → Int32} {hg : Nat → Int32} {wn : Nat} {wf : Nat → Int32} {wg : Nat → Int32} (W : xCw K h0 h X D tn tf rk rv σ β γ pn τ ks κ φ hn hf hg wn wf wg) (x y : Int32) : xV K B l 4 mX11_years 0 0 (X) [.int x, .int y] h (xPi (fun zr g => zr = (yrR φ σ rk rv x y).1 ∧ ∃ γ', xCw K h0 g X D tn tf ((yrR φ σ rk rv x y).2.1) ((yrR φ σ rk rv x y).2.2) σ β (γ') pn τ ks κ φ hn hf hg wn wf wg)) := by
  refine ⟨⟨_, _, _, _, W.oX, rfl⟩, qX11_years, ?_⟩
  refine xS.intro RX11 false ⟨rfl, rfl, by decide, by decide, Nat.le_of_ble_eq_true rfl⟩ (ls := [some (.ref X), some (.int x), some (.int y), none, none]) rfl ?_
  refine xr_il2 dX11_years_0 ?_
  refine xr_ic1 dX11_years_1 ?_
  refine xr_icmplt (tgt := 11) dX11_years_2 (by decide) (fun zc2 => ?_) (fun zc2 => ?_)
  · skip
    refine xr_icm1 dX11_years_11 ?_
    refine xr_iret dX11_years_12 rfl ?_
    have e : (yrR φ σ rk rv x y) = _ := if_pos (Or.inl zc2)
    rw [e]
    exact ⟨_, rfl, rfl, _, W⟩
  · skip
    refine xr_il2 dX11_years_5 ?_
    refine xr_bipush (v := 60) dX11_years_6 (by decide) ?_
    refine xr_icmple (tgt := 13) dX11_years_8 (by decide) (fun zc8 => ?_) (fun zc8 => ?_)
    · skip
      refine xr_al0 dX11_years_13 ?_
      refine xr_get W.oX fX11_33 rfl dX11_years_14 ?_
      refine xr_al0 dX11_years_17 ?_
      refine xr_get W.oX fX11_26 rfl dX11_years_18 ?_
      refine xr_Vv1 (s_copyFrom W.Hq W.Hh (by omega)) kX11_179 (by decide) (Nat.le_of_ble_eq_true rfl) (Nat.zero_add _) (Nat.zero_add _) dX11_years_21 ?_
      refine xT.nm (fun zh1 zg1 => ?_)
      have okt := W.pok
      have W := W.uq (fBH zg1)
      refine xr_al0 dX11_years_24 ?_
      refine xr_get W.oX fX11_99 rfl dX11_years_25 ?_
      refine xr_il1 dX11_years_28 ?_
      obtain ⟨s0, Dc⟩ := W.Hc
      refine xr_Vv1 (s_diStart Dc _) kX11_431 (by decide) (Nat.le_of_ble_eq_true rfl) (Nat.zero_add _) (Nat.zero_add _) dX11_years_29 ?_
      refine xT.nm (fun zh2 zg2 => ?_)
      have Dc := (fB1 zg2).2.2
      have W := W.uc ⟨(fB1 zg2).1, (fB1 zg2).2.1, ⟨_, (fB1 zg2).2.2⟩⟩
      refine xr_ic0 dX11_years_32 ?_
      refine xr_is3 dX11_years_33 (by decide) rfl ?_
      rcases pk_ix y (n := 61) (by decide) with z | z | ⟨N, hN, rfl⟩
      · exact absurd (Int32.lt_trans z (by decide)) zc2
      · exact absurd (Int32.le_trans z zc8) (by decide)
      · have e : (yrR φ σ rk rv x (nI N)) = _ := if_neg (fun q => q.elim zc2 (Int32.not_lt.mpr zc8))
        rw [nI_clamp (by omega)] at e
        rw [e]
        exact lp_years x N (by omega) N 0 none W Dc (by omega) okt
    · skip
      refine xr_icm1 dX11_years_11 ?_
      refine xr_iret dX11_years_12 rfl ?_
      have e : (yrR φ σ rk rv x y) = _ := if_pos (Or.inr (Int32.not_le.mp zc8))
      rw [e]
      exact ⟨_, rfl, rfl, _, W⟩
