/-! The class's own methods: what is to come (written by wip/whole/car4.py) -/
abbrev AR : Type := Int32 × Int32 × (Nat → Int64)
def tl1 (rv : Nat → Int64) (x : Int32) : Nat → Int64 := vp_updL rv 0 x.toInt64
def tl3 (rv : Nat → Int64) (x y z : Int32) : Nat → Int64 := vp_updL (vp_updL (vp_updL rv 0 x.toInt64) 1 y.toInt64) 2 z.toInt64
def tl4 (rv : Nat → Int64) (x y z u : Int32) : Nat → Int64 := vp_updL (vp_updL (vp_updL (vp_updL rv 0 x.toInt64) 1 y.toInt64) 2 z.toInt64) 3 u.toInt64
def itR (φ : xs → Int32) : Nat → xs → xs
  | 0, σ => σ
  | r + 1, σ => itR φ r (hRun φ σ)
def nob (σ : xs) : Prop := σ 10 + σ 11 = 0
def rtN (φ : xs → Int32) : Nat → Nat → xs → Nat × xs
  | 0, k, γ => if γ 10 + γ 11 = 0 then (k, γ) else (k + 1, γ)
  | r + 1, k, γ => if γ 10 + γ 11 = 0 then (k, γ) else rtN φ r (k + 1) (hRun φ γ)
theorem rtN_0 (φ : xs → Int32) (k : Nat) (γ : xs) : rtN φ 0 k γ = if γ 10 + γ 11 = 0 then (k, γ) else (k + 1, γ) := rfl
theorem rtN_s (φ : xs → Int32) (r k : Nat) (γ : xs) : rtN φ (r + 1) k γ = if γ 10 + γ 11 = 0 then (k, γ) else rtN φ r (k + 1) (hRun φ γ) := rfl
theorem rtN_le (φ : xs → Int32) : ∀ (r k : Nat) (γ : xs), (rtN φ r k γ).1 ≤ k + r + 1 := by
  intro r
  induction r with
  | zero =>
    intro k γ
    rw [rtN_0]
    split <;> (dsimp only; omega)
  | succ r ih =>
    intro k γ
    rw [rtN_s]
    split
    · dsimp only; omega
    · have := ih (k + 1) (hRun φ γ)
      omega
set_option maxRecDepth 20000 in
theorem lp_runTill {K : xK} {B : Nat} {l : Launch} {h0 : xH} {X D : Nat} {tn : Nat} {tf : Nat → Int32} {rk : Int32} {rv : Nat → Int64} {σ : xs} {β : xs} {pn : Nat} {τ : Nat → xs} {ks : Nat → Bool} {κ : Nat → xs} {φ : xs → Int32} {hn : Nat} {hf : Nat → Int32} {hg : Nat → Int32} {wn : Nat} {wf : Nat → Int32} {wg : Nat → Int32} (N : Nat) (hN : N ≤ 99) : ∀ (r : Nat) (k : Nat) {h : xH} {γ : xs} (W : xCw K h0 h X D tn tf rk rv σ β γ pn τ ks κ φ hn hf hg wn wf wg), k + r = N → hOk γ → xT K B l 4 RX11 false cX11_runTillNobodyWaits 3 (some .int) 0 0 0 0 (xPi (fun v g => v = nI (rtN φ r k γ).1 ∧ xCw K h0 g X D tn tf rk rv σ β ((rtN φ r k γ).2) pn τ ks κ φ hn hf hg wn wf wg)) 2 [some (.ref X), some (.int (nI N)), some (.int (nI k))] [] h := by
  intro r
  induction r with
  | zero =>
    intro k h γ W hk okt
    refine xr_il2 dX11_runTillNobodyWaits_2 ?_
    refine xr_il1 dX11_runTillNobodyWaits_3 ?_
    refine xr_icmpge (tgt := 37) dX11_runTillNobodyWaits_4 (by decide) (fun zc4 => ?_) (fun zc4 => ?_)
    · skip
      refine xr_al0 dX11_runTillNobodyWaits_37 ?_
      refine xr_get W.oX fX11_33 rfl dX11_runTillNobodyWaits_38 ?_
      refine xr_Vi0 (s_nobodyWaits W.Hq) kX11_245 (by decide) (Nat.le_of_ble_eq_true rfl) (Nat.zero_add _) (Nat.zero_add _) dX11_runTillNobodyWaits_41 ?_
      refine xr_ifeq (tgt := 51) dX11_runTillNobodyWaits_44 (by decide) (fun zc44 => ?_) (fun zc44 => ?_)
      · skip
        refine xr_il1 dX11_runTillNobodyWaits_51 ?_
        refine xr_ic1 dX11_runTillNobodyWaits_52 ?_
        refine xr_iadd dX11_runTillNobodyWaits_53 ?_
        refine xr_eqi (y := nI (N + 1)) (nI_add N 1) ?_
        refine xr_iret dX11_runTillNobodyWaits_54 rfl ?_
        have hk' : k = N := hk
        subst hk'
        rw [rtN_0, if_neg (bI_0.mp zc44)]
        exact ⟨_, rfl, rfl, W⟩
      · skip
        refine xr_il1 dX11_runTillNobodyWaits_47 ?_
        refine xr_goto (tgt := 54) dX11_runTillNobodyWaits_48 (by decide) ?_
        refine xr_iret dX11_runTillNobodyWaits_54 rfl ?_
        have hk' : k = N := hk
        subst hk'
        rw [rtN_0, if_pos (Decidable.not_not.mp (fun q => zc44 (bI_0.mpr q)))]
        exact ⟨_, rfl, rfl, W⟩
    · skip
      exact absurd (nI_le (a := N) (by omega) (by omega)) zc4
  | succ r ih =>
    intro k h γ W hk okt
    refine xr_il2 dX11_runTillNobodyWaits_2 ?_
    refine xr_il1 dX11_runTillNobodyWaits_3 ?_
    refine xr_icmpge (tgt := 37) dX11_runTillNobodyWaits_4 (by decide) (fun zc4 => ?_) (fun zc4 => ?_)
    · skip
      exact absurd zc4 (nI_ge (by omega) (by omega))
    · skip
      refine xr_al0 dX11_runTillNobodyWaits_7 ?_
      refine xr_get W.oX fX11_33 rfl dX11_runTillNobodyWaits_8 ?_
      refine xr_Vi0 (s_nobodyWaits W.Hq) kX11_245 (by decide) (Nat.le_of_ble_eq_true rfl) (Nat.zero_add _) (Nat.zero_add _) dX11_runTillNobodyWaits_11 ?_
      refine xr_ifeq (tgt := 19) dX11_runTillNobodyWaits_14 (by decide) (fun zc14 => ?_) (fun zc14 => ?_)
      · skip
        refine xr_al0 dX11_runTillNobodyWaits_19 ?_
        refine xr_get W.oX fX11_33 rfl dX11_runTillNobodyWaits_20 ?_
        refine xr_al0 dX11_runTillNobodyWaits_23 ?_
        refine xr_get W.oX fX11_50 rfl dX11_runTillNobodyWaits_24 ?_
        refine xr_Vpi1 (wRunT W okt) kX11_249 (by decide) (Nat.le_of_ble_eq_true rfl) (Nat.zero_add _) (Nat.zero_add _) dX11_runTillNobodyWaits_27 (fun zv27 zh1 zq1 => ?_)
        have okt := hOk_run okt φ
        obtain ⟨rfl, W⟩ := zq1
        refine xr_pop dX11_runTillNobodyWaits_30 rfl ?_
        refine xr_inc2 dX11_runTillNobodyWaits_31 (nI_inc k) (by decide) rfl ?_
        refine xr_goto (tgt := 2) dX11_runTillNobodyWaits_34 (by decide) ?_
        rw [rtN_s, if_neg (bI_0.mp zc14)]
        exact ih (k + 1) W (by omega) okt
      · skip
        refine xr_il2 dX11_runTillNobodyWaits_17 ?_
        refine xr_iret dX11_runTillNobodyWaits_18 rfl ?_
        rw [rtN_s, if_pos (Decidable.not_not.mp (fun q => zc14 (bI_0.mpr q)))]
        exact ⟨_, rfl, rfl, W⟩
set_option maxRecDepth 20000 in
theorem s_runTill {K : xK} {B : Nat} {l : Launch} {h0 h : xH} {X D : Nat} {tn : Nat} {tf : Nat → Int32} {rk : Int32} {rv : Nat → Int64} {σ : xs} {β : xs} {γ : xs} {pn : Nat} {τ : Nat → xs} {ks : Nat → Bool} {κ : Nat → xs} {φ : xs → Int32} {hn : Nat} {hf : Nat → Int32} {hg : Nat → Int32} {wn : Nat} {wf : Nat → Int32} {wg : Nat → Int32} (W : xCw K h0 h X D tn tf rk rv σ β γ pn τ ks κ φ hn hf hg wn wf wg) (okt : hOk γ) {N : Nat} (hN : N ≤ 99) : xV K B l 4 mX11_runTillNobodyWaits 0 0 (X) [.int (nI N)] h (xPi (fun v g => v = nI (rtN φ N 0 γ).1 ∧ xCw K h0 g X D tn tf rk rv σ β ((rtN φ N 0 γ).2) pn τ ks κ φ hn hf hg wn wf wg)) := by
  refine ⟨⟨_, _, _, _, W.oX, rfl⟩, qX11_runTillNobodyWaits, ?_⟩
  refine xS.intro RX11 false ⟨rfl, rfl, by decide, by decide, Nat.le_of_ble_eq_true rfl⟩ (ls := [some (.ref X), some (.int (nI N)), none]) rfl ?_
  refine xr_ic0 dX11_runTillNobodyWaits_0 ?_
  refine xr_is2 dX11_runTillNobodyWaits_1 (by decide) rfl ?_
  exact lp_runTill N hN N 0 W (by omega) okt
def laR (φ : xs → Int32) (σ : xs) (rk : Int32) (rv : Nat → Int64) (n : Int32) : AR := if n < 0 ∨ 99 < n then (-1, rk, rv) else (itR φ n.toNatClampNeg σ 14, 4, tl4 rv (itR φ n.toNatClampNeg σ 15) (itR φ n.toNatClampNeg σ 16) (hWaits (itR φ n.toNatClampNeg σ) 0) (hWaits (itR φ n.toNatClampNeg σ) 1))
theorem itR_s (φ : xs → Int32) (r : Nat) (σ : xs) : itR φ (r + 1) σ = itR φ r (hRun φ σ) := rfl
set_option maxRecDepth 20000 in
theorem lp_later {K : xK} {B : Nat} {l : Launch} {h0 : xH} {X D : Nat} {tn : Nat} {tf : Nat → Int32} {rk : Int32} {rv : Nat → Int64} {σ : xs} {β : xs} {pn : Nat} {τ : Nat → xs} {ks : Nat → Bool} {κ : Nat → xs} {φ : xs → Int32} {hn : Nat} {hf : Nat → Int32} {hg : Nat → Int32} {wn : Nat} {wf : Nat → Int32} {wg : Nat → Int32} (N : Nat) (hN : N ≤ 99) : ∀ (r : Nat) (k : Nat) {h : xH} {γ : xs} (W : xCw K h0 h X D tn tf rk rv σ β γ pn τ ks κ φ hn hf hg wn wf wg), k + r = N → hOk γ → xT K B l 4 RX11 false cX11_later 3 (some .int) 0 0 0 0 (xPi (fun v g => v = (itR φ r γ) 14 ∧ ∃ γ', xCw K h0 g X D tn tf 4 (tl4 rv ((itR φ r γ) 15) ((itR φ r γ) 16) (hWaits (itR φ r γ) 0) (hWaits (itR φ r γ) 1)) σ β (γ') pn τ ks κ φ hn hf hg wn wf wg)) 25 [some (.ref X), some (.int (nI N)), some (.int (nI k))] [] h := by
  intro r
  induction r with
  | zero =>
    intro k h γ W hk okt
    refine xr_il2 dX11_later_25 ?_
    refine xr_il1 dX11_later_26 ?_
    refine xr_icmpge (tgt := 48) dX11_later_27 (by decide) (fun zc27 => ?_) (fun zc27 => ?_)
    · skip
      refine xr_al0 dX11_later_48 ?_
      refine xr_get W.oX fX11_19 rfl dX11_later_49 ?_
      refine xr_al0 dX11_later_52 ?_
      refine xr_get W.oX fX11_33 rfl dX11_later_53 ?_
      refine xr_get W.Hq.1 fX11_287 rfl dX11_later_56 ?_
      refine xr_i2l dX11_later_59 ?_
      refine xr_al0 dX11_later_60 ?_
      refine xr_get W.oX fX11_33 rfl dX11_later_61 ?_
      refine xr_get W.Hq.1 fX11_290 rfl dX11_later_64 ?_
      refine xr_i2l dX11_later_67 ?_
      refine xr_al0 dX11_later_68 ?_
      refine xr_get W.oX fX11_33 rfl dX11_later_69 ?_
      refine xr_ic0 dX11_later_72 ?_
      refine xr_Vi1 (s_waits W.Hq _) kX11_131 (by decide) (Nat.le_of_ble_eq_true rfl) (Nat.zero_add _) (Nat.zero_add _) dX11_later_73 ?_
      refine xr_i2l dX11_later_76 ?_
      refine xr_al0 dX11_later_77 ?_
      refine xr_get W.oX fX11_33 rfl dX11_later_78 ?_
      refine xr_ic1 dX11_later_81 ?_
      refine xr_Vi1 (s_waits W.Hq _) kX11_131 (by decide) (Nat.le_of_ble_eq_true rfl) (Nat.zero_add _) (Nat.zero_add _) dX11_later_82 ?_
      refine xr_i2l dX11_later_85 ?_
      refine xr_Vv4 (s_tell4 W.Hr _ _ _ _) kX11_293 (by decide) (Nat.le_of_ble_eq_true rfl) (Nat.zero_add _) (Nat.zero_add _) dX11_later_86 ?_
      refine xT.nm (fun zh1 zg1 => ?_)
      have W := W.ur (fB2 zg1)
      refine xr_al0 dX11_later_89 ?_
      refine xr_get W.oX fX11_33 rfl dX11_later_90 ?_
      refine xr_get W.Hq.1 fX11_221 rfl dX11_later_93 ?_
      refine xr_iret dX11_later_96 rfl ?_
      exact ⟨_, rfl, rfl, _, W⟩
    · skip
      exact absurd (nI_le (a := N) (by omega) (by omega)) zc27
  | succ r ih =>
    intro k h γ W hk okt
    refine xr_il2 dX11_later_25 ?_
    refine xr_il1 dX11_later_26 ?_
    refine xr_icmpge (tgt := 48) dX11_later_27 (by decide) (fun zc27 => ?_) (fun zc27 => ?_)
    · skip
      exact absurd zc27 (nI_ge (by omega) (by omega))
    · skip
      refine xr_al0 dX11_later_30 ?_
      refine xr_get W.oX fX11_33 rfl dX11_later_31 ?_
      refine xr_al0 dX11_later_34 ?_
      refine xr_get W.oX fX11_50 rfl dX11_later_35 ?_
      refine xr_Vpi1 (wRunT W okt) kX11_249 (by decide) (Nat.le_of_ble_eq_true rfl) (Nat.zero_add _) (Nat.zero_add _) dX11_later_38 (fun zv38 zh1 zq1 => ?_)
      have okt := hOk_run okt φ
      obtain ⟨rfl, W⟩ := zq1
      refine xr_pop dX11_later_41 rfl ?_
      refine xr_inc2 dX11_later_42 (nI_inc k) (by decide) rfl ?_
      refine xr_goto (tgt := 25) dX11_later_45 (by decide) ?_
      rw [itR_s]
      exact ih (k + 1) W (by omega) okt
set_option maxRecDepth 20000 in
theorem s_later {K : xK} {B : Nat} {l : Launch} {h0 h : xH} {X D : Nat} {tn : Nat} {tf : Nat → Int32} {rk : Int32} {rv : Nat → Int64} {σ : xs} {β : xs} {γ : xs} {pn : Nat} {τ : Nat → xs} {ks : Nat → Bool} {κ : Nat → xs} {φ : xs → Int32} {hn : Nat} {hf : Nat → Int32} {hg : Nat → Int32} {wn : Nat} {wf : Nat → Int32} {wg : Nat → Int32} (W : xCw K h0 h X D tn tf rk rv σ β γ pn τ ks κ φ hn hf hg wn wf wg) (x : Int32) : xV K B l 4 mX11_later 0 0 (X) [.int x] h (xPi (fun zr g => zr = (laR φ σ rk rv x).1 ∧ ∃ γ', xCw K h0 g X D tn tf ((laR φ σ rk rv x).2.1) ((laR φ σ rk rv x).2.2) σ β (γ') pn τ ks κ φ hn hf hg wn wf wg)) := by
  refine ⟨⟨_, _, _, _, W.oX, rfl⟩, qX11_later, ?_⟩
  refine xS.intro RX11 false ⟨rfl, rfl, by decide, by decide, Nat.le_of_ble_eq_true rfl⟩ (ls := [some (.ref X), some (.int x), none]) rfl ?_
  refine xr_il1 dX11_later_0 ?_
  refine xr_iflt (tgt := 10) dX11_later_1 (by decide) (fun zc1 => ?_) (fun zc1 => ?_)
  · skip
    refine xr_icm1 dX11_later_10 ?_
    refine xr_iret dX11_later_11 rfl ?_
    have e : (laR φ σ rk rv x) = _ := if_pos (Or.inl zc1)
    rw [e]
    exact ⟨_, rfl, rfl, _, W⟩
  · skip
    refine xr_il1 dX11_later_4 ?_
    refine xr_bipush (v := 99) dX11_later_5 (by decide) ?_
    refine xr_icmple (tgt := 12) dX11_later_7 (by decide) (fun zc7 => ?_) (fun zc7 => ?_)
    · skip
      refine xr_al0 dX11_later_12 ?_
      refine xr_get W.oX fX11_33 rfl dX11_later_13 ?_
      refine xr_al0 dX11_later_16 ?_
      refine xr_get W.oX fX11_26 rfl dX11_later_17 ?_
      refine xr_Vv1 (s_copyFrom W.Hq W.Hh (by omega)) kX11_179 (by decide) (Nat.le_of_ble_eq_true rfl) (Nat.zero_add _) (Nat.zero_add _) dX11_later_20 ?_
      refine xT.nm (fun zh1 zg1 => ?_)
      have okt := W.pok
      have W := W.uq (fBH zg1)
      refine xr_ic0 dX11_later_23 ?_
      refine xr_is2 dX11_later_24 (by decide) rfl ?_
      rcases pk_ix x (n := 100) (by decide) with z | z | ⟨N, hN, rfl⟩
      · exact absurd z zc1
      · exact absurd (Int32.le_trans z zc7) (by decide)
      · have e : (laR φ σ rk rv (nI N)) = _ := if_neg (fun q => q.elim zc1 (Int32.not_lt.mpr zc7))
        rw [nI_clamp (by omega)] at e
        rw [e]
        exact lp_later N (by omega) N 0 W (by omega) okt
    · skip
      refine xr_icm1 dX11_later_10 ?_
      refine xr_iret dX11_later_11 rfl ?_
      have e : (laR φ σ rk rv x) = _ := if_pos (Or.inr (Int32.not_le.mp zc7))
      rw [e]
      exact ⟨_, rfl, rfl, _, W⟩
def doR (φ : xs → Int32) (σ : xs) (rk : Int32) (rv : Nat → Int64) : AR := if 99 < (rtN φ 99 0 σ).1 then (-2, rk, rv) else (nI (rtN φ 99 0 σ).1, 2, tl2 rv ((rtN φ 99 0 σ).2 14) ((rtN φ 99 0 σ).2 17 - σ 17))
set_option maxRecDepth 20000 in
theorem s_done {K : xK} {B : Nat} {l : Launch} {h0 h : xH} {X D : Nat} {tn : Nat} {tf : Nat → Int32} {rk : Int32} {rv : Nat → Int64} {σ : xs} {β : xs} {γ : xs} {pn : Nat} {τ : Nat → xs} {ks : Nat → Bool} {κ : Nat → xs} {φ : xs → Int32} {hn : Nat} {hf : Nat → Int32} {hg : Nat → Int32} {wn : Nat} {wf : Nat → Int32} {wg : Nat → Int32} (W : xCw K h0 h X D tn tf rk rv σ β γ pn τ ks κ φ hn hf hg wn wf wg) : xV K B l 5 mX11_done 0 0 (X) [] h (xPi (fun zr g => zr = (doR φ σ rk rv).1 ∧ ∃ γ', xCw K h0 g X D tn tf ((doR φ σ rk rv).2.1) ((doR φ σ rk rv).2.2) σ β (γ') pn τ ks κ φ hn hf hg wn wf wg)) := by
  refine ⟨⟨_, _, _, _, W.oX, rfl⟩, qX11_done, ?_⟩
  refine xS.intro RX11 false ⟨rfl, rfl, by decide, by decide, Nat.le_of_ble_eq_true rfl⟩ (ls := [some (.ref X), none]) rfl ?_
  refine xr_al0 dX11_done_0 ?_
  refine xr_get W.oX fX11_33 rfl dX11_done_1 ?_
  refine xr_al0 dX11_done_4 ?_
  refine xr_get W.oX fX11_26 rfl dX11_done_5 ?_
  refine xr_Vv1 (s_copyFrom W.Hq W.Hh (by omega)) kX11_179 (by decide) (Nat.le_of_ble_eq_true rfl) (Nat.zero_add _) (Nat.zero_add _) dX11_done_8 ?_
  refine xT.nm (fun zh1 zg1 => ?_)
  have okt := W.pok
  have W := W.uq (fBH zg1)
  refine xr_al0 dX11_done_11 ?_
  refine xr_bipush (v := 99) dX11_done_12 (by decide) ?_
  refine xr_Vpi1 (s_runTill W okt (N := 99) (by decide)) kX11_296 (by decide) (Nat.le_of_ble_eq_true rfl) (Nat.zero_add _) (Nat.zero_add _) dX11_done_14 (fun zv14 zh2 zq2 => ?_)
  obtain ⟨rfl, W⟩ := zq2
  refine xr_is1 dX11_done_17 (by decide) rfl ?_
  refine xr_il1 dX11_done_18 ?_
  refine xr_bipush (v := 99) dX11_done_19 (by decide) ?_
  refine xr_icmple (tgt := 27) dX11_done_21 (by decide) (fun zc21 => ?_) (fun zc21 => ?_)
  · skip
    refine xr_al0 dX11_done_27 ?_
    refine xr_get W.oX fX11_19 rfl dX11_done_28 ?_
    refine xr_al0 dX11_done_31 ?_
    refine xr_get W.oX fX11_33 rfl dX11_done_32 ?_
    refine xr_get W.Hq.1 fX11_221 rfl dX11_done_35 ?_
    refine xr_i2l dX11_done_38 ?_
    refine xr_al0 dX11_done_39 ?_
    refine xr_get W.oX fX11_33 rfl dX11_done_40 ?_
    refine xr_get W.Hq.1 fX11_299 rfl dX11_done_43 ?_
    refine xr_al0 dX11_done_46 ?_
    refine xr_get W.oX fX11_26 rfl dX11_done_47 ?_
    refine xr_get W.Hh.1 fX11_299 rfl dX11_done_50 ?_
    refine xr_isub dX11_done_53 ?_
    refine xr_i2l dX11_done_54 ?_
    refine xr_Vv2 (s_tell2 W.Hr _ _) kX11_236 (by decide) (Nat.le_of_ble_eq_true rfl) (Nat.zero_add _) (Nat.zero_add _) dX11_done_55 ?_
    refine xT.nm (fun zh3 zg3 => ?_)
    have W := W.ur (fB2 zg3)
    refine xr_il1 dX11_done_58 ?_
    refine xr_iret dX11_done_59 rfl ?_
    have zl := rtN_le φ 99 0 σ
    have e : (doR φ σ rk rv) = _ := if_neg (Nat.not_lt_of_le ((nI_leI (by omega) (by decide)).mp zc21))
    rw [e]
    exact ⟨_, rfl, rfl, _, W⟩
  · skip
    refine xr_bipush (v := (-2)) dX11_done_24 (by decide) ?_
    refine xr_iret dX11_done_26 rfl ?_
    have zl := rtN_le φ 99 0 σ
    have e : (doR φ σ rk rv) = _ := if_pos (Nat.lt_of_not_le (fun q => zc21 (nI_le q (by decide))))
    rw [e]
    exact ⟨_, rfl, rfl, _, W⟩
def dyN (φ : xs → Int32) (rk : Int32) (rv : Nat → Int64) (v : Int32) : Nat → Nat → xs → AR
  | 0, _, _ => (-2, rk, rv)
  | r + 1, k, γ => if γ 14 < v then (nI k, 1, tl1 rv (γ 14)) else dyN φ rk rv v r (k + 1) (hRun φ γ)
theorem dyN_s (φ : xs → Int32) (rk : Int32) (rv : Nat → Int64) (v : Int32) (r k : Nat) (γ : xs) : dyN φ rk rv v (r + 1) k γ = if γ 14 < v then (nI k, 1, tl1 rv (γ 14)) else dyN φ rk rv v r (k + 1) (hRun φ γ) := rfl
def dyR (φ : xs → Int32) (σ : xs) (rk : Int32) (rv : Nat → Int64) (v : Int32) : AR := if v < 0 ∨ 999 < v then (-1, rk, rv) else dyN φ rk rv v 100 0 σ
set_option maxRecDepth 20000 in
theorem lp_dry {K : xK} {B : Nat} {l : Launch} {h0 : xH} {X D : Nat} {tn : Nat} {tf : Nat → Int32} {rk : Int32} {rv : Nat → Int64} {σ : xs} {β : xs} {pn : Nat} {τ : Nat → xs} {ks : Nat → Bool} {κ : Nat → xs} {φ : xs → Int32} {hn : Nat} {hf : Nat → Int32} {hg : Nat → Int32} {wn : Nat} {wf : Nat → Int32} {wg : Nat → Int32} (v : Int32) : ∀ (r : Nat) (k : Nat) {h : xH} {γ : xs} (W : xCw K h0 h X D tn tf rk rv σ β γ pn τ ks κ φ hn hf hg wn wf wg), k + r = 100 → hOk γ → xT K B l 4 RX11 false cX11_dry 3 (some .int) 0 0 0 0 (xPi (fun zr g => zr = (dyN φ rk rv v r k γ).1 ∧ ∃ γ', xCw K h0 g X D tn tf ((dyN φ rk rv v r k γ).2.1) ((dyN φ rk rv v r k γ).2.2) σ β (γ') pn τ ks κ φ hn hf hg wn wf wg)) 26 [some (.ref X), some (.int v), some (.int (nI k))] [] h := by
  intro r
  induction r with
  | zero =>
    intro k h γ W hk okt
    refine xr_il2 dX11_dry_26 ?_
    refine xr_bipush (v := 99) dX11_dry_27 (by decide) ?_
    refine xr_icmpgt (tgt := 78) dX11_dry_29 (by decide) (fun zc29 => ?_) (fun zc29 => ?_)
    · skip
      refine xr_bipush (v := (-2)) dX11_dry_78 (by decide) ?_
      refine xr_iret dX11_dry_80 rfl ?_
      exact ⟨_, rfl, rfl, _, W⟩
    · skip
      exact absurd (nI_lt (a := 99) (by omega) (by omega)) zc29
  | succ r ih =>
    intro k h γ W hk okt
    refine xr_il2 dX11_dry_26 ?_
    refine xr_bipush (v := 99) dX11_dry_27 (by decide) ?_
    refine xr_icmpgt (tgt := 78) dX11_dry_29 (by decide) (fun zc29 => ?_) (fun zc29 => ?_)
    · skip
      exact absurd zc29 (Int32.not_lt.mpr (nI_le (b := 99) (by omega) (by decide)))
    · skip
      refine xr_al0 dX11_dry_32 ?_
      refine xr_get W.oX fX11_33 rfl dX11_dry_33 ?_
      refine xr_get W.Hq.1 fX11_221 rfl dX11_dry_36 ?_
      refine xr_il1 dX11_dry_39 ?_
      refine xr_icmpge (tgt := 60) dX11_dry_40 (by decide) (fun zc40 => ?_) (fun zc40 => ?_)
      · skip
        refine xr_al0 dX11_dry_60 ?_
        refine xr_get W.oX fX11_33 rfl dX11_dry_61 ?_
        refine xr_al0 dX11_dry_64 ?_
        refine xr_get W.oX fX11_50 rfl dX11_dry_65 ?_
        refine xr_Vpi1 (wRunT W okt) kX11_249 (by decide) (Nat.le_of_ble_eq_true rfl) (Nat.zero_add _) (Nat.zero_add _) dX11_dry_68 (fun zv68 zh1 zq1 => ?_)
        have okt := hOk_run okt φ
        obtain ⟨rfl, W⟩ := zq1
        refine xr_pop dX11_dry_71 rfl ?_
        refine xr_inc2 dX11_dry_72 (nI_inc k) (by decide) rfl ?_
        refine xr_goto (tgt := 26) dX11_dry_75 (by decide) ?_
        rw [dyN_s, if_neg (Int32.not_lt.mpr zc40)]
        exact ih (k + 1) W (by omega) okt
      · skip
        refine xr_al0 dX11_dry_43 ?_
        refine xr_get W.oX fX11_19 rfl dX11_dry_44 ?_
        refine xr_al0 dX11_dry_47 ?_
        refine xr_get W.oX fX11_33 rfl dX11_dry_48 ?_
        refine xr_get W.Hq.1 fX11_221 rfl dX11_dry_51 ?_
        refine xr_i2l dX11_dry_54 ?_
        refine xr_Vv1 (s_tell1 W.Hr _) kX11_302 (by decide) (Nat.le_of_ble_eq_true rfl) (Nat.zero_add _) (Nat.zero_add _) dX11_dry_55 ?_
        refine xT.nm (fun zh1 zg1 => ?_)
        have W := W.ur (fB2 zg1)
        refine xr_il2 dX11_dry_58 ?_
        refine xr_iret dX11_dry_59 rfl ?_
        rw [dyN_s, if_pos (Int32.not_le.mp zc40)]
        exact ⟨_, rfl, rfl, _, W⟩
set_option maxRecDepth 20000 in
theorem s_dry {K : xK} {B : Nat} {l : Launch} {h0 h : xH} {X D : Nat} {tn : Nat} {tf : Nat → Int32} {rk : Int32} {rv : Nat → Int64} {σ : xs} {β : xs} {γ : xs} {pn : Nat} {τ : Nat → xs} {ks : Nat → Bool} {κ : Nat → xs} {φ : xs → Int32} {hn : Nat} {hf : Nat → Int32} {hg : Nat → Int32} {wn : Nat} {wf : Nat → Int32} {wg : Nat → Int32} (W : xCw K h0 h X D tn tf rk rv σ β γ pn τ ks κ φ hn hf hg wn wf wg) (x : Int32) : xV K B l 4 mX11_dry 0 0 (X) [.int x] h (xPi (fun zr g => zr = (dyR φ σ rk rv x).1 ∧ ∃ γ', xCw K h0 g X D tn tf ((dyR φ σ rk rv x).2.1) ((dyR φ σ rk rv x).2.2) σ β (γ') pn τ ks κ φ hn hf hg wn wf wg)) := by
  refine ⟨⟨_, _, _, _, W.oX, rfl⟩, qX11_dry, ?_⟩
  refine xS.intro RX11 false ⟨rfl, rfl, by decide, by decide, Nat.le_of_ble_eq_true rfl⟩ (ls := [some (.ref X), some (.int x), none]) rfl ?_
  refine xr_il1 dX11_dry_0 ?_
  refine xr_iflt (tgt := 11) dX11_dry_1 (by decide) (fun zc1 => ?_) (fun zc1 => ?_)
  · skip
    refine xr_icm1 dX11_dry_11 ?_
    refine xr_iret dX11_dry_12 rfl ?_
    have e : (dyR φ σ rk rv x) = _ := if_pos (Or.inl zc1)
    rw [e]
    exact ⟨_, rfl, rfl, _, W⟩
  · skip
    refine xr_il1 dX11_dry_4 ?_
    refine xr_sipush (v := 999) dX11_dry_5 (by decide) ?_
    refine xr_icmple (tgt := 13) dX11_dry_8 (by decide) (fun zc8 => ?_) (fun zc8 => ?_)
    · skip
      refine xr_al0 dX11_dry_13 ?_
      refine xr_get W.oX fX11_33 rfl dX11_dry_14 ?_
      refine xr_al0 dX11_dry_17 ?_
      refine xr_get W.oX fX11_26 rfl dX11_dry_18 ?_
      refine xr_Vv1 (s_copyFrom W.Hq W.Hh (by omega)) kX11_179 (by decide) (Nat.le_of_ble_eq_true rfl) (Nat.zero_add _) (Nat.zero_add _) dX11_dry_21 ?_
      refine xT.nm (fun zh1 zg1 => ?_)
      have okt := W.pok
      have W := W.uq (fBH zg1)
      refine xr_ic0 dX11_dry_24 ?_
      refine xr_is2 dX11_dry_25 (by decide) rfl ?_
      have e : (dyR φ σ rk rv x) = _ := if_neg (fun q => q.elim zc1 (Int32.not_lt.mpr zc8))
      rw [e]
      exact lp_dry x 100 0 W (by omega) okt
    · skip
      refine xr_icm1 dX11_dry_11 ?_
      refine xr_iret dX11_dry_12 rfl ?_
      have e : (dyR φ σ rk rv x) = _ := if_pos (Or.inr (Int32.not_le.mp zc8))
      rw [e]
      exact ⟨_, rfl, rfl, _, W⟩
def whN (φ : xs → Int32) (rk : Int32) (rv : Nat → Int64) (side : Int32) : Nat → Nat → Int32 → Int32 → xs → AR
  | 0, _, _, _, _ => (-2, rk, rv)
  | r + 1, k, a, s, γ => if a - (hWaits γ side - hWaits (hRun φ γ) side) < 0 then (nI k, 1, tl1 rv (if hGo γ then s else s + 1)) else whN φ rk rv side r (k + 1) (a - (hWaits γ side - hWaits (hRun φ γ) side)) (if hGo γ then s else s + 1) (hRun φ γ)
theorem whN_s (φ : xs → Int32) (rk : Int32) (rv : Nat → Int64) (side : Int32) (r k : Nat) (a s : Int32) (γ : xs) : whN φ rk rv side (r + 1) k a s γ = if a - (hWaits γ side - hWaits (hRun φ γ) side) < 0 then (nI k, 1, tl1 rv (if hGo γ then s else s + 1)) else whN φ rk rv side r (k + 1) (a - (hWaits γ side - hWaits (hRun φ γ) side)) (if hGo γ then s else s + 1) (hRun φ γ) := rfl
def whR (φ : xs → Int32) (σ : xs) (rk : Int32) (rv : Nat → Int64) (side k : Int32) : AR := if hHas σ side k then whN φ rk rv side 99 1 k 0 σ else (-1, rk, rv)
set_option maxRecDepth 20000 in
theorem lp_when {K : xK} {B : Nat} {l : Launch} {h0 : xH} {X D : Nat} {tn : Nat} {tf : Nat → Int32} {rk : Int32} {rv : Nat → Int64} {σ : xs} {β : xs} {pn : Nat} {τ : Nat → xs} {ks : Nat → Bool} {κ : Nat → xs} {φ : xs → Int32} {hn : Nat} {hf : Nat → Int32} {hg : Nat → Int32} {wn : Nat} {wf : Nat → Int32} {wg : Nat → Int32} (side k0 : Int32) : ∀ (r : Nat) (k : Nat) (a s : Int32) (y6 : Option Value) {h : xH} {γ : xs} (W : xCw K h0 h X D tn tf rk rv σ β γ pn τ ks κ φ hn hf hg wn wf wg), k + r = 100 → hOk γ → xT K B l 4 RX11 false cX11_when 7 (some .int) 0 0 0 0 (xPi (fun zr g => zr = (whN φ rk rv side r k a s γ).1 ∧ ∃ γ', xCw K h0 g X D tn tf ((whN φ rk rv side r k a s γ).2.1) ((whN φ rk rv side r k a s γ).2.2) σ β (γ') pn τ ks κ φ hn hf hg wn wf wg)) 33 [some (.ref X), some (.int side), some (.int k0), some (.int a), some (.int s), some (.int (nI k)), y6] [] h := by
  intro r
  induction r with
  | zero =>
    intro k a s y6 h γ W hk okt
    refine xr_il5 dX11_when_33 ?_
    refine xr_bipush (v := 99) dX11_when_35 (by decide) ?_
    refine xr_icmpgt (tgt := 104) dX11_when_37 (by decide) (fun zc37 => ?_) (fun zc37 => ?_)
    · skip
      refine xr_bipush (v := (-2)) dX11_when_104 (by decide) ?_
      refine xr_iret dX11_when_106 rfl ?_
      exact ⟨_, rfl, rfl, _, W⟩
    · skip
      exact absurd (nI_lt (a := 99) (by omega) (by omega)) zc37
  | succ r ih =>
    intro k a s y6 h γ W hk okt
    refine xr_il5 dX11_when_33 ?_
    refine xr_bipush (v := 99) dX11_when_35 (by decide) ?_
    refine xr_icmpgt (tgt := 104) dX11_when_37 (by decide) (fun zc37 => ?_) (fun zc37 => ?_)
    · skip
      exact absurd zc37 (Int32.not_lt.mpr (nI_le (b := 99) (by omega) (by decide)))
    · skip
      refine xr_al0 dX11_when_40 ?_
      refine xr_get W.oX fX11_33 rfl dX11_when_41 ?_
      refine xr_il1 dX11_when_44 ?_
      refine xr_Vi1 (s_waits W.Hq _) kX11_131 (by decide) (Nat.le_of_ble_eq_true rfl) (Nat.zero_add _) (Nat.zero_add _) dX11_when_45 ?_
      refine xr_is6 dX11_when_48 (by decide) rfl ?_
      refine xr_al0 dX11_when_50 ?_
      refine xr_get W.oX fX11_33 rfl dX11_when_51 ?_
      refine xr_al0 dX11_when_54 ?_
      refine xr_get W.oX fX11_50 rfl dX11_when_55 ?_
      refine xr_Vpi1 (wRunT W okt) kX11_249 (by decide) (Nat.le_of_ble_eq_true rfl) (Nat.zero_add _) (Nat.zero_add _) dX11_when_58 (fun zv58 zh1 zq1 => ?_)
      have okt := hOk_run okt φ
      obtain ⟨rfl, W⟩ := zq1
      refine xr_ifne (tgt := 67) dX11_when_61 (by decide) (fun zc61 => ?_) (fun zc61 => ?_)
      · skip
        refine xr_il3 dX11_when_67 ?_
        refine xr_il6 dX11_when_68 ?_
        refine xr_al0 dX11_when_70 ?_
        refine xr_get W.oX fX11_33 rfl dX11_when_71 ?_
        refine xr_il1 dX11_when_74 ?_
        refine xr_Vi1 (s_waits W.Hq _) kX11_131 (by decide) (Nat.le_of_ble_eq_true rfl) (Nat.zero_add _) (Nat.zero_add _) dX11_when_75 ?_
        refine xr_isub dX11_when_78 ?_
        refine xr_isub dX11_when_79 ?_
        refine xr_is3 dX11_when_80 (by decide) rfl ?_
        refine xr_il3 dX11_when_81 ?_
        refine xr_ifge (tgt := 98) dX11_when_82 (by decide) (fun zc82 => ?_) (fun zc82 => ?_)
        · skip
          refine xr_inc5 dX11_when_98 (nI_inc k) (by decide) rfl ?_
          refine xr_goto (tgt := 33) dX11_when_101 (by decide) ?_
          rw [whN_s, if_neg (Int32.not_lt.mpr zc82), if_pos (Decidable.not_not.mp (fun q => zc61 (bI_0.mpr q)))]
          exact ih (k + 1) _ _ _ W (by omega) okt
        · skip
          refine xr_al0 dX11_when_85 ?_
          refine xr_get W.oX fX11_19 rfl dX11_when_86 ?_
          refine xr_il4 dX11_when_89 ?_
          refine xr_i2l dX11_when_91 ?_
          refine xr_Vv1 (s_tell1 W.Hr _) kX11_302 (by decide) (Nat.le_of_ble_eq_true rfl) (Nat.zero_add _) (Nat.zero_add _) dX11_when_92 ?_
          refine xT.nm (fun zh2 zg2 => ?_)
          have W := W.ur (fB2 zg2)
          refine xr_il5 dX11_when_95 ?_
          refine xr_iret dX11_when_97 rfl ?_
          rw [whN_s, if_pos (Int32.not_le.mp zc82), if_pos (Decidable.not_not.mp (fun q => zc61 (bI_0.mpr q)))]
          exact ⟨_, rfl, rfl, _, W⟩
      · skip
        refine xr_inc4 dX11_when_64 (show s + Int32.ofInt (1) = s + 1 from rfl) (by decide) rfl ?_
        refine xr_il3 dX11_when_67 ?_
        refine xr_il6 dX11_when_68 ?_
        refine xr_al0 dX11_when_70 ?_
        refine xr_get W.oX fX11_33 rfl dX11_when_71 ?_
        refine xr_il1 dX11_when_74 ?_
        refine xr_Vi1 (s_waits W.Hq _) kX11_131 (by decide) (Nat.le_of_ble_eq_true rfl) (Nat.zero_add _) (Nat.zero_add _) dX11_when_75 ?_
        refine xr_isub dX11_when_78 ?_
        refine xr_isub dX11_when_79 ?_
        refine xr_is3 dX11_when_80 (by decide) rfl ?_
        refine xr_il3 dX11_when_81 ?_
        refine xr_ifge (tgt := 98) dX11_when_82 (by decide) (fun zc82 => ?_) (fun zc82 => ?_)
        · skip
          refine xr_inc5 dX11_when_98 (nI_inc k) (by decide) rfl ?_
          refine xr_goto (tgt := 33) dX11_when_101 (by decide) ?_
          rw [whN_s, if_neg (Int32.not_lt.mpr zc82), if_neg (bI_0.mp zc61)]
          exact ih (k + 1) _ _ _ W (by omega) okt
        · skip
          refine xr_al0 dX11_when_85 ?_
          refine xr_get W.oX fX11_19 rfl dX11_when_86 ?_
          refine xr_il4 dX11_when_89 ?_
          refine xr_i2l dX11_when_91 ?_
          refine xr_Vv1 (s_tell1 W.Hr _) kX11_302 (by decide) (Nat.le_of_ble_eq_true rfl) (Nat.zero_add _) (Nat.zero_add _) dX11_when_92 ?_
          refine xT.nm (fun zh2 zg2 => ?_)
          have W := W.ur (fB2 zg2)
          refine xr_il5 dX11_when_95 ?_
          refine xr_iret dX11_when_97 rfl ?_
          rw [whN_s, if_pos (Int32.not_le.mp zc82), if_neg (bI_0.mp zc61)]
          exact ⟨_, rfl, rfl, _, W⟩
set_option maxRecDepth 20000 in
theorem s_when {K : xK} {B : Nat} {l : Launch} {h0 h : xH} {X D : Nat} {tn : Nat} {tf : Nat → Int32} {rk : Int32} {rv : Nat → Int64} {σ : xs} {β : xs} {γ : xs} {pn : Nat} {τ : Nat → xs} {ks : Nat → Bool} {κ : Nat → xs} {φ : xs → Int32} {hn : Nat} {hf : Nat → Int32} {hg : Nat → Int32} {wn : Nat} {wf : Nat → Int32} {wg : Nat → Int32} (W : xCw K h0 h X D tn tf rk rv σ β γ pn τ ks κ φ hn hf hg wn wf wg) (x y : Int32) : xV K B l 4 mX11_when 0 0 (X) [.int x, .int y] h (xPi (fun zr g => zr = (whR φ σ rk rv x y).1 ∧ ∃ γ', xCw K h0 g X D tn tf ((whR φ σ rk rv x y).2.1) ((whR φ σ rk rv x y).2.2) σ β (γ') pn τ ks κ φ hn hf hg wn wf wg)) := by
  refine ⟨⟨_, _, _, _, W.oX, rfl⟩, qX11_when, ?_⟩
  refine xS.intro RX11 false ⟨rfl, rfl, by decide, by decide, Nat.le_of_ble_eq_true rfl⟩ (ls := [some (.ref X), some (.int x), some (.int y), none, none, none, none]) rfl ?_
  refine xr_al0 dX11_when_0 ?_
  refine xr_get W.oX fX11_26 rfl dX11_when_1 ?_
  refine xr_il1 dX11_when_4 ?_
  refine xr_il2 dX11_when_5 ?_
  refine xr_Vi2 (s_has W.Hh _ _) kX11_148 (by decide) (Nat.le_of_ble_eq_true rfl) (Nat.zero_add _) (Nat.zero_add _) dX11_when_6 ?_
  refine xr_ifne (tgt := 14) dX11_when_9 (by decide) (fun zc9 => ?_) (fun zc9 => ?_)
  · skip
    refine xr_al0 dX11_when_14 ?_
    refine xr_get W.oX fX11_33 rfl dX11_when_15 ?_
    refine xr_al0 dX11_when_18 ?_
    refine xr_get W.oX fX11_26 rfl dX11_when_19 ?_
    refine xr_Vv1 (s_copyFrom W.Hq W.Hh (by omega)) kX11_179 (by decide) (Nat.le_of_ble_eq_true rfl) (Nat.zero_add _) (Nat.zero_add _) dX11_when_22 ?_
    refine xT.nm (fun zh1 zg1 => ?_)
    have okt := W.pok
    have W := W.uq (fBH zg1)
    refine xr_il2 dX11_when_25 ?_
    refine xr_is3 dX11_when_26 (by decide) rfl ?_
    refine xr_ic0 dX11_when_27 ?_
    refine xr_is4 dX11_when_28 (by decide) rfl ?_
    refine xr_ic1 dX11_when_30 ?_
    refine xr_is5 dX11_when_31 (by decide) rfl ?_
    have e : (whR φ σ rk rv x y) = _ := if_pos (Decidable.not_not.mp (fun q => zc9 (bI_0.mpr q)))
    rw [e]
    exact lp_when x y 99 1 y 0 none W (by omega) okt
  · skip
    refine xr_icm1 dX11_when_12 ?_
    refine xr_iret dX11_when_13 rfl ?_
    have e : (whR φ σ rk rv x y) = _ := if_neg (bI_0.mp zc9)
    rw [e]
    exact ⟨_, rfl, rfl, _, W⟩
def twN (φ : xs → Int32) : Nat → Nat → xs → Int32
  | 0, _, _ => -1
  | r + 1, k, γ => if γ 10 + γ 11 = 0 then nI k else if hGo γ then twN φ r (k + 1) (hRun φ γ) else -1
theorem twN_s (φ : xs → Int32) (r k : Nat) (γ : xs) : twN φ (r + 1) k γ = if γ 10 + γ 11 = 0 then nI k else if hGo γ then twN φ r (k + 1) (hRun φ γ) else -1 := rfl
set_option maxRecDepth 20000 in
theorem lp_trips {K : xK} {B : Nat} {l : Launch} {h0 : xH} {X D : Nat} {tn : Nat} {tf : Nat → Int32} {rk : Int32} {rv : Nat → Int64} {σ : xs} {β : xs} {pn : Nat} {τ : Nat → xs} {ks : Nat → Bool} {κ : Nat → xs} {φ : xs → Int32} {hn : Nat} {hf : Nat → Int32} {hg : Nat → Int32} {wn : Nat} {wf : Nat → Int32} {wg : Nat → Int32} (c : Int32) : ∀ (r : Nat) (k : Nat) {h : xH} {γ : xs} (W : xCw K h0 h X D tn tf rk rv σ β γ pn τ ks κ φ hn hf hg wn wf wg), k + r = 6 → hOk γ → xT K B l 4 RX11 false cX11_tripsWithoutRest 3 (some .int) 0 0 0 0 (xPi (fun v g => v = (twN φ r k γ) ∧ ∃ γ', xCw K h0 g X D tn tf rk rv σ β (γ') pn τ ks κ φ hn hf hg wn wf wg)) 21 [some (.ref X), some (.int c), some (.int (nI k))] [] h := by
  intro r
  induction r with
  | zero =>
    intro k h γ W hk okt
    refine xr_il2 dX11_tripsWithoutRest_21 ?_
    refine xr_ic5 dX11_tripsWithoutRest_22 ?_
    refine xr_icmpgt (tgt := 60) dX11_tripsWithoutRest_23 (by decide) (fun zc23 => ?_) (fun zc23 => ?_)
    · skip
      refine xr_icm1 dX11_tripsWithoutRest_60 ?_
      refine xr_iret dX11_tripsWithoutRest_61 rfl ?_
      exact ⟨_, rfl, rfl, _, W⟩
    · skip
      exact absurd (nI_lt (a := 5) (by omega) (by omega)) zc23
  | succ r ih =>
    intro k h γ W hk okt
    refine xr_il2 dX11_tripsWithoutRest_21 ?_
    refine xr_ic5 dX11_tripsWithoutRest_22 ?_
    refine xr_icmpgt (tgt := 60) dX11_tripsWithoutRest_23 (by decide) (fun zc23 => ?_) (fun zc23 => ?_)
    · skip
      exact absurd zc23 (Int32.not_lt.mpr (nI_le (b := 5) (by omega) (by decide)))
    · skip
      refine xr_al0 dX11_tripsWithoutRest_26 ?_
      refine xr_get W.oX fX11_33 rfl dX11_tripsWithoutRest_27 ?_
      refine xr_Vi0 (s_nobodyWaits W.Hq) kX11_245 (by decide) (Nat.le_of_ble_eq_true rfl) (Nat.zero_add _) (Nat.zero_add _) dX11_tripsWithoutRest_30 ?_
      refine xr_ifeq (tgt := 38) dX11_tripsWithoutRest_33 (by decide) (fun zc33 => ?_) (fun zc33 => ?_)
      · skip
        refine xr_al0 dX11_tripsWithoutRest_38 ?_
        refine xr_get W.oX fX11_33 rfl dX11_tripsWithoutRest_39 ?_
        refine xr_al0 dX11_tripsWithoutRest_42 ?_
        refine xr_get W.oX fX11_50 rfl dX11_tripsWithoutRest_43 ?_
        refine xr_Vpi1 (wRunT W okt) kX11_249 (by decide) (Nat.le_of_ble_eq_true rfl) (Nat.zero_add _) (Nat.zero_add _) dX11_tripsWithoutRest_46 (fun zv46 zh1 zq1 => ?_)
        have okt := hOk_run okt φ
        obtain ⟨rfl, W⟩ := zq1
        refine xr_ifne (tgt := 54) dX11_tripsWithoutRest_49 (by decide) (fun zc49 => ?_) (fun zc49 => ?_)
        · skip
          refine xr_inc2 dX11_tripsWithoutRest_54 (nI_inc k) (by decide) rfl ?_
          refine xr_goto (tgt := 21) dX11_tripsWithoutRest_57 (by decide) ?_
          rw [twN_s, if_neg (bI_0.mp zc33), if_pos (Decidable.not_not.mp (fun q => zc49 (bI_0.mpr q)))]
          exact ih (k + 1) W (by omega) okt
        · skip
          refine xr_icm1 dX11_tripsWithoutRest_52 ?_
          refine xr_iret dX11_tripsWithoutRest_53 rfl ?_
          rw [twN_s, if_neg (bI_0.mp zc33), if_neg (bI_0.mp zc49)]
          exact ⟨_, rfl, rfl, _, W⟩
      · skip
        refine xr_il2 dX11_tripsWithoutRest_36 ?_
        refine xr_iret dX11_tripsWithoutRest_37 rfl ?_
        rw [twN_s, if_pos (Decidable.not_not.mp (fun q => zc33 (bI_0.mpr q)))]
        exact ⟨_, rfl, rfl, _, W⟩
set_option maxRecDepth 20000 in
theorem s_tripsW {K : xK} {B : Nat} {l : Launch} {h0 h : xH} {X D : Nat} {tn : Nat} {tf : Nat → Int32} {rk : Int32} {rv : Nat → Int64} {σ : xs} {β : xs} {γ : xs} {pn : Nat} {τ : Nat → xs} {ks : Nat → Bool} {κ : Nat → xs} {φ : xs → Int32} {hn : Nat} {hf : Nat → Int32} {hg : Nat → Int32} {wn : Nat} {wf : Nat → Int32} {wg : Nat → Int32} (W : xCw K h0 h X D tn tf rk rv σ β γ pn τ ks κ φ hn hf hg wn wf wg) (c : Int32) : xV K B l 4 mX11_tripsWithoutRest 0 0 (X) [.int c] h (xPi (fun v g => v = twN φ 6 0 (upd σ 14 c) ∧ ∃ γ', xCw K h0 g X D tn tf rk rv σ β (γ') pn τ ks κ φ hn hf hg wn wf wg)) := by
  refine ⟨⟨_, _, _, _, W.oX, rfl⟩, qX11_tripsWithoutRest, ?_⟩
  refine xS.intro RX11 false ⟨rfl, rfl, by decide, by decide, Nat.le_of_ble_eq_true rfl⟩ (ls := [some (.ref X), some (.int c), none]) rfl ?_
  refine xr_al0 dX11_tripsWithoutRest_0 ?_
  refine xr_get W.oX fX11_33 rfl dX11_tripsWithoutRest_1 ?_
  refine xr_al0 dX11_tripsWithoutRest_4 ?_
  refine xr_get W.oX fX11_26 rfl dX11_tripsWithoutRest_5 ?_
  refine xr_Vv1 (s_copyFrom W.Hq W.Hh (by omega)) kX11_179 (by decide) (Nat.le_of_ble_eq_true rfl) (Nat.zero_add _) (Nat.zero_add _) dX11_tripsWithoutRest_8 ?_
  refine xT.nm (fun zh1 zg1 => ?_)
  have okt := W.pok
  have W := W.uq (fBH zg1)
  refine xr_al0 dX11_tripsWithoutRest_11 ?_
  refine xr_get W.oX fX11_33 rfl dX11_tripsWithoutRest_12 ?_
  refine xr_il1 dX11_tripsWithoutRest_15 ?_
  refine xr_put W.Hq.1 fX11_221 (Nat.le_of_ble_eq_true rfl) rfl rfl dX11_tripsWithoutRest_16 ?_
  refine xT.nm (fun zh2 zg2 => ?_)
  rw [zg2]
  refine xT.equiv (hill_f W.Hq (i := 14) (by decide) c rfl) ?_
  refine xT.nm (fun zk1 zw1 => ?_)
  have okt := hOk_upd okt (i := 14) (by decide) c
  have W := W.uq (fBH zw1)
  refine xr_ic0 dX11_tripsWithoutRest_19 ?_
  refine xr_is2 dX11_tripsWithoutRest_20 (by decide) rfl ?_
  exact lp_trips c 6 0 W (by omega) okt
def enN (φ : xs → Int32) (σ : xs) (rk : Int32) (rv : Nat → Int64) : Nat → Nat → AR
  | 0, _ => (-2, rk, rv)
  | r + 1, c => if twN φ 6 0 (upd σ 14 (nI c)) = -1 then enN φ σ rk rv r (c + 1) else (nI c, 1, tl1 rv (twN φ 6 0 (upd σ 14 (nI c))))
theorem enN_s (φ : xs → Int32) (σ : xs) (rk : Int32) (rv : Nat → Int64) (r c : Nat) : enN φ σ rk rv (r + 1) c = if twN φ 6 0 (upd σ 14 (nI c)) = -1 then enN φ σ rk rv r (c + 1) else (nI c, 1, tl1 rv (twN φ 6 0 (upd σ 14 (nI c)))) := rfl
def enC (σ : xs) : Nat := (hWater σ (hNext σ 0) (hNext σ 1)).toNatClampNeg
def enR (φ : xs → Int32) (σ : xs) (rk : Int32) (rv : Nat → Int64) : AR := if σ 10 + σ 11 = 0 then (-3, rk, rv) else enN φ σ rk rv (1000 - enC σ) (enC σ)
theorem iMax0_nI (x : Int32) : iMax 0 x = nI (iMax 0 x).toNatClampNeg ∧ (iMax 0 x).toNatClampNeg < 2 ^ 31 := by
  rcases pk_ix (iMax 0 x) (n := 2147483647) (by decide) with z | z | ⟨j, hj, e⟩
  · unfold iMax at z
    split at z
    · rename_i q
      exact absurd (Int32.lt_trans q z) (by decide)
    · exact absurd z (by decide)
  · have e : iMax 0 x = 2147483647 := Int32.le_antisymm (Int32.le_iff_toInt_le.mpr (Int32.toInt_le _)) z
    rw [e]
    decide
  · rw [e, nI_clamp (by omega)]
    exact ⟨rfl, by omega⟩
set_option maxRecDepth 20000 in
theorem lp_enough {K : xK} {B : Nat} {l : Launch} {h0 : xH} {X D : Nat} {tn : Nat} {tf : Nat → Int32} {rk : Int32} {rv : Nat → Int64} {σ : xs} {β : xs} {pn : Nat} {τ : Nat → xs} {ks : Nat → Bool} {κ : Nat → xs} {φ : xs → Int32} {hn : Nat} {hf : Nat → Int32} {hg : Nat → Int32} {wn : Nat} {wf : Nat → Int32} {wg : Nat → Int32} (c0 : Int32) : ∀ (r : Nat) (c : Nat) (y3 : Option Value) {h : xH} {γ : xs} (W : xCw K h0 h X D tn tf rk rv σ β γ pn τ ks κ φ hn hf hg wn wf wg), r = 1000 - c → c < 2 ^ 31 → xT K B l 5 RX11 false cX11_enough 4 (some .int) 0 0 0 0 (xPi (fun zr g => zr = (enN φ σ rk rv r c).1 ∧ ∃ γ', xCw K h0 g X D tn tf ((enN φ σ rk rv r c).2.1) ((enN φ σ rk rv r c).2.2) σ β (γ') pn τ ks κ φ hn hf hg wn wf wg)) 39 [some (.ref X), some (.int c0), some (.int (nI c)), y3] [] h := by
  intro r
  induction r with
  | zero =>
    intro c y3 h γ W hk hc
    refine xr_il2 dX11_enough_39 ?_
    refine xr_sipush (v := 999) dX11_enough_40 (by decide) ?_
    refine xr_icmpgt (tgt := 74) dX11_enough_43 (by decide) (fun zc43 => ?_) (fun zc43 => ?_)
    · skip
      refine xr_bipush (v := (-2)) dX11_enough_74 (by decide) ?_
      refine xr_iret dX11_enough_76 rfl ?_
      exact ⟨_, rfl, rfl, _, W⟩
    · skip
      exact absurd (nI_lt (a := 999) (by omega) (by omega)) zc43
  | succ r ih =>
    intro c y3 h γ W hk hc
    refine xr_il2 dX11_enough_39 ?_
    refine xr_sipush (v := 999) dX11_enough_40 (by decide) ?_
    refine xr_icmpgt (tgt := 74) dX11_enough_43 (by decide) (fun zc43 => ?_) (fun zc43 => ?_)
    · skip
      exact absurd zc43 (Int32.not_lt.mpr (nI_le (b := 999) (by omega) (by decide)))
    · skip
      refine xr_al0 dX11_enough_46 ?_
      refine xr_il2 dX11_enough_47 ?_
      refine xr_Vpi1 (s_tripsW W _) kX11_305 (by decide) (Nat.le_of_ble_eq_true rfl) (Nat.zero_add _) (Nat.zero_add _) dX11_enough_48 (fun zv48 zh1 zq1 => ?_)
      obtain ⟨rfl, _, W⟩ := zq1
      refine xr_is3 dX11_enough_51 (by decide) rfl ?_
      refine xr_il3 dX11_enough_52 ?_
      refine xr_icm1 dX11_enough_53 ?_
      refine xr_icmpeq (tgt := 68) dX11_enough_54 (by decide) (fun zc54 => ?_) (fun zc54 => ?_)
      · skip
        refine xr_inc2 dX11_enough_68 (nI_inc c) (by decide) rfl ?_
        refine xr_goto (tgt := 39) dX11_enough_71 (by decide) ?_
        rw [enN_s, if_pos zc54]
        exact ih (c + 1) _ W (by omega) (by omega)
      · skip
        refine xr_al0 dX11_enough_57 ?_
        refine xr_get W.oX fX11_19 rfl dX11_enough_58 ?_
        refine xr_il3 dX11_enough_61 ?_
        refine xr_i2l dX11_enough_62 ?_
        refine xr_Vv1 (s_tell1 W.Hr _) kX11_302 (by decide) (Nat.le_of_ble_eq_true rfl) (Nat.zero_add _) (Nat.zero_add _) dX11_enough_63 ?_
        refine xT.nm (fun zh2 zg2 => ?_)
        have W := W.ur (fB2 zg2)
        refine xr_il2 dX11_enough_66 ?_
        refine xr_iret dX11_enough_67 rfl ?_
        rw [enN_s, if_neg zc54]
        exact ⟨_, rfl, rfl, _, W⟩
set_option maxRecDepth 20000 in
theorem s_enough {K : xK} {B : Nat} {l : Launch} {h0 h : xH} {X D : Nat} {tn : Nat} {tf : Nat → Int32} {rk : Int32} {rv : Nat → Int64} {σ : xs} {β : xs} {γ : xs} {pn : Nat} {τ : Nat → xs} {ks : Nat → Bool} {κ : Nat → xs} {φ : xs → Int32} {hn : Nat} {hf : Nat → Int32} {hg : Nat → Int32} {wn : Nat} {wf : Nat → Int32} {wg : Nat → Int32} (W : xCw K h0 h X D tn tf rk rv σ β γ pn τ ks κ φ hn hf hg wn wf wg) : xV K B l 5 mX11_enough 0 0 (X) [] h (xPi (fun zr g => zr = (enR φ σ rk rv).1 ∧ ∃ γ', xCw K h0 g X D tn tf ((enR φ σ rk rv).2.1) ((enR φ σ rk rv).2.2) σ β (γ') pn τ ks κ φ hn hf hg wn wf wg)) := by
  refine ⟨⟨_, _, _, _, W.oX, rfl⟩, qX11_enough, ?_⟩
  refine xS.intro RX11 false ⟨rfl, rfl, by decide, by decide, Nat.le_of_ble_eq_true rfl⟩ (ls := [some (.ref X), none, none, none]) rfl ?_
  refine xr_al0 dX11_enough_0 ?_
  refine xr_get W.oX fX11_26 rfl dX11_enough_1 ?_
  refine xr_Vi0 (s_nobodyWaits W.Hh) kX11_245 (by decide) (Nat.le_of_ble_eq_true rfl) (Nat.zero_add _) (Nat.zero_add _) dX11_enough_4 ?_
  refine xr_ifeq (tgt := 13) dX11_enough_7 (by decide) (fun zc7 => ?_) (fun zc7 => ?_)
  · skip
    refine xr_al0 dX11_enough_13 ?_
    refine xr_get W.oX fX11_26 rfl dX11_enough_14 ?_
    refine xr_al0 dX11_enough_17 ?_
    refine xr_get W.oX fX11_26 rfl dX11_enough_18 ?_
    refine xr_ic0 dX11_enough_21 ?_
    refine xr_Vi1 (s_nextOf W.Hh _) kX11_215 (by decide) (Nat.le_of_ble_eq_true rfl) (Nat.zero_add _) (Nat.zero_add _) dX11_enough_22 ?_
    refine xr_al0 dX11_enough_25 ?_
    refine xr_get W.oX fX11_26 rfl dX11_enough_26 ?_
    refine xr_ic1 dX11_enough_29 ?_
    refine xr_Vi1 (s_nextOf W.Hh _) kX11_215 (by decide) (Nat.le_of_ble_eq_true rfl) (Nat.zero_add _) (Nat.zero_add _) dX11_enough_30 ?_
    refine xr_Vi2 (s_waterFor W.Hh W.pok _ _) kX11_218 (by decide) (Nat.le_of_ble_eq_true rfl) (Nat.zero_add _) (Nat.zero_add _) dX11_enough_33 ?_
    refine xr_eqi (y := nI (enC σ)) (iMax0_nI _).1 ?_
    refine xr_is1 dX11_enough_36 (by decide) rfl ?_
    refine xr_il1 dX11_enough_37 ?_
    refine xr_is2 dX11_enough_38 (by decide) rfl ?_
    have e : (enR φ σ rk rv) = _ := if_neg (bI_0.mp zc7)
    rw [e]
    exact lp_enough _ _ (enC σ) none W rfl (iMax0_nI _).2
  · skip
    refine xr_bipush (v := (-3)) dX11_enough_10 (by decide) ?_
    refine xr_iret dX11_enough_12 rfl ?_
    have e : (enR φ σ rk rv) = _ := if_pos (Decidable.not_not.mp (fun q => zc7 (bI_0.mpr q)))
    rw [e]
    exact ⟨_, rfl, rfl, _, W⟩
def wgN (φ : xs → Int32) (rk : Int32) (rv : Nat → Int64) : Nat → Nat → Int32 → xs → AR
  | 0, _, _, _ => (-2, rk, rv)
  | r + 1, k, s, γ => if hRun φ γ 10 + hRun φ γ 11 = 0 then (s + nI k * ((γ 10 + γ 11) - (hRun φ γ 10 + hRun φ γ 11)), 1, tl1 rv (nI k)) else wgN φ rk rv r (k + 1) (s + nI k * ((γ 10 + γ 11) - (hRun φ γ 10 + hRun φ γ 11))) (hRun φ γ)
theorem wgN_s (φ : xs → Int32) (rk : Int32) (rv : Nat → Int64) (r k : Nat) (s : Int32) (γ : xs) : wgN φ rk rv (r + 1) k s γ = if hRun φ γ 10 + hRun φ γ 11 = 0 then (s + nI k * ((γ 10 + γ 11) - (hRun φ γ 10 + hRun φ γ 11)), 1, tl1 rv (nI k)) else wgN φ rk rv r (k + 1) (s + nI k * ((γ 10 + γ 11) - (hRun φ γ 10 + hRun φ γ 11))) (hRun φ γ) := rfl
def wgR (φ : xs → Int32) (σ : xs) (rk : Int32) (rv : Nat → Int64) : AR := if σ 10 + σ 11 = 0 then (-3, rk, rv) else wgN φ rk rv 99 1 0 σ
set_option maxRecDepth 20000 in
theorem lp_waiting {K : xK} {B : Nat} {l : Launch} {h0 : xH} {X D : Nat} {tn : Nat} {tf : Nat → Int32} {rk : Int32} {rv : Nat → Int64} {σ : xs} {β : xs} {pn : Nat} {τ : Nat → xs} {ks : Nat → Bool} {κ : Nat → xs} {φ : xs → Int32} {hn : Nat} {hf : Nat → Int32} {hg : Nat → Int32} {wn : Nat} {wf : Nat → Int32} {wg : Nat → Int32}  : ∀ (r : Nat) (k : Nat) (s : Int32) (y3 : Option Value) {h : xH} {γ : xs} (W : xCw K h0 h X D tn tf rk rv σ β γ pn τ ks κ φ hn hf hg wn wf wg), k + r = 100 → hOk γ → xT K B l 4 RX11 false cX11_waiting 4 (some .int) 0 0 0 0 (xPi (fun zr g => zr = (wgN φ rk rv r k s γ).1 ∧ ∃ γ', xCw K h0 g X D tn tf ((wgN φ rk rv r k s γ).2.1) ((wgN φ rk rv r k s γ).2.2) σ β (γ') pn τ ks κ φ hn hf hg wn wf wg)) 28 [some (.ref X), some (.int s), some (.int (nI k)), y3] [] h := by
  intro r
  induction r with
  | zero =>
    intro k s y3 h γ W hk okt
    refine xr_il2 dX11_waiting_28 ?_
    refine xr_bipush (v := 99) dX11_waiting_29 (by decide) ?_
    refine xr_icmpgt (tgt := 95) dX11_waiting_31 (by decide) (fun zc31 => ?_) (fun zc31 => ?_)
    · skip
      refine xr_bipush (v := (-2)) dX11_waiting_95 (by decide) ?_
      refine xr_iret dX11_waiting_97 rfl ?_
      exact ⟨_, rfl, rfl, _, W⟩
    · skip
      exact absurd (nI_lt (a := 99) (by omega) (by omega)) zc31
  | succ r ih =>
    intro k s y3 h γ W hk okt
    refine xr_il2 dX11_waiting_28 ?_
    refine xr_bipush (v := 99) dX11_waiting_29 (by decide) ?_
    refine xr_icmpgt (tgt := 95) dX11_waiting_31 (by decide) (fun zc31 => ?_) (fun zc31 => ?_)
    · skip
      exact absurd zc31 (Int32.not_lt.mpr (nI_le (b := 99) (by omega) (by decide)))
    · skip
      refine xr_al0 dX11_waiting_34 ?_
      refine xr_get W.oX fX11_33 rfl dX11_waiting_35 ?_
      refine xr_Vi0 (s_waitsInAll W.Hq) kX11_308 (by decide) (Nat.le_of_ble_eq_true rfl) (Nat.zero_add _) (Nat.zero_add _) dX11_waiting_38 ?_
      refine xr_is3 dX11_waiting_41 (by decide) rfl ?_
      refine xr_al0 dX11_waiting_42 ?_
      refine xr_get W.oX fX11_33 rfl dX11_waiting_43 ?_
      refine xr_al0 dX11_waiting_46 ?_
      refine xr_get W.oX fX11_50 rfl dX11_waiting_47 ?_
      refine xr_Vpi1 (wRunT W okt) kX11_249 (by decide) (Nat.le_of_ble_eq_true rfl) (Nat.zero_add _) (Nat.zero_add _) dX11_waiting_50 (fun zv50 zh1 zq1 => ?_)
      have okt := hOk_run okt φ
      obtain ⟨rfl, W⟩ := zq1
      refine xr_pop dX11_waiting_53 rfl ?_
      refine xr_il1 dX11_waiting_54 ?_
      refine xr_il2 dX11_waiting_55 ?_
      refine xr_il3 dX11_waiting_56 ?_
      refine xr_al0 dX11_waiting_57 ?_
      refine xr_get W.oX fX11_33 rfl dX11_waiting_58 ?_
      refine xr_Vi0 (s_waitsInAll W.Hq) kX11_308 (by decide) (Nat.le_of_ble_eq_true rfl) (Nat.zero_add _) (Nat.zero_add _) dX11_waiting_61 ?_
      refine xr_isub dX11_waiting_64 ?_
      refine xr_imul dX11_waiting_65 ?_
      refine xr_iadd dX11_waiting_66 ?_
      refine xr_is1 dX11_waiting_67 (by decide) rfl ?_
      refine xr_al0 dX11_waiting_68 ?_
      refine xr_get W.oX fX11_33 rfl dX11_waiting_69 ?_
      refine xr_Vi0 (s_nobodyWaits W.Hq) kX11_245 (by decide) (Nat.le_of_ble_eq_true rfl) (Nat.zero_add _) (Nat.zero_add _) dX11_waiting_72 ?_
      refine xr_ifeq (tgt := 89) dX11_waiting_75 (by decide) (fun zc75 => ?_) (fun zc75 => ?_)
      · skip
        refine xr_inc2 dX11_waiting_89 (nI_inc k) (by decide) rfl ?_
        refine xr_goto (tgt := 28) dX11_waiting_92 (by decide) ?_
        rw [wgN_s, if_neg (bI_0.mp zc75)]
        exact ih (k + 1) _ _ W (by omega) okt
      · skip
        refine xr_al0 dX11_waiting_78 ?_
        refine xr_get W.oX fX11_19 rfl dX11_waiting_79 ?_
        refine xr_il2 dX11_waiting_82 ?_
        refine xr_i2l dX11_waiting_83 ?_
        refine xr_Vv1 (s_tell1 W.Hr _) kX11_302 (by decide) (Nat.le_of_ble_eq_true rfl) (Nat.zero_add _) (Nat.zero_add _) dX11_waiting_84 ?_
        refine xT.nm (fun zh2 zg2 => ?_)
        have W := W.ur (fB2 zg2)
        refine xr_il1 dX11_waiting_87 ?_
        refine xr_iret dX11_waiting_88 rfl ?_
        rw [wgN_s, if_pos (Decidable.not_not.mp (fun q => zc75 (bI_0.mpr q)))]
        exact ⟨_, rfl, rfl, _, W⟩
set_option maxRecDepth 20000 in
theorem s_waiting {K : xK} {B : Nat} {l : Launch} {h0 h : xH} {X D : Nat} {tn : Nat} {tf : Nat → Int32} {rk : Int32} {rv : Nat → Int64} {σ : xs} {β : xs} {γ : xs} {pn : Nat} {τ : Nat → xs} {ks : Nat → Bool} {κ : Nat → xs} {φ : xs → Int32} {hn : Nat} {hf : Nat → Int32} {hg : Nat → Int32} {wn : Nat} {wf : Nat → Int32} {wg : Nat → Int32} (W : xCw K h0 h X D tn tf rk rv σ β γ pn τ ks κ φ hn hf hg wn wf wg) : xV K B l 4 mX11_waiting 0 0 (X) [] h (xPi (fun zr g => zr = (wgR φ σ rk rv).1 ∧ ∃ γ', xCw K h0 g X D tn tf ((wgR φ σ rk rv).2.1) ((wgR φ σ rk rv).2.2) σ β (γ') pn τ ks κ φ hn hf hg wn wf wg)) := by
  refine ⟨⟨_, _, _, _, W.oX, rfl⟩, qX11_waiting, ?_⟩
  refine xS.intro RX11 false ⟨rfl, rfl, by decide, by decide, Nat.le_of_ble_eq_true rfl⟩ (ls := [some (.ref X), none, none, none]) rfl ?_
  refine xr_al0 dX11_waiting_0 ?_
  refine xr_get W.oX fX11_26 rfl dX11_waiting_1 ?_
  refine xr_Vi0 (s_nobodyWaits W.Hh) kX11_245 (by decide) (Nat.le_of_ble_eq_true rfl) (Nat.zero_add _) (Nat.zero_add _) dX11_waiting_4 ?_
  refine xr_ifeq (tgt := 13) dX11_waiting_7 (by decide) (fun zc7 => ?_) (fun zc7 => ?_)
  · skip
    refine xr_al0 dX11_waiting_13 ?_
    refine xr_get W.oX fX11_33 rfl dX11_waiting_14 ?_
    refine xr_al0 dX11_waiting_17 ?_
    refine xr_get W.oX fX11_26 rfl dX11_waiting_18 ?_
    refine xr_Vv1 (s_copyFrom W.Hq W.Hh (by omega)) kX11_179 (by decide) (Nat.le_of_ble_eq_true rfl) (Nat.zero_add _) (Nat.zero_add _) dX11_waiting_21 ?_
    refine xT.nm (fun zh1 zg1 => ?_)
    have okt := W.pok
    have W := W.uq (fBH zg1)
    refine xr_ic0 dX11_waiting_24 ?_
    refine xr_is1 dX11_waiting_25 (by decide) rfl ?_
    refine xr_ic1 dX11_waiting_26 ?_
    refine xr_is2 dX11_waiting_27 (by decide) rfl ?_
    have e : (wgR φ σ rk rv) = _ := if_neg (bI_0.mp zc7)
    rw [e]
    exact lp_waiting 99 1 0 none W (by omega) okt
  · skip
    refine xr_bipush (v := (-3)) dX11_waiting_10 (by decide) ?_
    refine xr_iret dX11_waiting_12 rfl ?_
    have e : (wgR φ σ rk rv) = _ := if_pos (Decidable.not_not.mp (fun q => zc7 (bI_0.mpr q)))
    rw [e]
    exact ⟨_, rfl, rfl, _, W⟩
def hdN (φ : xs → Int32) (σ : xs) (N : Nat) : Nat → Nat → Int32 → Int32 → Int32 × Int32
  | 0, _, b, s => (b, s)
  | r + 1, k, b, s => if N < (rtN φ N 0 (upd σ 13 (nI k))).1 then hdN φ σ N r (k + 1) b s else hdN φ σ N r (k + 1) (nI k) (s + 1)
theorem hdN_s (φ : xs → Int32) (σ : xs) (N r k : Nat) (b s : Int32) : hdN φ σ N (r + 1) k b s = if N < (rtN φ N 0 (upd σ 13 (nI k))).1 then hdN φ σ N r (k + 1) b s else hdN φ σ N r (k + 1) (nI k) (s + 1) := rfl
def hdE (rk : Int32) (rv : Nat → Int64) (z : Int32 × Int32) : AR := if z.2 ≤ 0 then (z.1, rk, rv) else (z.1, 1, tl1 rv z.2)
def hdR (φ : xs → Int32) (σ : xs) (rk : Int32) (rv : Nat → Int64) (n : Int32) : AR := if n < 0 ∨ 60 < n then (-1, rk, rv) else hdE rk rv (hdN φ σ n.toNatClampNeg 10 0 (-2) 0)
set_option maxRecDepth 20000 in
theorem lp_holds {K : xK} {B : Nat} {l : Launch} {h0 : xH} {X D : Nat} {tn : Nat} {tf : Nat → Int32} {rk : Int32} {rv : Nat → Int64} {σ : xs} {β : xs} {pn : Nat} {τ : Nat → xs} {ks : Nat → Bool} {κ : Nat → xs} {φ : xs → Int32} {hn : Nat} {hf : Nat → Int32} {hg : Nat → Int32} {wn : Nat} {wf : Nat → Int32} {wg : Nat → Int32} (N : Nat) (hN : N ≤ 60) : ∀ (r : Nat) (k : Nat) (b s : Int32) {h : xH} {γ : xs} (W : xCw K h0 h X D tn tf rk rv σ β γ pn τ ks κ φ hn hf hg wn wf wg), k + r = 10 → xT K B l 5 RX11 false cX11_holds 5 (some .int) 0 0 0 0 (xPi (fun zr g => zr = (hdE rk rv (hdN φ σ N r k b s)).1 ∧ ∃ γ', xCw K h0 g X D tn tf ((hdE rk rv (hdN φ σ N r k b s)).2.1) ((hdE rk rv (hdN φ σ N r k b s)).2.2) σ β (γ') pn τ ks κ φ hn hf hg wn wf wg)) 20 [some (.ref X), some (.int (nI N)), some (.int b), some (.int s), some (.int (nI k))] [] h := by
  intro r
  induction r with
  | zero =>
    intro k b s h γ W hk
    refine xr_il4 dX11_holds_20 ?_
    refine xr_bipush (v := 9) dX11_holds_22 (by decide) ?_
    refine xr_icmpgt (tgt := 68) dX11_holds_24 (by decide) (fun zc24 => ?_) (fun zc24 => ?_)
    · skip
      refine xr_il3 dX11_holds_68 ?_
      refine xr_ifle (tgt := 81) dX11_holds_69 (by decide) (fun zc69 => ?_) (fun zc69 => ?_)
      · skip
        refine xr_il2 dX11_holds_81 ?_
        refine xr_iret dX11_holds_82 rfl ?_
        have e : (hdE rk rv (hdN φ σ N 0 k b s)) = _ := if_pos zc69
        rw [e]
        exact ⟨_, rfl, rfl, _, W⟩
      · skip
        refine xr_al0 dX11_holds_72 ?_
        refine xr_get W.oX fX11_19 rfl dX11_holds_73 ?_
        refine xr_il3 dX11_holds_76 ?_
        refine xr_i2l dX11_holds_77 ?_
        refine xr_Vv1 (s_tell1 W.Hr _) kX11_302 (by decide) (Nat.le_of_ble_eq_true rfl) (Nat.zero_add _) (Nat.zero_add _) dX11_holds_78 ?_
        refine xT.nm (fun zh1 zg1 => ?_)
        have W := W.ur (fB2 zg1)
        refine xr_il2 dX11_holds_81 ?_
        refine xr_iret dX11_holds_82 rfl ?_
        have e : (hdE rk rv (hdN φ σ N 0 k b s)) = _ := if_neg zc69
        rw [e]
        exact ⟨_, rfl, rfl, _, W⟩
    · skip
      exact absurd (nI_lt (a := 9) (by omega) (by omega)) zc24
  | succ r ih =>
    intro k b s h γ W hk
    refine xr_il4 dX11_holds_20 ?_
    refine xr_bipush (v := 9) dX11_holds_22 (by decide) ?_
    refine xr_icmpgt (tgt := 68) dX11_holds_24 (by decide) (fun zc24 => ?_) (fun zc24 => ?_)
    · skip
      exact absurd zc24 (Int32.not_lt.mpr (nI_le (b := 9) (by omega) (by decide)))
    · skip
      refine xr_al0 dX11_holds_27 ?_
      refine xr_get W.oX fX11_33 rfl dX11_holds_28 ?_
      refine xr_al0 dX11_holds_31 ?_
      refine xr_get W.oX fX11_26 rfl dX11_holds_32 ?_
      refine xr_Vv1 (s_copyFrom W.Hq W.Hh (by omega)) kX11_179 (by decide) (Nat.le_of_ble_eq_true rfl) (Nat.zero_add _) (Nat.zero_add _) dX11_holds_35 ?_
      refine xT.nm (fun zh1 zg1 => ?_)
      have okt := W.pok
      have W := W.uq (fBH zg1)
      refine xr_al0 dX11_holds_38 ?_
      refine xr_get W.oX fX11_33 rfl dX11_holds_39 ?_
      refine xr_il4 dX11_holds_42 ?_
      refine xr_put W.Hq.1 fX11_253 (Nat.le_of_ble_eq_true rfl) rfl rfl dX11_holds_44 ?_
      refine xT.nm (fun zh2 zg2 => ?_)
      rw [zg2]
      refine xT.equiv (hill_f W.Hq (i := 13) (by decide) (nI k) rfl) ?_
      refine xT.nm (fun zk1 zw1 => ?_)
      have okt := hOk_upd okt (i := 13) (by decide) (nI k)
      have W := W.uq (fBH zw1)
      refine xr_al0 dX11_holds_47 ?_
      refine xr_il1 dX11_holds_48 ?_
      refine xr_Vpi1 (s_runTill W okt (N := N) (by omega)) kX11_296 (by decide) (Nat.le_of_ble_eq_true rfl) (Nat.zero_add _) (Nat.zero_add _) dX11_holds_49 (fun zv49 zh3 zq3 => ?_)
      obtain ⟨rfl, W⟩ := zq3
      refine xr_il1 dX11_holds_52 ?_
      refine xr_icmpgt (tgt := 62) dX11_holds_53 (by decide) (fun zc53 => ?_) (fun zc53 => ?_)
      · skip
        refine xr_inc4 dX11_holds_62 (nI_inc k) (by decide) rfl ?_
        refine xr_goto (tgt := 20) dX11_holds_65 (by decide) ?_
        have zl := rtN_le φ N 0 (upd σ 13 (nI k))
        rw [hdN_s, if_pos ((nI_ltI (by omega) (by omega)).mp zc53)]
        exact ih (k + 1) _ _ W (by omega)
      · skip
        refine xr_il4 dX11_holds_56 ?_
        refine xr_is2 dX11_holds_58 (by decide) rfl ?_
        refine xr_inc3 dX11_holds_59 (show s + Int32.ofInt (1) = s + 1 from rfl) (by decide) rfl ?_
        refine xr_inc4 dX11_holds_62 (nI_inc k) (by decide) rfl ?_
        refine xr_goto (tgt := 20) dX11_holds_65 (by decide) ?_
        have zl := rtN_le φ N 0 (upd σ 13 (nI k))
        rw [hdN_s, if_neg (fun q => zc53 (nI_lt q (by omega)))]
        exact ih (k + 1) _ _ W (by omega)
set_option maxRecDepth 20000 in
theorem s_holds {K : xK} {B : Nat} {l : Launch} {h0 h : xH} {X D : Nat} {tn : Nat} {tf : Nat → Int32} {rk : Int32} {rv : Nat → Int64} {σ : xs} {β : xs} {γ : xs} {pn : Nat} {τ : Nat → xs} {ks : Nat → Bool} {κ : Nat → xs} {φ : xs → Int32} {hn : Nat} {hf : Nat → Int32} {hg : Nat → Int32} {wn : Nat} {wf : Nat → Int32} {wg : Nat → Int32} (W : xCw K h0 h X D tn tf rk rv σ β γ pn τ ks κ φ hn hf hg wn wf wg) (x : Int32) : xV K B l 5 mX11_holds 0 0 (X) [.int x] h (xPi (fun zr g => zr = (hdR φ σ rk rv x).1 ∧ ∃ γ', xCw K h0 g X D tn tf ((hdR φ σ rk rv x).2.1) ((hdR φ σ rk rv x).2.2) σ β (γ') pn τ ks κ φ hn hf hg wn wf wg)) := by
  refine ⟨⟨_, _, _, _, W.oX, rfl⟩, qX11_holds, ?_⟩
  refine xS.intro RX11 false ⟨rfl, rfl, by decide, by decide, Nat.le_of_ble_eq_true rfl⟩ (ls := [some (.ref X), some (.int x), none, none, none]) rfl ?_
  refine xr_il1 dX11_holds_0 ?_
  refine xr_iflt (tgt := 10) dX11_holds_1 (by decide) (fun zc1 => ?_) (fun zc1 => ?_)
  · skip
    refine xr_icm1 dX11_holds_10 ?_
    refine xr_iret dX11_holds_11 rfl ?_
    have e : (hdR φ σ rk rv x) = _ := if_pos (Or.inl zc1)
    rw [e]
    exact ⟨_, rfl, rfl, _, W⟩
  · skip
    refine xr_il1 dX11_holds_4 ?_
    refine xr_bipush (v := 60) dX11_holds_5 (by decide) ?_
    refine xr_icmple (tgt := 12) dX11_holds_7 (by decide) (fun zc7 => ?_) (fun zc7 => ?_)
    · skip
      refine xr_bipush (v := (-2)) dX11_holds_12 (by decide) ?_
      refine xr_is2 dX11_holds_14 (by decide) rfl ?_
      refine xr_ic0 dX11_holds_15 ?_
      refine xr_is3 dX11_holds_16 (by decide) rfl ?_
      refine xr_ic0 dX11_holds_17 ?_
      refine xr_is4 dX11_holds_18 (by decide) rfl ?_
      rcases pk_ix x (n := 61) (by decide) with z | z | ⟨N, hN, rfl⟩
      · exact absurd z zc1
      · exact absurd (Int32.le_trans z zc7) (by decide)
      · have e : (hdR φ σ rk rv (nI N)) = _ := if_neg (fun q => q.elim zc1 (Int32.not_lt.mpr zc7))
        rw [nI_clamp (by omega)] at e
        rw [e]
        exact lp_holds N (by omega) 10 0 (-2) 0 W (by omega)
    · skip
      refine xr_icm1 dX11_holds_10 ?_
      refine xr_iret dX11_holds_11 rfl ?_
      have e : (hdR φ σ rk rv x) = _ := if_pos (Or.inr (Int32.not_le.mp zc7))
      rw [e]
      exact ⟨_, rfl, rfl, _, W⟩
def soN (φ : xs → Int32) (σ : xs) (v : Int32) : Int32 := nI (rtN φ 99 0 (upd σ 12 v)).1
set_option maxRecDepth 20000 in
theorem s_minBySeats {K : xK} {B : Nat} {l : Launch} {h0 h : xH} {X D : Nat} {tn : Nat} {tf : Nat → Int32} {rk : Int32} {rv : Nat → Int64} {σ : xs} {β : xs} {γ : xs} {pn : Nat} {τ : Nat → xs} {ks : Nat → Bool} {κ : Nat → xs} {φ : xs → Int32} {hn : Nat} {hf : Nat → Int32} {hg : Nat → Int32} {wn : Nat} {wf : Nat → Int32} {wg : Nat → Int32} (W : xCw K h0 h X D tn tf rk rv σ β γ pn τ ks κ φ hn hf hg wn wf wg) {v : Int32} (h1 : ¬ v < 1) (h2 : v ≤ 3) : xV K B l 5 mX11_minutesBySeats 0 0 (X) [.int v] h (xPi (fun r g => r = soN φ σ v ∧ ∃ γ', xCw K h0 g X D tn tf rk rv σ β (γ') pn τ ks κ φ hn hf hg wn wf wg)) := by
  refine ⟨⟨_, _, _, _, W.oX, rfl⟩, qX11_minutesBySeats, ?_⟩
  refine xS.intro RX11 false ⟨rfl, rfl, by decide, by decide, Nat.le_of_ble_eq_true rfl⟩ (ls := [some (.ref X), some (.int v)]) rfl ?_
  refine xr_al0 dX11_minutesBySeats_0 ?_
  refine xr_get W.oX fX11_33 rfl dX11_minutesBySeats_1 ?_
  refine xr_al0 dX11_minutesBySeats_4 ?_
  refine xr_get W.oX fX11_26 rfl dX11_minutesBySeats_5 ?_
  refine xr_Vv1 (s_copyFrom W.Hq W.Hh (by omega)) kX11_179 (by decide) (Nat.le_of_ble_eq_true rfl) (Nat.zero_add _) (Nat.zero_add _) dX11_minutesBySeats_8 ?_
  refine xT.nm (fun zh1 zg1 => ?_)
  have okt := W.pok
  have W := W.uq (fBH zg1)
  refine xr_al0 dX11_minutesBySeats_11 ?_
  refine xr_get W.oX fX11_33 rfl dX11_minutesBySeats_12 ?_
  refine xr_il1 dX11_minutesBySeats_15 ?_
  refine xr_put W.Hq.1 fX11_256 (Nat.le_of_ble_eq_true rfl) rfl rfl dX11_minutesBySeats_16 ?_
  refine xT.nm (fun zh2 zg2 => ?_)
  rw [zg2]
  refine xT.equiv (hill_f W.Hq (i := 12) (by decide) v rfl) ?_
  refine xT.nm (fun zk1 zw1 => ?_)
  have okt := hOk_seats okt h1 h2
  have W := W.uq (fBH zw1)
  refine xr_al0 dX11_minutesBySeats_19 ?_
  refine xr_bipush (v := 99) dX11_minutesBySeats_20 (by decide) ?_
  refine xr_Vpi1 (s_runTill W okt (N := 99) (by decide)) kX11_296 (by decide) (Nat.le_of_ble_eq_true rfl) (Nat.zero_add _) (Nat.zero_add _) dX11_minutesBySeats_22 (fun zv22 zh3 zq3 => ?_)
  obtain ⟨rfl, W⟩ := zq3
  refine xr_iret dX11_minutesBySeats_25 rfl ?_
  exact ⟨_, rfl, rfl, _, W⟩
def soR (φ : xs → Int32) (σ : xs) (rk : Int32) (rv : Nat → Int64) : AR := if σ 10 + σ 11 = 0 then (-3, rk, rv) else if iMin (soN φ σ 1) (iMin (soN φ σ 2) (soN φ σ 3)) ≤ 99 then (if iMin (soN φ σ 1) (iMin (soN φ σ 2) (soN φ σ 3)) = soN φ σ 1 then 1 else if iMin (soN φ σ 1) (iMin (soN φ σ 2) (soN φ σ 3)) = soN φ σ 2 then 2 else 3, 3, tl3 rv (soN φ σ 1) (soN φ σ 2) (soN φ σ 3)) else (-2, rk, rv)
set_option maxRecDepth 20000 in
theorem s_soonest {K : xK} {B : Nat} {l : Launch} {h0 h : xH} {X D : Nat} {tn : Nat} {tf : Nat → Int32} {rk : Int32} {rv : Nat → Int64} {σ : xs} {β : xs} {γ : xs} {pn : Nat} {τ : Nat → xs} {ks : Nat → Bool} {κ : Nat → xs} {φ : xs → Int32} {hn : Nat} {hf : Nat → Int32} {hg : Nat → Int32} {wn : Nat} {wf : Nat → Int32} {wg : Nat → Int32} (W : xCw K h0 h X D tn tf rk rv σ β γ pn τ ks κ φ hn hf hg wn wf wg) : xV K B l 6 mX11_soonest 0 0 (X) [] h (xPi (fun zr g => zr = (soR φ σ rk rv).1 ∧ ∃ γ', xCw K h0 g X D tn tf ((soR φ σ rk rv).2.1) ((soR φ σ rk rv).2.2) σ β (γ') pn τ ks κ φ hn hf hg wn wf wg)) := by
  refine ⟨⟨_, _, _, _, W.oX, rfl⟩, qX11_soonest, ?_⟩
  refine xS.intro RX11 false ⟨rfl, rfl, by decide, by decide, Nat.le_of_ble_eq_true rfl⟩ (ls := [some (.ref X), none, none, none, none]) rfl ?_
  refine xr_al0 dX11_soonest_0 ?_
  refine xr_get W.oX fX11_26 rfl dX11_soonest_1 ?_
  refine xr_Vi0 (s_nobodyWaits W.Hh) kX11_245 (by decide) (Nat.le_of_ble_eq_true rfl) (Nat.zero_add _) (Nat.zero_add _) dX11_soonest_4 ?_
  refine xr_ifeq (tgt := 13) dX11_soonest_7 (by decide) (fun zc7 => ?_) (fun zc7 => ?_)
  · skip
    refine xr_al0 dX11_soonest_13 ?_
    refine xr_ic1 dX11_soonest_14 ?_
    refine xr_Vpi1 (s_minBySeats W (by decide) (by decide)) kX11_311 (by decide) (Nat.le_of_ble_eq_true rfl) (Nat.zero_add _) (Nat.zero_add _) dX11_soonest_15 (fun zv15 zh1 zq1 => ?_)
    obtain ⟨rfl, _, W⟩ := zq1
    refine xr_is1 dX11_soonest_18 (by decide) rfl ?_
    refine xr_al0 dX11_soonest_19 ?_
    refine xr_ic2 dX11_soonest_20 ?_
    refine xr_Vpi1 (s_minBySeats W (by decide) (by decide)) kX11_311 (by decide) (Nat.le_of_ble_eq_true rfl) (Nat.zero_add _) (Nat.zero_add _) dX11_soonest_21 (fun zv21 zh2 zq2 => ?_)
    obtain ⟨rfl, _, W⟩ := zq2
    refine xr_is2 dX11_soonest_24 (by decide) rfl ?_
    refine xr_al0 dX11_soonest_25 ?_
    refine xr_ic3 dX11_soonest_26 ?_
    refine xr_Vpi1 (s_minBySeats W (by decide) (by decide)) kX11_311 (by decide) (Nat.le_of_ble_eq_true rfl) (Nat.zero_add _) (Nat.zero_add _) dX11_soonest_27 (fun zv27 zh3 zq3 => ?_)
    obtain ⟨rfl, _, W⟩ := zq3
    refine xr_is3 dX11_soonest_30 (by decide) rfl ?_
    refine xr_il1 dX11_soonest_31 ?_
    refine xr_il2 dX11_soonest_32 ?_
    refine xr_il3 dX11_soonest_33 ?_
    refine xr_min kmX11_171 ms_min wz_J9 mc_min (by decide) (Nat.le_of_ble_eq_true rfl) dX11_soonest_34 ?_
    refine xr_min kmX11_171 ms_min wz_J9 mc_min (by decide) (Nat.le_of_ble_eq_true rfl) dX11_soonest_37 ?_
    refine xr_eqi (y := iMin (soN φ σ 1) (iMin (soN φ σ 2) (soN φ σ 3))) rfl ?_
    refine xr_is4 dX11_soonest_40 (by decide) rfl ?_
    refine xr_il4 dX11_soonest_42 ?_
    refine xr_bipush (v := 99) dX11_soonest_44 (by decide) ?_
    refine xr_icmple (tgt := 52) dX11_soonest_46 (by decide) (fun zc46 => ?_) (fun zc46 => ?_)
    · skip
      refine xr_al0 dX11_soonest_52 ?_
      refine xr_get W.oX fX11_19 rfl dX11_soonest_53 ?_
      refine xr_il1 dX11_soonest_56 ?_
      refine xr_i2l dX11_soonest_57 ?_
      refine xr_il2 dX11_soonest_58 ?_
      refine xr_i2l dX11_soonest_59 ?_
      refine xr_il3 dX11_soonest_60 ?_
      refine xr_i2l dX11_soonest_61 ?_
      refine xr_Vv3 (s_tell3 W.Hr _ _ _) kX11_314 (by decide) (Nat.le_of_ble_eq_true rfl) (Nat.zero_add _) (Nat.zero_add _) dX11_soonest_62 ?_
      refine xT.nm (fun zh4 zg4 => ?_)
      have W := W.ur (fB2 zg4)
      refine xr_il4 dX11_soonest_65 ?_
      refine xr_il1 dX11_soonest_67 ?_
      refine xr_icmpne (tgt := 73) dX11_soonest_68 (by decide) (fun zc68 => ?_) (fun zc68 => ?_)
      · skip
        refine xr_il4 dX11_soonest_73 ?_
        refine xr_il2 dX11_soonest_75 ?_
        refine xr_icmpne (tgt := 83) dX11_soonest_76 (by decide) (fun zc76 => ?_) (fun zc76 => ?_)
        · skip
          refine xr_ic3 dX11_soonest_83 ?_
          refine xr_iret dX11_soonest_84 rfl ?_
          have e : (soR φ σ rk rv) = _ := (if_neg (bI_0.mp zc7)).trans (if_pos zc46)
          rw [if_neg zc68, if_neg zc76] at e
          rw [e]
          exact ⟨_, rfl, rfl, _, W⟩
        · skip
          refine xr_ic2 dX11_soonest_79 ?_
          refine xr_goto (tgt := 84) dX11_soonest_80 (by decide) ?_
          refine xr_iret dX11_soonest_84 rfl ?_
          have e : (soR φ σ rk rv) = _ := (if_neg (bI_0.mp zc7)).trans (if_pos zc46)
          rw [if_neg zc68, if_pos zc76] at e
          rw [e]
          exact ⟨_, rfl, rfl, _, W⟩
      · skip
        refine xr_ic1 dX11_soonest_71 ?_
        refine xr_iret dX11_soonest_72 rfl ?_
        have e : (soR φ σ rk rv) = _ := (if_neg (bI_0.mp zc7)).trans (if_pos zc46)
        rw [if_pos zc68] at e
        rw [e]
        exact ⟨_, rfl, rfl, _, W⟩
    · skip
      refine xr_bipush (v := (-2)) dX11_soonest_49 (by decide) ?_
      refine xr_iret dX11_soonest_51 rfl ?_
      have e : (soR φ σ rk rv) = _ := (if_neg (bI_0.mp zc7)).trans (if_neg zc46)
      rw [e]
      exact ⟨_, rfl, rfl, _, W⟩
  · skip
    refine xr_bipush (v := (-3)) dX11_soonest_10 (by decide) ?_
    refine xr_iret dX11_soonest_12 rfl ?_
    have e : (soR φ σ rk rv) = _ := if_pos (Decidable.not_not.mp (fun q => zc7 (bI_0.mpr q)))
    rw [e]
    exact ⟨_, rfl, rfl, _, W⟩
