theorem xh_ne {K : xK} {g h : xH} {a b : Nat} {σ : xs} (hg : g = xpH K h a σ) {v : Option va_E} (n : b + 1 ≤ a ∨ a + 3 ≤ b) (hb : h.2 b = v) : g.2 b = v := by
  rw [hg, xpH_ne K h σ (by omega) (by omega) (by omega)]
  exact hb
theorem xh_eq {K : xK} {g h : xH} {a : Nat} {σ : xs} (hg : g = xpH K h a σ) : g.2 a = some (hO a σ) := by
  rw [hg]
  exact (xpH_at K h a σ).1
theorem x2_ne {g h : xH} {a b : Nat} {o e : va_E} (hg : g = P2 h a o e) {v : Option va_E} (n : b + 1 ≤ a ∨ a + 2 ≤ b) (hb : h.2 b = v) : g.2 b = v := by
  rw [hg, P2_ne _ _ _ (by omega) (by omega)]
  exact hb
theorem x3_ne {g h : xH} {a b : Nat} {o e f : va_E} (hg : g = P3 h a o e f) {v : Option va_E} (n : b + 1 ≤ a ∨ a + 3 ≤ b) (hb : h.2 b = v) : g.2 b = v := by
  rw [hg, P3_ne _ _ _ _ (by omega) (by omega) (by omega)]
  exact hb
theorem x2_at {g h : xH} {a : Nat} {o e : va_E} (hg : g = P2 h a o e) : X2 g a o e := hg ▸ P2_at h a o e
theorem x3_at {g h : xH} {a : Nat} {o e f : va_E} (hg : g = P3 h a o e f) : X3 g a o e f := hg ▸ P3_at h a o e f
theorem xh_at {K : xK} {g h : xH} {a : Nat} {σ : xs} (hg : g = xpH K h a σ) : xHill K g a σ := hg ▸ xpH_at K h a σ
section XV
variable {K : xK} {B : Nat} {l : Launch} {F : Nat} {own : String} {ini : Bool} {cc : ByteArray} {nL : Nat} {ret : Option FieldType} {mc ms rc rs : Nat} {Q : Option Value → xH → Prop} {pc : Nat} {ls : List (Option Value)} {st : List Value} {h : xH}
theorem xr_eqv {v w : Value} (e : v = w) (k : xT K B l F own ini cc nL ret mc ms rc rs Q pc ls (w :: st) h) : xT K B l F own ini cc nL ret mc ms rc rs Q pc ls (v :: st) h := e ▸ k
end XV
def pf (p : Nat → Nat) (m : Nat) : Nat → Option Nat := fun i => if i < m then some (p i) else none
theorem pf_t (p : Nat → Nat) {m i : Nat} (h : i < m) : va_rf (pf p m i) = .ref (p i) := by unfold pf; rw [if_pos h]; rfl
theorem pf_n (p : Nat → Nat) {m i : Nat} (h : ¬ i < m) : va_rf (pf p m i) = .null := by unfold pf; rw [if_neg h]; rfl
theorem pf_same (p : Nat → Nat) {m i : Nat} (h : i < m) : va_up (pf p m) i (some (p i)) = pf p m := by
  funext j
  by_cases e : j = i
  · subst e
    rw [va_up_self]; unfold pf; rw [if_pos h]
  · rw [va_up_ne _ _ e]
def pu (p : Nat → Nat) (m x : Nat) : Nat → Nat := fun j => if j = m then x else p j
theorem pf_more (p : Nat → Nat) (m x : Nat) : va_up (pf p m) m (some x) = pf (pu p m x) (m + 1) := by
  funext j
  by_cases e : j = m
  · subst e
    rw [va_up_self]; unfold pf pu; rw [if_pos (by omega), if_pos rfl]
  · rw [va_up_ne _ _ e]
    unfold pf pu
    by_cases h : j < m
    · rw [if_pos h, if_pos (by omega), if_neg e]
    · rw [if_neg h, if_neg (by omega)]
def xPast (K : xK) (h : xH) (a D n m : Nat) (p : Nat → Nat) (τ : Nat → xs) : Prop := X2 h a (paO a (nI n)) (rA K 12 (pf p m)) ∧ n ≤ m ∧ m ≤ 12 ∧ a + 2 ≤ D ∧ (∀ i, i < m → xHill K h (p i) (τ i)) ∧ (∀ i j, i < m → j < m → i ≠ j → p i + 3 ≤ p j ∨ p j + 3 ≤ p i) ∧ (∀ i, i < m → D ≤ p i ∧ p i + 3 ≤ h.1)
def xFrP (h g : xH) (a m : Nat) (p : Nat → Nat) (m' : Nat) (p' : Nat → Nat) : Prop := h.1 ≤ g.1 ∧ (∀ i, i < m' → (∃ j, j < m ∧ p' i = p j) ∨ h.1 ≤ p' i) ∧ (∀ c, c < h.1 → c ≠ a → c ≠ a + 1 → (∀ i, i < m → c < p i ∨ p i + 3 ≤ c) → g.2 c = h.2 c)
def psn (n : Nat) : Nat := if n < 12 then n + 1 else 12
def psh (n : Nat) (τ : Nat → xs) (σ : xs) : Nat → xs := fun i => if n < 12 then (if i = n then σ else τ i) else if i = 11 then σ else τ (i + 1)
def xRem (K : xK) (h g : xH) (a D n m : Nat) (p : Nat → Nat) (τ : Nat → xs) (σ : xs) : Prop := ∃ m' p' τ', xPast K g a D (psn n) m' p' τ' ∧ (∀ i, i < psn n → τ' i = psh n τ σ i) ∧ xFrP h g a m p m' p'
set_option maxRecDepth 20000 in
theorem s_paSize {K : xK} {B : Nat} {l : Launch} {h : xH} {a : Nat} {D n m : Nat} {p : Nat → Nat} {τ : Nat → xs} (P : xPast K h a D n m p τ) : xV K B l 0 mX5_size 0 0 (a) [] h (xQi (nI n) h) := by
  obtain ⟨⟨o0, o1⟩, hnm, hm, had, hh, hap, hlo⟩ := id P
  refine ⟨⟨_, _, _, _, P.1.1, rfl⟩, qX5_size, ?_⟩
  refine xS.intro RX5 false ⟨rfl, rfl, by decide, by decide, Nat.le_of_ble_eq_true rfl⟩ (ls := [some (.ref a)]) rfl ?_
  refine xr_al0 dX5_size_0 ?_
  refine xr_get o0 fX5_15 rfl dX5_size_1 ?_
  refine xr_iret dX5_size_4 rfl ?_
  exact ⟨rfl, rfl⟩
set_option maxRecDepth 20000 in
theorem s_paForget {K : xK} {B : Nat} {l : Launch} {h : xH} {a : Nat} {D n m : Nat} {p : Nat → Nat} {τ : Nat → xs} (P : xPast K h a D n m p τ) : xV K B l 0 mX5_forgetAll 0 0 (a) [] h (xQv (xup h a (paO a 0))) := by
  obtain ⟨⟨o0, o1⟩, hnm, hm, had, hh, hap, hlo⟩ := id P
  refine ⟨⟨_, _, _, _, P.1.1, rfl⟩, qX5_forgetAll, ?_⟩
  refine xS.intro RX5 false ⟨rfl, rfl, by decide, by decide, Nat.le_of_ble_eq_true rfl⟩ (ls := [some (.ref a)]) rfl ?_
  refine xr_al0 dX5_forgetAll_0 ?_
  refine xr_ic0 dX5_forgetAll_1 ?_
  refine xr_put o0 fX5_15 (Nat.le_of_ble_eq_true rfl) rfl rfl dX5_forgetAll_2 ?_
  refine xT.nm (fun zh1 zg1 => ?_)
  have o0 := xg_eq zg1
  have o1 := xg_ne zg1 (by omega) o1
  refine xr_vret dX5_forgetAll_5 rfl ?_
  exact ⟨rfl, zg1⟩
def pr (p : Nat → Nat) : Nat → Nat := fun i => if i < 11 then p (i + 1) else p 0
def prk (p : Nat → Nat) (k : Nat) : Nat → Option Nat := fun j => if j + 1 < k then some (p (j + 1)) else pf p 12 j
theorem prk_1 (p : Nat → Nat) : prk p 1 = pf p 12 := by
  funext j
  unfold prk
  rw [if_neg (by omega)]
theorem prk_s (p : Nat → Nat) {k : Nat} (h : 1 ≤ k) (h' : k < 12) : va_up (prk p k) (k - 1) (some (p k)) = prk p (k + 1) := by
  funext j
  by_cases e : j = k - 1
  · subst e
    rw [va_up_self]; unfold prk; rw [if_pos (by omega)]
    congr 2; omega
  · rw [va_up_ne _ _ e]
    unfold prk
    by_cases q : j + 1 < k
    · rw [if_pos q, if_pos (by omega)]
    · rw [if_neg q, if_neg (by omega)]
theorem prk_at (p : Nat → Nat) {k : Nat} (h : 1 ≤ k) (h' : k < 12) : va_rf (prk p k k) = .ref (p k) := by
  unfold prk
  rw [if_neg (by omega)]
  exact pf_t p h'
theorem prk_e (p : Nat → Nat) : va_up (prk p 12) 11 (some (p 0)) = pf (pr p) 12 := by
  funext j
  by_cases e : j = 11
  · subst e
    rw [va_up_self]; rfl
  · rw [va_up_ne _ _ e]
    unfold prk pf pr
    by_cases q : j < 11
    · rw [if_pos (by omega), if_pos (by omega), if_pos q]
    · rw [if_neg (by omega), if_neg (by omega), if_neg (by omega)]
set_option maxRecDepth 20000 in
theorem lp_dropOldest {K : xK} {B : Nat} {l : Launch} {h : xH} {a : Nat} {D n : Nat} {p : Nat → Nat} {τ : Nat → xs} (P : xPast K h a D n 12 p τ) : ∀ (r k : Nat), 1 ≤ k → k + r = 12 → xT K B l 0 RX5 false cX5_dropOldest 3 none 0 0 0 0 (xQv (P2 h a (paO a 11) (rA K 12 (pf (pr p) 12)))) 9 [some (.ref a), some (.ref (p 0)), some (.int (nI k))] [] (P2 h a (paO a (nI n)) (rA K 12 (prk p k))) := by
  obtain ⟨⟨o0, o1⟩, hnm, hm, had, hh, hap, hlo⟩ := id P
  intro r
  induction r with
  | zero =>
    intro k h1 hk
    have hk' : k = 12 := hk
    obtain ⟨o0, o1⟩ := P2_at h a (paO a (nI n)) (rA K 12 (prk p k))
    have q0 := (P2_ne h (paO a (nI n)) (rA K 12 (prk p k)) (a := a) (b := p 0) (by have := hlo 0 (by omega); omega) (by have := hlo 0 (by omega); omega)).trans (hh 0 (by omega)).1
    have z0 := hlo 0 (by omega)
    refine xr_il2 dX5_dropOldest_9 ?_
    refine xr_bipush (v := 12) dX5_dropOldest_10 (by decide) ?_
    refine xr_icmpge (tgt := 35) dX5_dropOldest_12 (by decide) (fun zc12 => ?_) (fun zc12 => ?_)
    · skip
      refine xr_al0 dX5_dropOldest_35 ?_
      refine xr_get o0 fX5_11 rfl dX5_dropOldest_36 ?_
      refine xr_bipush (v := 11) dX5_dropOldest_39 (by decide) ?_
      refine xr_al1 dX5_dropOldest_41 ?_
      refine xr_aast o1 q0 (xix_lit (j := 11) (by decide)) dX5_dropOldest_42 ?_
      refine xT.nm (fun zh1 zg1 => ?_)
      have o0 := xg_ne zg1 (by omega) o0
      have o1 := xg_eq zg1
      have q0 := xg_ne zg1 (by omega) q0
      refine xr_al0 dX5_dropOldest_43 ?_
      refine xr_bipush (v := 11) dX5_dropOldest_44 (by decide) ?_
      refine xr_put o0 fX5_15 (Nat.le_of_ble_eq_true rfl) rfl rfl dX5_dropOldest_46 ?_
      refine xT.nm (fun zh2 zg2 => ?_)
      have o0 := xg_eq zg2
      have o1 := xg_ne zg2 (by omega) o1
      have q0 := xg_ne zg2 (by omega) q0
      refine xr_vret dX5_dropOldest_49 rfl ?_
      exact ⟨rfl, by rw [zg2, zg1, hk', P2_e (P2_at _ _ _ _), P2_P2, P2_o (P2_at _ _ _ _), P2_P2, prk_e]; rfl⟩
    · skip
      exact absurd (nI_le (a := 12) (by omega) (by omega)) zc12
  | succ r ih =>
    intro k h1 hk
    have hk5 : k < 12 := by omega
    obtain ⟨o0, o1⟩ := P2_at h a (paO a (nI n)) (rA K 12 (prk p k))
    have z0 := hlo k (by omega)
    have q0 := (P2_ne h (paO a (nI n)) (rA K 12 (prk p k)) (a := a) (b := p k) (by omega) (by omega)).trans (hh k (by omega)).1
    refine xr_il2 dX5_dropOldest_9 ?_
    refine xr_bipush (v := 12) dX5_dropOldest_10 (by decide) ?_
    refine xr_icmpge (tgt := 35) dX5_dropOldest_12 (by decide) (fun zc12 => ?_) (fun zc12 => ?_)
    · skip
      exact absurd zc12 (nI_ge (b := 12) (by omega) (by decide))
    · skip
      refine xr_al0 dX5_dropOldest_15 ?_
      refine xr_get o0 fX5_11 rfl dX5_dropOldest_16 ?_
      refine xr_il2 dX5_dropOldest_19 ?_
      refine xr_ic1 dX5_dropOldest_20 ?_
      refine xr_isub dX5_dropOldest_21 ?_
      refine xr_eqi (y := nI (k - 1)) (nI_sub (a := k) (b := 1) h1) ?_
      refine xr_al0 dX5_dropOldest_22 ?_
      refine xr_get o0 fX5_11 rfl dX5_dropOldest_23 ?_
      refine xr_il2 dX5_dropOldest_26 ?_
      refine xr_aald o1 (xix_nI hk5 (by decide)) dX5_dropOldest_27 ?_
      refine xr_eqv (prk_at p h1 hk5) ?_
      refine xr_aast o1 q0 (xix_nI (n := 12) (j := k - 1) (by omega) (by decide)) dX5_dropOldest_28 ?_
      refine xT.nm (fun zh1 zg1 => ?_)
      have o0 := xg_ne zg1 (by omega) o0
      have o1 := xg_eq zg1
      have q0 := xg_ne zg1 (by omega) q0
      refine xr_inc2 dX5_dropOldest_29 (nI_inc k) (by decide) rfl ?_
      refine xr_goto (tgt := 9) dX5_dropOldest_32 (by decide) ?_
      rw [zg1, P2_e (P2_at _ _ _ _), P2_P2, prk_s p h1 hk5]
      exact ih (k + 1) (by omega) (by omega)
set_option maxRecDepth 20000 in
theorem s_dropOldest {K : xK} {B : Nat} {l : Launch} {h : xH} {a : Nat} {D n : Nat} {p : Nat → Nat} {τ : Nat → xs} (P : xPast K h a D n 12 p τ) : xV K B l 0 mX5_dropOldest 0 0 (a) [] h (xQv (P2 h a (paO a 11) (rA K 12 (pf (pr p) 12)))) := by
  obtain ⟨⟨o0, o1⟩, hnm, hm, had, hh, hap, hlo⟩ := id P
  refine ⟨⟨_, _, _, _, P.1.1, rfl⟩, qX5_dropOldest, ?_⟩
  refine xS.intro RX5 false ⟨rfl, rfl, by decide, by decide, Nat.le_of_ble_eq_true rfl⟩ (ls := [some (.ref a), none, none]) rfl ?_
  refine xr_al0 dX5_dropOldest_0 ?_
  refine xr_get o0 fX5_11 rfl dX5_dropOldest_1 ?_
  refine xr_ic0 dX5_dropOldest_4 ?_
  refine xr_aald o1 (xix_lit (j := 0) (by decide)) dX5_dropOldest_5 ?_
  refine xr_eqv (pf_t p (m := 12) (i := 0) (by decide)) ?_
  refine xr_as1 dX5_dropOldest_6 (by decide) rfl ?_
  refine xr_ic1 dX5_dropOldest_7 ?_
  refine xr_is2 dX5_dropOldest_8 (by decide) rfl ?_
  have hi := lp_dropOldest (B := B) (l := l) P 11 1 (by omega) rfl
  rw [prk_1, P2_id ⟨o0, o1⟩] at hi
  exact hi
set_option maxRecDepth 20000 in
theorem s_bringPast {K : xK} {B : Nat} {l : Launch} {h : xH} {a : Nat} {D n m : Nat} {p : Nat → Nat} {τ : Nat → xs} (P : xPast K h a D n m p τ) {w : Nat} {σ : xs} (G : xHill K h w σ) (dj : w + 3 ≤ D) (dw : w + 3 ≤ a ∨ a + 2 ≤ w) : xV K B l 2 mX5_bringBack 0 0 (a) [.ref w] h (xQi (bI (0 < n)) (if 0 < n then xpH K (xup h a (paO a (nI (n - 1)))) w (τ (n - 1)) else h)) := by
  obtain ⟨⟨o0, o1⟩, hnm, hm, had, hh, hap, hlo⟩ := id P
  have q0 := G.1
  refine ⟨⟨_, _, _, _, P.1.1, rfl⟩, qX5_bringBack, ?_⟩
  refine xS.intro RX5 false ⟨rfl, rfl, by decide, by decide, Nat.le_of_ble_eq_true rfl⟩ (ls := [some (.ref a), some (.ref w)]) rfl ?_
  refine xr_al0 dX5_bringBack_0 ?_
  refine xr_get o0 fX5_15 rfl dX5_bringBack_1 ?_
  refine xr_ifle (tgt := 30) dX5_bringBack_4 (by decide) (fun zc4 => ?_) (fun zc4 => ?_)
  · skip
    refine xr_ic0 dX5_bringBack_30 ?_
    refine xr_zret dX5_bringBack_31 rfl (by first | rfl | decide | assumption) ?_
    have n0 : ¬ 0 < n := fun q => absurd zc4 (Int32.not_le.mpr (nI_lt (a := 0) q (by omega)))
    exact ⟨by rw [bI_f n0], by rw [if_neg n0]⟩
  · skip
    have n0 : 0 < n := (nI_ltI (a := 0) (by decide) (by omega)).mp (Int32.not_le.mp zc4)
    refine xr_al0 dX5_bringBack_7 ?_
    refine xr_get o0 fX5_15 rfl dX5_bringBack_8 ?_
    refine xr_bipush (v := 12) dX5_bringBack_11 (by decide) ?_
    refine xr_icmpgt (tgt := 30) dX5_bringBack_13 (by decide) (fun zc13 => ?_) (fun zc13 => ?_)
    · skip
      exact absurd zc13 (Int32.not_lt.mpr (nI_le (b := 12) (by omega) (by decide)))
    · skip
      refine xr_al0 dX5_bringBack_16 ?_
      refine xr_get o0 fX5_11 rfl dX5_bringBack_17 ?_
      refine xr_al0 dX5_bringBack_20 ?_
      refine xr_get o0 fX5_15 rfl dX5_bringBack_21 ?_
      refine xr_ic1 dX5_bringBack_24 ?_
      refine xr_isub dX5_bringBack_25 ?_
      refine xr_eqi (y := nI (n - 1)) (nI_sub (a := n) (b := 1) (by omega)) ?_
      refine xr_aald o1 (xix_nI (n := 12) (j := n - 1) (by omega) (by decide)) dX5_bringBack_26 ?_
      refine xr_eqv (pf_t p (m := m) (i := n - 1) (by omega)) ?_
      refine xr_nonnull (tgt := 32) dX5_bringBack_27 (by decide) ?_
      refine xr_al0 dX5_bringBack_32 ?_
      refine xr_dup dX5_bringBack_33 rfl ?_
      refine xr_get o0 fX5_15 rfl dX5_bringBack_34 ?_
      refine xr_ic1 dX5_bringBack_37 ?_
      refine xr_isub dX5_bringBack_38 ?_
      refine xr_eqi (y := nI (n - 1)) (nI_sub (a := n) (b := 1) (by omega)) ?_
      refine xr_put o0 fX5_15 (Nat.le_of_ble_eq_true rfl) rfl rfl dX5_bringBack_39 ?_
      refine xT.nm (fun zh1 zg1 => ?_)
      have o0 := xg_eq zg1
      have o1 := xg_ne zg1 (by omega) o1
      have q0 := xg_ne zg1 (by omega) q0
      refine xr_al1 dX5_bringBack_42 ?_
      refine xr_al0 dX5_bringBack_43 ?_
      refine xr_get o0 fX5_11 rfl dX5_bringBack_44 ?_
      refine xr_al0 dX5_bringBack_47 ?_
      refine xr_get o0 fX5_15 rfl dX5_bringBack_48 ?_
      refine xr_aald o1 (xix_nI (n := 12) (j := n - 1) (by omega) (by decide)) dX5_bringBack_51 ?_
      refine xr_eqv (pf_t p (m := m) (i := n - 1) (by omega)) ?_
      have z0 := hlo (n - 1) (by omega)
      refine xr_Vv1 (s_copyFrom (τ := τ (n - 1)) (G.fr (fun c _ _ => by rw [zg1, xup_ne _ _ (by omega)])) ((hh (n - 1) (by omega)).fr (fun c _ _ => by rw [zg1, xup_ne _ _ (by omega)])) (by omega)) kX5_23 (by decide) (Nat.le_of_ble_eq_true rfl) (Nat.zero_add _) (Nat.zero_add _) dX5_bringBack_52 ?_
      refine xr_ic1 dX5_bringBack_55 ?_
      refine xr_zret dX5_bringBack_56 rfl (by first | rfl | decide | assumption) ?_
      exact ⟨by rw [bI_t n0], by rw [if_pos n0, zg1]; rfl⟩
theorem rem_old {K : xK} {h g : xH} {a D n m : Nat} {p : Nat → Nat} {τ : Nat → xs} {w : Nat} {σ : xs} (P : xPast K h a D n m p τ) (hn : n < 12) (h1 : n < m) (dj : w + 3 ≤ D) (hD : D ≤ h.1) (hg : g = xup (xup (xpH K h (p n) σ) (a + 1) (rA K 12 (pf p m))) a (paO a (nI (n + 1)))) : xRem K h g a D n m p τ σ := by
  obtain ⟨⟨o0, o1⟩, hnm, hm, had, hh, hap, hlo⟩ := id P
  have zn := hlo n h1
  have en : psn n = n + 1 := if_pos hn
  have gc : ∀ c, c ≠ a → c ≠ a + 1 → g.2 c = (xpH K h (p n) σ).2 c := fun c c0 c1 => by rw [hg, xup_ne _ _ c0, xup_ne _ _ c1]
  refine ⟨m, p, fun i => if i = n then σ else τ i, ⟨⟨by rw [hg, en]; exact xup_eq _ _ _, ?_⟩, by omega, hm, had, fun i hi => ?_, hap, fun i hi => ?_⟩, fun i hi => ?_, ?_, fun i hi => ?_, fun c hc c0 c1 hb => ?_⟩
  · rw [hg, xup_ne _ _ (by omega)]
    exact xup_eq _ _ _
  · have zi := hlo i hi
    show xHill K g (p i) (if i = n then σ else τ i)
    by_cases e : i = n
    · subst e
      rw [if_pos rfl]
      exact (xpH_at K h (p i) σ).fr (fun c _ _ => gc c (by omega) (by omega))
    · rw [if_neg e]
      have := hap i n hi h1 e
      exact (hh i hi).fr (fun c _ _ => by rw [gc c (by omega) (by omega), xpH_ne K h σ (by omega) (by omega) (by omega)])
  · rw [hg]
    exact hlo i hi
  · show (if i = n then σ else τ i) = psh n τ σ i
    unfold psh
    rw [if_pos hn]
  · rw [hg]
    exact Nat.le_refl _
  · exact Or.inl ⟨i, hi, rfl⟩
  · have := hb n h1
    rw [gc c c0 c1, xpH_ne K h σ (by omega) (by omega) (by omega)]
theorem rem_new {K : xK} {h h1 g : xH} {a D n m : Nat} {p : Nat → Nat} {τ : Nat → xs} {w : Nat} {σ : xs} (P : xPast K h a D n m p τ) (hn : n < 12) (hm1 : ¬ n < m) (dj : w + 3 ≤ D) (hD : D ≤ h.1) (hg : g = xup (xup (xpH K (h.1 + 3, h1.2) h.1 σ) (a + 1) (rA K 12 (pf (pu p n h.1) (n + 1)))) a (paO a (nI (n + 1)))) (e1 : h1.1 = h.1 + 1) (e2 : ∀ c, c ≠ h.1 → h1.2 c = h.2 c) : xRem K h g a D n m p τ σ := by
  obtain ⟨⟨o0, o1⟩, hnm, hm, had, hh, hap, hlo⟩ := id P
  have em : m = n := by omega
  subst em
  have en : psn m = m + 1 := if_pos hn
  have gc : ∀ c, c ≠ a → c ≠ a + 1 → g.2 c = (xpH K (h.1 + 3, h1.2) h.1 σ).2 c := fun c c0 c1 => by rw [hg, xup_ne _ _ c0, xup_ne _ _ c1]
  have gl : ∀ c, c < h.1 → c ≠ a → c ≠ a + 1 → g.2 c = h.2 c := fun c hc c0 c1 => by
    rw [gc c c0 c1, xpH_ne K _ σ (by omega) (by omega) (by omega)]
    exact e2 c (by omega)
  have g1 : g.1 = h.1 + 3 := by rw [hg]; rfl
  have pu_e : pu p m h.1 m = h.1 := if_pos rfl
  have pu_n : ∀ i, i < m → pu p m h.1 i = p i := fun i hi => if_neg (by omega)
  refine ⟨m + 1, pu p m h.1, fun i => if i = m then σ else τ i, ⟨⟨by rw [hg, en]; exact xup_eq _ _ _, ?_⟩, by omega, by omega, had, fun i hi => ?_, fun i j hi hj ij => ?_, fun i hi => ?_⟩, fun i hi => ?_, ?_, fun i hi => ?_, fun c hc c0 c1 hb => gl c hc c0 c1⟩
  · rw [hg, xup_ne _ _ (by omega)]
    exact xup_eq _ _ _
  · show xHill K g (pu p m h.1 i) (if i = m then σ else τ i)
    by_cases e : i = m
    · subst e
      rw [if_pos rfl, pu_e]
      exact (xpH_at K (h.1 + 3, h1.2) h.1 σ).fr (fun c _ _ => gc c (by omega) (by omega))
    · rw [if_neg e, pu_n i (by omega)]
      have zi := hlo i (by omega)
      exact (hh i (by omega)).fr (fun c _ _ => gl c (by omega) (by omega) (by omega))
  · by_cases e : i = m
    · subst e
      rw [pu_e, pu_n j (by omega)]
      have := hlo j (by omega)
      omega
    · by_cases e' : j = m
      · subst e'
        rw [pu_e, pu_n i (by omega)]
        have := hlo i (by omega)
        omega
      · rw [pu_n i (by omega), pu_n j (by omega)]
        exact hap i j (by omega) (by omega) ij
  · by_cases e : i = m
    · subst e
      rw [pu_e, g1]
      omega
    · rw [pu_n i (by omega), g1]
      have := hlo i (by omega)
      omega
  · show (if i = m then σ else τ i) = psh m τ σ i
    unfold psh
    rw [if_pos hn]
  · omega
  · by_cases e : i = m
    · subst e
      exact Or.inr (by rw [pu_e]; exact Nat.le_refl _)
    · exact Or.inl ⟨i, by omega, pu_n i (by omega)⟩
theorem rem_full {K : xK} {h h1 g : xH} {a D : Nat} {p : Nat → Nat} {τ : Nat → xs} {σ : xs} (e : h1 = P2 h a (paO a 11) (rA K 12 (pf (pr p) 12))) (hlo : ∀ i, i < 12 → D ≤ p i ∧ p i + 3 ≤ h.1) (R : xRem K h1 g a D 11 12 (pr p) (fun i => if i < 11 then τ (i + 1) else τ 0) σ) : xRem K h g a D 12 12 p τ σ := by
  obtain ⟨m', p', τ', P', ht, f1, f2, f3⟩ := R
  have e1 : h1.1 = h.1 := by rw [e]; rfl
  rw [e1] at f1 f2 f3
  refine ⟨m', p', τ', P', fun i hi => ?_, f1, fun i hi => ?_, fun c hc c0 c1 hb => ?_⟩
  · have hi' : i < 12 := hi
    rw [ht i hi]
    unfold psh
    rw [if_pos (by decide), if_neg (show ¬ 12 < 12 by decide)]
    by_cases q : i = 11
    · rw [if_pos q, if_pos q]
    · rw [if_neg q, if_neg q]
      exact if_pos (by omega)
  · rcases f2 i hi with ⟨j, hj, ej⟩ | q
    · refine Or.inl ?_
      unfold pr at ej
      by_cases q : j < 11
      · rw [if_pos q] at ej
        exact ⟨j + 1, by omega, ej⟩
      · rw [if_neg q] at ej
        exact ⟨0, by decide, ej⟩
    · exact Or.inr q
  · rw [f3 c hc c0 c1 (fun i hi => ?_), e, P2_ne _ _ _ c0 c1]
    unfold pr
    by_cases q : i < 11
    · rw [if_pos q]
      exact hb _ (by omega)
    · rw [if_neg q]
      exact hb 0 (by decide)
set_option maxRecDepth 20000 in
theorem lp_remember {K : xK} {B : Nat} {l : Launch} {h : xH} {a : Nat} {D n m : Nat} {p : Nat → Nat} {τ : Nat → xs} (P : xPast K h a D n m p τ) {w : Nat} {σ : xs} (G : xHill K h w σ) (dj : w + 3 ≤ D) (dw : w + 3 ≤ a ∨ a + 2 ≤ w) (hD : D ≤ h.1) (hn : n < 12) (y2 : Option Value) : xT K B l 3 RX5 false cX5_remember 3 none 3 21 3 21 (xPv (fun g => xRem K h g a D n m p τ σ)) 13 [some (.ref a), some (.ref w), y2] [] h := by
  obtain ⟨⟨o0, o1⟩, hnm, hm, had, hh, hap, hlo⟩ := id P
  have q0 := G.1
  by_cases h1 : n < m
  · have z0 := hlo n h1
    have q3 := (hh n h1).1
    refine xr_al0 dX5_remember_13 ?_
    refine xr_get o0 fX5_11 rfl dX5_remember_14 ?_
    refine xr_al0 dX5_remember_17 ?_
    refine xr_get o0 fX5_15 rfl dX5_remember_18 ?_
    refine xr_aald o1 (xix_nI (n := 12) hn (by decide)) dX5_remember_21 ?_
    refine xr_eqv (pf_t p h1) ?_
    refine xr_nonnull (tgt := 35) dX5_remember_22 (by decide) ?_
    refine xr_al0 dX5_remember_35 ?_
    refine xr_get o0 fX5_11 rfl dX5_remember_36 ?_
    refine xr_al0 dX5_remember_39 ?_
    refine xr_get o0 fX5_15 rfl dX5_remember_40 ?_
    refine xr_aald o1 (xix_nI (n := 12) hn (by decide)) dX5_remember_43 ?_
    refine xr_eqv (pf_t p h1) ?_
    refine xr_as2 dX5_remember_44 (by decide) rfl ?_
    refine xr_al2 dX5_remember_45 ?_
    refine xr_al1 dX5_remember_46 ?_
    refine xr_Vv1 (s_copyFrom (hh n h1) G (by omega)) kX5_23 (by decide) (Nat.le_of_ble_eq_true rfl) (Nat.zero_add _) (Nat.zero_add _) dX5_remember_47 ?_
    refine xT.nm (fun zh1 zg1 => ?_)
    have o0 := xh_ne zg1 (by omega) o0
    have o1 := xh_ne zg1 (by omega) o1
    have q0 := xh_ne zg1 (by omega) q0
    have q3 := xh_eq zg1
    refine xr_al0 dX5_remember_50 ?_
    refine xr_get o0 fX5_11 rfl dX5_remember_51 ?_
    refine xr_al0 dX5_remember_54 ?_
    refine xr_get o0 fX5_15 rfl dX5_remember_55 ?_
    refine xr_al2 dX5_remember_58 ?_
    refine xr_aast o1 q3 (xix_nI (n := 12) hn (by decide)) dX5_remember_59 ?_
    refine xT.nm (fun zh2 zg2 => ?_)
    have o0 := xg_ne zg2 (by omega) o0
    have o1 := xg_eq zg2
    have q0 := xg_ne zg2 (by omega) q0
    have q3 := xg_ne zg2 (by omega) q3
    refine xr_al0 dX5_remember_60 ?_
    refine xr_dup dX5_remember_61 rfl ?_
    refine xr_get o0 fX5_15 rfl dX5_remember_62 ?_
    refine xr_ic1 dX5_remember_65 ?_
    refine xr_iadd dX5_remember_66 ?_
    refine xr_eqi (nI_1 n) ?_
    refine xr_put o0 fX5_15 (Nat.le_of_ble_eq_true rfl) rfl rfl dX5_remember_67 ?_
    refine xT.nm (fun zh3 zg3 => ?_)
    have o0 := xg_eq zg3
    have o1 := xg_ne zg3 (by omega) o1
    have q0 := xg_ne zg3 (by omega) q0
    have q3 := xg_ne zg3 (by omega) q3
    refine xr_vret dX5_remember_70 rfl ?_
    exact ⟨rfl, rem_old P hn h1 dj hD (by rw [zg3, zg2, zg1, pf_same p h1]; rfl)⟩
  · skip
    refine xr_al0 dX5_remember_13 ?_
    refine xr_get o0 fX5_11 rfl dX5_remember_14 ?_
    refine xr_al0 dX5_remember_17 ?_
    refine xr_get o0 fX5_15 rfl dX5_remember_18 ?_
    refine xr_aald o1 (xix_nI (n := 12) hn (by decide)) dX5_remember_21 ?_
    refine xr_eqv (pf_n p h1) ?_
    refine xr_nonnullN dX5_remember_22 ?_
    refine xr_new (rc' := 2) (rs' := 12) (fs := [.null, .null, .int 0, .int 0, .int 0, .int 0, .int 0, .int 0, .int 0]) clX3 wX5_9 wi_X3 wz_X3 (def_X3) rfl rfl dX5_remember_25 ?_
    refine xT.nm (fun zh1 zg1 => ?_)
    have o0 := xn_ne zg1 (by omega) o0
    have o1 := xn_ne zg1 (by omega) o1
    have q0 := xn_ne zg1 (by omega) q0
    have q3 := xn_eq zg1
    refine xr_dup dX5_remember_28 rfl ?_
    refine xr_Iv0 (s_Hill (xn_1 zg1) q3) kX5_22 (by decide) (Nat.le_of_ble_eq_true rfl) (rc' := 0) (rs' := 0) rfl rfl dX5_remember_29 ?_
    refine xT.nm (fun zh2 zg2 => ?_)
    have o0 := xh_ne zg2 (by omega) o0
    have o1 := xh_ne zg2 (by omega) o1
    have q0 := xh_ne zg2 (by omega) q0
    have q3 := xh_eq zg2
    refine xr_goto (tgt := 44) dX5_remember_32 (by decide) ?_
    refine xr_as2 dX5_remember_44 (by decide) rfl ?_
    refine xr_al2 dX5_remember_45 ?_
    refine xr_al1 dX5_remember_46 ?_
    refine xr_Vv1 (s_copyFrom (zg2 ▸ xpH_at K (h.1 + 3, zh1.2) h.1 h0s) (G.fr (fun c _ _ => by rw [zg2, xpH_ne K _ h0s (by omega) (by omega) (by omega)]; exact xn_ne zg1 (by omega) rfl)) (by omega)) kX5_23 (by decide) (Nat.le_of_ble_eq_true rfl) (Nat.zero_add _) (Nat.zero_add _) dX5_remember_47 ?_
    refine xT.nm (fun zh3 zg3 => ?_)
    have o0 := xh_ne zg3 (by omega) o0
    have o1 := xh_ne zg3 (by omega) o1
    have q0 := xh_ne zg3 (by omega) q0
    have q3 := xh_eq zg3
    refine xr_al0 dX5_remember_50 ?_
    refine xr_get o0 fX5_11 rfl dX5_remember_51 ?_
    refine xr_al0 dX5_remember_54 ?_
    refine xr_get o0 fX5_15 rfl dX5_remember_55 ?_
    refine xr_al2 dX5_remember_58 ?_
    refine xr_aast o1 q3 (xix_nI (n := 12) hn (by decide)) dX5_remember_59 ?_
    refine xT.nm (fun zh4 zg4 => ?_)
    have o0 := xg_ne zg4 (by omega) o0
    have o1 := xg_eq zg4
    have q0 := xg_ne zg4 (by omega) q0
    have q3 := xg_ne zg4 (by omega) q3
    refine xr_al0 dX5_remember_60 ?_
    refine xr_dup dX5_remember_61 rfl ?_
    refine xr_get o0 fX5_15 rfl dX5_remember_62 ?_
    refine xr_ic1 dX5_remember_65 ?_
    refine xr_iadd dX5_remember_66 ?_
    refine xr_eqi (nI_1 n) ?_
    refine xr_put o0 fX5_15 (Nat.le_of_ble_eq_true rfl) rfl rfl dX5_remember_67 ?_
    refine xT.nm (fun zh5 zg5 => ?_)
    have o0 := xg_eq zg5
    have o1 := xg_ne zg5 (by omega) o1
    have q0 := xg_ne zg5 (by omega) q0
    have q3 := xg_ne zg5 (by omega) q3
    refine xr_vret dX5_remember_70 rfl ?_
    exact ⟨rfl, rem_new P hn h1 dj hD (by rw [zg5, zg4, zg3, zg2, show pf p m = pf p n from by rw [show m = n by omega], pf_more, xpH_pH]; rfl) (xn_1 zg1) (fun c hc => xn_ne zg1 hc rfl)⟩
set_option maxRecDepth 20000 in
theorem s_remember {K : xK} {B : Nat} {l : Launch} {h : xH} {a : Nat} {D n m : Nat} {p : Nat → Nat} {τ : Nat → xs} (P : xPast K h a D n m p τ) {w : Nat} {σ : xs} (G : xHill K h w σ) (dj : w + 3 ≤ D) (dw : w + 3 ≤ a ∨ a + 2 ≤ w) (hD : D ≤ h.1) : xV K B l 3 mX5_remember 3 21 (a) [.ref w] h (xPv (fun g => xRem K h g a D n m p τ σ)) := by
  obtain ⟨⟨o0, o1⟩, hnm, hm, had, hh, hap, hlo⟩ := id P
  have q0 := G.1
  refine ⟨⟨_, _, _, _, P.1.1, rfl⟩, qX5_remember, ?_⟩
  refine xS.intro RX5 false ⟨rfl, rfl, by decide, by decide, Nat.le_of_ble_eq_true rfl⟩ (ls := [some (.ref a), some (.ref w), none]) rfl ?_
  refine xr_al0 dX5_remember_0 ?_
  refine xr_get o0 fX5_15 rfl dX5_remember_1 ?_
  refine xr_bipush (v := 12) dX5_remember_4 (by decide) ?_
  refine xr_icmplt (tgt := 13) dX5_remember_6 (by decide) (fun zc6 => ?_) (fun zc6 => ?_)
  · skip
    have hn : n < 12 := (nI_ltI (by omega) (by decide)).mp zc6
    exact lp_remember P G dj dw hD hn none
  · skip
    have n12 : n = 12 := Nat.le_antisymm (by omega) (Nat.le_of_not_lt (fun q => zc6 (nI_lt q (by decide))))
    have m12 : m = 12 := by omega
    subst n12
    subst m12
    refine xr_al0 dX5_remember_9 ?_
    refine xr_Vv0 (s_dropOldest P) kX5_19 (by decide) (Nat.le_of_ble_eq_true rfl) (Nat.zero_add _) (Nat.zero_add _) dX5_remember_10 ?_
    refine xT.nm (fun zh1 zg1 => ?_)
    have o0 := (x2_at zg1).1
    have o1 := (x2_at zg1).2
    have q0 := x2_ne zg1 (by omega) q0
    have G1 : xHill K zh1 w σ := G.fr (fun c _ _ => by rw [zg1, P2_ne _ _ _ (by omega) (by omega)])
    have P1 : xPast K zh1 a D 11 12 (pr p) (fun i => if i < 11 then τ (i + 1) else τ 0) := by
      refine ⟨⟨o0, o1⟩, by decide, by decide, had, fun i hi => ?_, fun i j hi hj ij => ?_, fun i hi => ?_⟩
      · show xHill K zh1 (if i < 11 then p (i + 1) else p 0) (if i < 11 then τ (i + 1) else τ 0)
        by_cases q : i < 11
        · have := hlo (i + 1) (by omega)
          rw [if_pos q, if_pos q]
          exact (hh (i + 1) (by omega)).fr (fun c _ _ => by rw [zg1, P2_ne _ _ _ (by omega) (by omega)])
        · have := hlo 0 (by omega)
          rw [if_neg q, if_neg q]
          exact (hh 0 (by omega)).fr (fun c _ _ => by rw [zg1, P2_ne _ _ _ (by omega) (by omega)])
      · unfold pr
        by_cases q : i < 11
        · by_cases q' : j < 11
          · rw [if_pos q, if_pos q']
            exact hap _ _ (by omega) (by omega) (by omega)
          · rw [if_pos q, if_neg q']
            exact hap _ _ (by omega) (by omega) (by omega)
        · by_cases q' : j < 11
          · rw [if_neg q, if_pos q']
            exact hap _ _ (by omega) (by omega) (by omega)
          · omega
      · rw [zg1]
        unfold pr
        by_cases q : i < 11
        · rw [if_pos q]
          exact hlo _ (by omega)
        · rw [if_neg q]
          exact hlo _ (by omega)
    have D1 : D ≤ zh1.1 := by rw [zg1]; exact hD
    refine xT.post (fun r g q => ?_) (lp_remember P1 G1 dj dw D1 (by decide) none)
    exact ⟨q.1, rem_full zg1 hlo q.2⟩
