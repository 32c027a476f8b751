/-! The model's world in the class's words: xMa -/
def w19 (x : Int32) : Prop := ∃ a : Nat, 1 ≤ a ∧ a ≤ 9 ∧ x = nI a
def hIv (σ : xs) : Prop := (∀ s, s < 2 → ∀ k, k < ln σ s → w19 (σ (5 * s + k))) ∧ ∃ g : Nat, g ≤ 9 ∧ σ 13 = nI g
theorem hIv_upd {σ : xs} (iv : hIv σ) {i : Nat} (hi : 12 ≤ i) (h13 : i ≠ 13) (ok : hOk σ) (x : Int32) : hIv (upd σ i x) := by
  refine ⟨fun s hs k hk => ?_, ?_⟩
  · rw [ln_upd _ (by omega)] at hk
    have := (ok.1 s hs).2
    rw [upd_hi _ _ (by omega)]
    exact iv.1 s hs k hk
  · rw [upd_hi _ _ (by omega)]
    exact iv.2
theorem hIv_grip {σ : xs} (iv : hIv σ) (ok : hOk σ) {g : Nat} (hg : g ≤ 9) : hIv (upd σ 13 (nI g)) := by
  refine ⟨fun s hs k hk => ?_, g, hg, pk_us⟩
  rw [ln_upd _ (by omega)] at hk
  have := (ok.1 s hs).2
  rw [upd_hi _ _ (by omega)]
  exact iv.1 s hs k hk
theorem hIv_up0 {σ : xs} (iv : hIv σ) {i : Nat} (hi : i < 10) {x : Int32} (hx : w19 x) : hIv (upd σ i x) := by
  refine ⟨fun s hs k hk => ?_, ?_⟩
  · rw [ln_upd _ (by omega)] at hk
    by_cases e : 5 * s + k = i
    · rw [e, pk_us]
      exact hx
    · rw [upd_hi _ _ e]
      exact iv.1 s hs k hk
  · rw [upd_hi _ _ (by omega)]
    exact iv.2
theorem hIv_tk {σ : xs} (iv : hIv σ) (ok : hOk σ) {s : Nat} (hs : s < 2) (g : Int32) : ∀ k, k ≤ ln σ s → hIv (tk σ s g k).1 := by
  intro k
  have h5 := (ok.1 s hs).2
  induction k with
  | zero => intro _; exact iv
  | succ k ih =>
    intro hk
    have hl := tk_le σ s g k
    have q := ih (by omega)
    rw [tk_s]
    split
    · refine hIv_up0 q (by omega) (q.1 s hs k ?_)
      rw [ln_tk g hs (by omega)]
      omega
    · exact q
theorem hIv_take {σ : xs} (iv : hIv σ) (ok : hOk σ) {s : Nat} (hs : s < 2) (g : Int32) : hIv (hTake σ s g) := by
  have h5 := (ok.1 s hs).2
  have q := hIv_tk iv ok hs g (ln σ s) (Nat.le_refl _)
  have hl := tk_le σ s g (ln σ s)
  unfold hTake
  refine ⟨fun s' hs' k hk => ?_, ?_⟩
  · have h5' := (ok.1 s' hs').2
    by_cases e : s' = s
    · subst e
      have hk2 : ln (upd (tk σ s' g (ln σ s')).1 (10 + s') (nI (tk σ s' g (ln σ s')).2)) s' = (tk σ s' g (ln σ s')).2 := by
        show (upd (tk σ s' g (ln σ s')).1 (10 + s') (nI (tk σ s' g (ln σ s')).2) (10 + s')).toNatClampNeg = _
        rw [pk_us]
        exact nI_clamp (by omega)
      rw [hk2] at hk
      rw [upd_hi _ _ (by omega)]
      refine q.1 s' hs' k ?_
      rw [ln_tk g hs h5]
      omega
    · rw [ln_upd _ (by omega), ln_tk g hs h5] at hk
      rw [upd_hi _ _ (by omega)]
      refine q.1 s' hs' k ?_
      rw [ln_tk g hs h5]
      exact hk
  · rw [upd_hi _ _ (by omega)]
    exact q.2
theorem hIv_travel {σ : xs} (iv : hIv σ) (ok : hOk σ) (x y : Int32) : hIv (hTravel σ x y) := by
  have o1 : hOk (hT1 σ x y) := hOk_upd ok (by decide) _
  have o2 : hOk (hT2 (hT1 σ x y) x) := hOk_upd o1 (by decide) _
  have o3 : hOk (hT3 (hT2 (hT1 σ x y) x) y) := hOk_upd o2 (by decide) _
  have o4 := hOk_take o3 (s := 0) (by decide) x
  have o5 := hOk_take o4 (s := 1) (by decide) y
  exact hIv_upd (hIv_take (hIv_take (hIv_upd (hIv_upd (hIv_upd iv (by decide) (by decide) ok _) (by decide) (by decide) o1 _) (by decide) (by decide) o2 _) o3 (by decide) x) o4 (by decide) y) (by decide) (by decide) o5 _
theorem hIv_pass {σ : xs} (iv : hIv σ) (ok : hOk σ) (p : Int32) : hIv (hPass σ p) := hIv_upd (hIv_upd iv (by decide) (by decide) ok _) (by decide) (by decide) (hOk_upd ok (by decide) _) _
theorem hIv_run {σ : xs} (iv : hIv σ) (ok : hOk σ) (φ : xs → Int32) : hIv (hRun φ σ) := by
  unfold hRun hMid
  split
  · exact hIv_pass (hIv_travel iv ok _ _) (hOk_travel ok _ _) _
  · exact hIv_pass iv ok _
theorem hWat_at {σ : xs} (ok : hOk σ) {s k : Nat} (hs : s < 2) (hk : k < ln σ s) : hHas σ (nI s) (nI k) ∧ hWat σ (nI s) (nI k) = σ (5 * s + k) := by
  have e := ok.1 s hs
  have h : hHas σ (nI s) (nI k) := by
    refine ⟨nI_pos (by omega), ?_, nI_ge (b := 5) (by omega) (by decide)⟩
    rw [hWaits_s hs, e.1]
    exact nI_ge hk (by omega)
  refine ⟨h, ?_⟩
  unfold hWat
  rw [if_pos h, (xix_sk hs (by omega)).2]
theorem hHas_at {σ : xs} (ok : hOk σ) {x y : Int32} (h : hHas σ x y) : ∃ s k, s < 2 ∧ k < ln σ s ∧ x = nI s ∧ y = nI k := by
  obtain ⟨s, k, hs, hk, rfl, rfl⟩ := hHas_sk h
  refine ⟨s, k, hs, ?_, rfl, rfl⟩
  have e := ok.1 s hs
  have := h.2.1
  rw [hWaits_s hs, e.1] at this
  exact Nat.lt_of_not_le (fun q => this (nI_le q (by omega)))
theorem hIv_weigh {σ : xs} (iv : hIv σ) (side k : Int32) {x : Int32} (hx : hHas σ side k → w19 x) : hIv (hWeigh σ side k x) := by
  unfold hWeigh
  split
  · rename_i q
    obtain ⟨s, j, hs, hj, rfl, rfl⟩ := hHas_sk q
    rw [(xix_sk hs hj).2]
    exact hIv_up0 iv (by omega) (hx q)
  · exact iv
theorem maWat {σ : xs} (iv : hIv σ) (ok : hOk σ) {x y : Int32} (h : hHas σ x y) : w19 (hWat σ x y) := by
  obtain ⟨s, k, hs, hk, rfl, rfl⟩ := hHas_at ok h
  rw [(hWat_at ok hs hk).2]
  exact iv.1 s hs k hk
theorem rr_cg {σ μ ν : xs} (ok : hOk σ) (R : rr σ μ) (h : ∀ k, k < 19 → ν k = μ k) : rr σ ν := by
  refine ⟨fun i h1 h2 => (h i h2).trans (R.1 i h1 h2), fun s hs k hk => ?_⟩
  have := (ok.1 s hs).2
  exact (h _ (by omega)).trans (R.2 s hs k hk)
-- pieces
/-- a byte -/
def byt (x : Int32) : Prop := x.toInt8.toInt32 = x
def maT (x : Int32) (t : xs) (tn : Nat) (tf : xs) : Prop := x = nI tn ∧ tn ≤ 80 ∧ ∀ j, j < tn → t j &&& 255 = tf j ∧ byt (t j)
def maR (x : Int32) (v : Nat → Int64) (rk : Int32) (rv : Nat → Int64) : Prop := ∃ n : Nat, n ≤ 4 ∧ rk = nI n ∧ x = nI n ∧ ∀ j, j < n → v j = rv j
def maN (w σ : xs) : Prop := rr σ w ∧ hOk σ ∧ hIv σ
def maP (x : Int32) (w : xs) (pn : Nat) (τ : Nat → xs) : Prop := x = nI pn ∧ pn ≤ 12 ∧ ∀ i, i < pn → maN (fun k => w (19 * i + k)) (τ i)
def maK (w z : xs) (ks : Nat → Bool) (κ : Nat → xs) : Prop := ∀ i, i < 2 → z i = (if ks i = true then 1 else 0) ∧ (ks i = true → maN (fun k => w (19 * i + k)) (κ i))
def maL (K : xK) (B : Nat) (l : Launch) (Y : Nat) (x : Int32) (w : xs) (φ : xs → Int32) : Prop := ∀ w7, mSp K B l Y (Y + 6) x w w7 φ
def maH (x : Int32) (w z : xs) (hn : Nat) (hf hg : xs) : Prop := x = nI hn ∧ hn ≤ 12 ∧ ∀ i, i < hn → w i = hf i ∧ z i = hg i ∧ (hf i = 0 ∨ hf i = 1 ∨ hf i = 2 ∨ hf i = 3)
def maS (x : Int32) (w z : xs) (wn : Nat) (wf wg : xs) : Prop := x = nI wn ∧ wn ≤ 10 ∧ ∀ i, i < wn → w i = wf i ∧ z i = wg i ∧ (wg i = 0 ∨ wg i = 1)
def xMa (K : xK) (B : Nat) (l : Launch) (h0 h : xH) (Y : Nat) (th : Int32) (tn : Nat) (tf : xs) (rk : Int32) (rv : Nat → Int64) (σ : xs) (pn : Nat) (τ : Nat → xs) (ks : Nat → Bool) (κ : Nat → xs) (φ : xs → Int32) (hn : Nat) (hf hg : xs) (wn : Nat) (wf wg : xs) : Prop :=
  ∃ (m : xs) (rd : Value) (u : Nat → Nat → Int32) (v : Nat → Int64), xMw K h0 h Y m rd (Y + 6) (Y + 7) u v ∧ maT (m 2) (u 2) tn tf ∧ maR (m 4) v rk rv ∧ maN (u 1) σ ∧ maP (m 19) (u 9) pn τ ∧ maK (u 22) (u 23) ks κ ∧ maL K B l Y (m 15) (u 6) φ ∧ maH (m 32) (u 17) (u 18) hn hf hg ∧ maS (m 35) (u 19) (u 20) wn wf wg ∧ m 5 = th
theorem maR0 {v rv : Nat → Int64} : maR 0 v 0 rv := ⟨0, by decide, rfl, rfl, fun j hj => absurd hj (by omega)⟩
theorem maR1 {v rv : Nat → Int64} (a : Int32) : maR 1 (vp_updL v 0 a.toInt64) 1 (tl1 rv a) := ⟨1, by decide, rfl, rfl, fun j hj => by
  have : j = 0 := by omega
  subst this
  rfl⟩
theorem maR2 {v rv : Nat → Int64} (a b : Int32) : maR 2 (vp_updL (vp_updL v 0 a.toInt64) 1 b.toInt64) 2 (tl2 rv a b) := ⟨2, by decide, rfl, rfl, fun j hj => by
  rcases (show j = 0 ∨ j = 1 by omega) with rfl | rfl <;> rfl⟩
theorem maR3 {v rv : Nat → Int64} (a b c : Int32) : maR 3 (vp_updL (vp_updL (vp_updL v 0 a.toInt64) 1 b.toInt64) 2 c.toInt64) 3 (tl3 rv a b c) := ⟨3, by decide, rfl, rfl, fun j hj => by
  rcases (show j = 0 ∨ j = 1 ∨ j = 2 by omega) with rfl | rfl | rfl <;> rfl⟩
theorem maR4 {v rv : Nat → Int64} (a b c d : Int32) : maR 4 (vp_updL (vp_updL (vp_updL (vp_updL v 0 a.toInt64) 1 b.toInt64) 2 c.toInt64) 3 d.toInt64) 4 (tl4 rv a b c d) := ⟨4, by decide, rfl, rfl, fun j hj => by
  rcases (show j = 0 ∨ j = 1 ∨ j = 2 ∨ j = 3 by omega) with rfl | rfl | rfl | rfl <;> rfl⟩
theorem maP_rem {w f σ : xs} {n : Nat} {τ : Nat → xs} (P : maP (nI n) w n τ) (N : maN f σ) : maP (nI (psn n)) (mUn w f n) (psn n) (psh n τ σ) := by
  obtain ⟨-, h12, P⟩ := P
  obtain ⟨R, ok, iv⟩ := N
  unfold psn psh mUn
  by_cases h : n < 12
  · rw [if_pos h, if_neg (by omega)]
    refine ⟨rfl, by omega, fun i hi => ?_⟩
    show maN _ (if n < 12 then if i = n then σ else τ i else _)
    rw [if_pos h]
    by_cases e : i = n
    · subst e
      rw [if_pos rfl]
      refine ⟨rr_cg ok R (fun k hk => ?_), ok, iv⟩
      show lyK w f (19 * i) 19 (19 * i + k) = f k
      unfold lyK
      rw [if_pos (by omega), Nat.add_sub_cancel_left]
    · rw [if_neg e]
      obtain ⟨r, o, v⟩ := P i (by omega)
      refine ⟨rr_cg o r (fun k hk => ?_), o, v⟩
      show lyK w f (19 * n) 19 (19 * i + k) = _
      unfold lyK
      rw [if_neg (by omega)]
  · have e12 : n = 12 := by omega
    subst e12
    rw [if_neg (by omega), if_pos rfl]
    refine ⟨rfl, by omega, fun i hi => ?_⟩
    show maN _ (if 12 < 12 then _ else if i = 11 then σ else τ (i + 1))
    rw [if_neg (by omega)]
    by_cases e : i = 11
    · subst e
      rw [if_pos rfl]
      refine ⟨rr_cg ok R (fun k hk => ?_), ok, iv⟩
      show lyK (shK w 209) f 209 19 (19 * 11 + k) = f k
      unfold lyK
      rw [if_pos (by omega), show 19 * 11 + k - 209 = k by omega]
    · rw [if_neg e]
      obtain ⟨r, o, v⟩ := P (i + 1) (by omega)
      refine ⟨rr_cg o r (fun k hk => ?_), o, v⟩
      show lyK (shK w 209) f 209 19 (19 * i + k) = w (19 * (i + 1) + k)
      unfold lyK shK
      rw [if_neg (by omega), if_pos (by omega), show 19 * i + k + 19 = 19 * (i + 1) + k by omega]
theorem mIn_0 {v a b : Int32} : mIn v a b = 0 ↔ (v < a ∨ b < v) := by
  unfold mIn
  rw [bI_0]
  constructor
  · intro h
    by_cases h1 : v < a
    · exact Or.inl h1
    · exact Or.inr (Decidable.not_not.mp (fun q => h ⟨h1, q⟩))
  · intro h q
    rcases h with h | h
    · exact q.1 h
    · exact q.2 h
theorem rn_neg {r : Int32} (h : r < 0) (n : Nat) : rn_ r n = n := if_pos h
theorem rt_neg {r : Int32} (h : r < 0) (n : Nat) (τ : Nat → xs) (σ : xs) : rt_ r n τ σ = τ := if_pos h
theorem rn_pos {r : Int32} (h : ¬ r < 0) (n : Nat) : rn_ r n = psn n := if_neg h
theorem rt_pos {r : Int32} (h : ¬ r < 0) (n : Nat) (τ : Nat → xs) (σ : xs) : rt_ r n τ σ = psh n τ σ := if_neg h
theorem maP_eq {x : Int32} {w : xs} {n : Nat} {τ : Nat → xs} (P : maP x w n τ) : maP (nI n) w n τ := ⟨rfl, P.2⟩
