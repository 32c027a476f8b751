/-! The class's hill and the model's row: the relation rr; what stays as it was -/
def rr (σ μ : xs) : Prop := (∀ i, 10 ≤ i → i < 19 → μ i = σ i) ∧ ∀ s, s < 2 → ∀ k, k < ln σ s → μ (5 * s + k) = σ (5 * s + k)
theorem rr_ln {σ μ : xs} (R : rr σ μ) {s : Nat} (hs : s < 2) : ln μ s = ln σ s := by
  unfold ln
  rw [R.1 _ (by omega) (by omega)]
theorem rr_ok {σ μ : xs} (R : rr σ μ) (ok : hOk σ) : hOk μ := by
  have e : sn μ = sn σ := by
    unfold sn
    rw [R.1 12 (by omega) (by omega)]
  refine ⟨fun s hs => ?_, ?_, ?_, ?_⟩
  · rw [rr_ln R hs, R.1 _ (by omega) (by omega)]
    exact ok.1 s hs
  · rw [e, R.1 12 (by omega) (by omega)]
    exact ok.2.1
  · rw [e]
    exact ok.2.2.1
  · rw [e]
    exact ok.2.2.2
theorem rr_wtN {σ μ : xs} (R : rr σ μ) {s : Nat} (hs : s < 2) (g : Int32) : ∀ k, k ≤ ln σ s → wtN μ s g k = wtN σ s g k := by
  intro k
  induction k with
  | zero => intro _; rfl
  | succ k ih =>
    intro hk
    show wtN μ s g k + (g >>> (nI k &&& 31) &&& 1) * μ (5 * s + k) = wtN σ s g k + (g >>> (nI k &&& 31) &&& 1) * σ (5 * s + k)
    rw [ih (by omega), R.2 s hs k (by omega)]
theorem rr_wt {σ μ : xs} (R : rr σ μ) {s : Nat} (hs : s < 2) (g : Int32) : wt μ s g = wt σ s g := by
  unfold wt
  rw [rr_ln R hs]
  exact rr_wtN R hs g _ (Nat.le_refl _)
theorem rr_waits {σ μ : xs} (R : rr σ μ) (x : Int32) : hWaits μ x = hWaits σ x := by
  unfold hWaits
  rw [R.1 10 (by omega) (by omega), R.1 11 (by omega) (by omega)]
theorem rr_next {σ μ : xs} (R : rr σ μ) (x : Int32) : hNext μ x = hNext σ x := by
  unfold hNext
  rw [rr_waits R, R.1 12 (by omega) (by omega)]
theorem rr_all {σ μ : xs} (R : rr σ μ) (x : Int32) : hAll μ x = hAll σ x := by
  unfold hAll
  rw [rr_waits R]
theorem rr_water {σ μ : xs} (R : rr σ μ) (x y : Int32) : hWater μ x y = hWater σ x y := by
  unfold hWater
  rw [rr_wt R (by decide), rr_wt R (by decide), R.1 13 (by omega) (by omega)]
theorem rr_nw {σ μ : xs} (R : rr σ μ) : mNW μ = hWater σ (hNext σ 0) (hNext σ 1) := by
  unfold mNW
  rw [rr_water R, rr_next R, rr_next R]
theorem ln_upd {σ : xs} {i : Nat} (x : Int32) {s : Nat} (h : 10 + s ≠ i) : ln (upd σ i x) s = ln σ s := by
  unfold ln
  rw [upd_hi _ _ h]
theorem rr_upd {σ μ : xs} (R : rr σ μ) {i : Nat} (hi : 12 ≤ i) (x : Int32) : rr (upd σ i x) (upd μ i x) := by
  refine ⟨fun j h1 h2 => ?_, fun s hs k hk => ?_⟩
  · by_cases e : j = i
    · subst e
      rw [pk_us, pk_us]
    · rw [upd_hi _ _ e, upd_hi _ _ e]
      exact R.1 j h1 h2
  · rw [ln_upd _ (by omega)] at hk
    by_cases e : 5 * s + k = i
    · rw [e, pk_us, pk_us]
    · rw [upd_hi _ _ e, upd_hi _ _ e]
      exact R.2 s hs k hk
theorem rr_up0 {σ μ : xs} (R : rr σ μ) {i : Nat} (hi : i < 10) (x : Int32) : rr (upd σ i x) (upd μ i x) := by
  refine ⟨fun j h1 h2 => ?_, fun s hs k hk => ?_⟩
  · rw [upd_hi _ _ (by omega), upd_hi _ _ (by omega)]
    exact R.1 j h1 h2
  · rw [ln_upd _ (by omega)] at hk
    by_cases e : 5 * s + k = i
    · rw [e, pk_us, pk_us]
    · rw [upd_hi _ _ e, upd_hi _ _ e]
      exact R.2 s hs k hk
theorem ln_tk {σ : xs} {s : Nat} (g : Int32) (hs : s < 2) {k : Nat} (hk : k ≤ 5) (s' : Nat) : ln (tk σ s g k).1 s' = ln σ s' := by
  unfold ln
  rw [tk_hi σ g hs hk (by omega)]
theorem rr_tk {σ μ : xs} (R : rr σ μ) (ok : hOk σ) {s : Nat} (hs : s < 2) (g : Int32) : ∀ k, k ≤ ln σ s → (tk μ s g k).2 = (tk σ s g k).2 ∧ rr (tk σ s g k).1 (tk μ s g k).1 := by
  intro k
  have h5 := (ok.1 s hs).2
  induction k with
  | zero => intro _; exact ⟨rfl, R⟩
  | succ k ih =>
    intro hk
    obtain ⟨e, Q⟩ := ih (by omega)
    have hl := tk_le σ s g k
    rw [tk_s, tk_s]
    split
    · refine ⟨by rw [e], ?_⟩
      have q : (tk μ s g k).1 (5 * s + k) = (tk σ s g k).1 (5 * s + k) := Q.2 s hs k (by rw [ln_tk g hs (by omega)]; omega)
      show rr (upd (tk σ s g k).1 (5 * s + (tk σ s g k).2) ((tk σ s g k).1 (5 * s + k))) (upd (tk μ s g k).1 (5 * s + (tk μ s g k).2) ((tk μ s g k).1 (5 * s + k)))
      rw [e, q]
      exact rr_up0 Q (by omega) _
    · exact ⟨e, Q⟩
theorem mzN_ne (F : xs) (s c : Nat) {i : Nat} : ∀ r, (∀ q, q < r → i ≠ 5 * s + (c + q)) → mzN F s c r i = F i := by
  intro r
  induction r with
  | zero => intro _; rfl
  | succ r ih =>
    intro h
    rw [mzN_s, upd_hi _ _ (h r (by omega))]
    exact ih (fun q hq => h q (by omega))
theorem rr_take {σ μ : xs} (R : rr σ μ) (ok : hOk σ) {s : Nat} (hs : s < 2) (g : Int32) : rr (hTake σ s g) (mOut μ s g) := by
  have h5 := (ok.1 s hs).2
  have el := rr_ln R hs
  obtain ⟨e, Q⟩ := rr_tk R ok hs g (ln σ s) (Nat.le_refl _)
  have hl := tk_le σ s g (ln σ s)
  unfold hTake mOut
  rw [el, e]
  have hc : (tk σ s g (ln σ s)).2 + (ln σ s - (tk σ s g (ln σ s)).2) = ln σ s := by omega
  generalize (tk σ s g (ln σ s)).2 = c at *
  have lt : ∀ s', ln (tk σ s g (ln σ s)).1 s' = ln σ s' := fun s' => ln_tk g hs h5 s'
  have o5 : ∀ s', s' < 2 → ln σ s' ≤ 5 := fun s' h' => (ok.1 s' h').2
  refine ⟨fun j h1 h2 => ?_, fun s' hs' k hk => ?_⟩
  · by_cases ej : j = 10 + s
    · subst ej
      rw [pk_us, pk_us]
    · rw [upd_hi _ _ ej, upd_hi _ _ ej, mzN_ne _ _ _ _ (fun q hq => by omega)]
      exact Q.1 j h1 h2
  · by_cases es : s' = s
    · subst es
      have hk2 : k < c := by
        have : ln (upd (tk σ s' g (ln σ s')).1 (10 + s') (nI c)) s' = c := by
          unfold ln
          rw [pk_us]
          exact nI_clamp (by omega)
        omega
      rw [upd_hi _ _ (by omega), upd_hi _ _ (by omega), mzN_ne _ _ _ _ (fun q hq => by omega)]
      exact Q.2 s' hs k (by rw [lt]; omega)
    · rw [ln_upd _ (by omega), lt] at hk
      have := o5 s' hs'
      rw [upd_hi _ _ (by omega), upd_hi _ _ (by omega), mzN_ne _ _ _ _ (fun q hq => by omega)]
      exact Q.2 s' hs' k (by rw [lt]; omega)
theorem rr_rf (σ : xs) : rr σ σ := ⟨fun _ _ _ => rfl, fun _ _ _ _ => rfl⟩
theorem mOut_ok {f : xs} (ok : hOk f) {s : Nat} (hs : s < 2) (g : Int32) : hOk (mOut f s g) := rr_ok (rr_take (rr_rf f) ok hs g) (hOk_take ok hs g)
def mTravel (μ : xs) (x y : Int32) : xs := hT6 (mOut (mOut (hT3 (hT2 (hT1 μ x y) x) y) 0 x) 1 y)
theorem rr_travel {σ μ : xs} (R : rr σ μ) (ok : hOk σ) (x y : Int32) : rr (hTravel σ x y) (mTravel μ x y) := by
  have R1 : rr (hT1 σ x y) (hT1 μ x y) := by
    unfold hT1
    rw [rr_water R, R.1 14 (by omega) (by omega)]
    exact rr_upd R (by decide) _
  have R2 : rr (hT2 (hT1 σ x y) x) (hT2 (hT1 μ x y) x) := by
    unfold hT2
    rw [rr_wt R1 (by decide), R1.1 15 (by omega) (by omega)]
    exact rr_upd R1 (by decide) _
  have R3 : rr (hT3 (hT2 (hT1 σ x y) x) y) (hT3 (hT2 (hT1 μ x y) x) y) := by
    unfold hT3
    rw [rr_wt R2 (by decide), R2.1 16 (by omega) (by omega)]
    exact rr_upd R2 (by decide) _
  have o3 : hOk (hT3 (hT2 (hT1 σ x y) x) y) := hOk_upd (hOk_upd (hOk_upd ok (by decide) _) (by decide) _) (by decide) _
  have R5 := rr_take (rr_take R3 o3 (s := 0) (by decide) x) (hOk_take o3 (by decide) x) (s := 1) (by decide) y
  unfold hTravel mTravel hT6
  rw [R5.1 17 (by omega) (by omega)]
  exact rr_upd R5 (by decide) _
theorem rr_pass {σ μ : xs} (R : rr σ μ) (p : Int32) : rr (hPass σ p) (upd (upd μ 14 (iMin 999 (μ 14 + p))) 18 (μ 18 + 1)) := by
  unfold hPass
  rw [R.1 14 (by omega) (by omega), R.1 18 (by omega) (by omega)]
  exact rr_upd (rr_upd R (by decide) _) (by decide) _
theorem rr_go {σ μ : xs} (R : rr σ μ) (ok : hOk σ) : (¬ μ 10 + μ 11 ≤ 0 ∧ ¬ μ 14 < mNW μ) ↔ hGo σ := by
  rw [rr_nw R, R.1 14 (by omega) (by omega), R.1 10 (by omega) (by omega), R.1 11 (by omega) (by omega)]
  have e0 := ok.1 0 (by decide)
  have e1 := ok.1 1 (by decide)
  have q : σ 10 + σ 11 ≤ 0 ↔ σ 10 + σ 11 = 0 := by
    have a0 : σ 10 = nI (ln σ 0) := e0.1
    have a1 : σ 11 = nI (ln σ 1) := e1.1
    rw [a0, a1, nI_add]
    have z : (0 : Int32) = nI 0 := rfl
    rw [z, nI_leI (by omega) (by decide), nI_eq (by omega) (by decide)]
    omega
  unfold hGo
  rw [q]
theorem uu_ne (u : Nat → Nat → Int32) {j i : Nat} (w : xs) (h : i ≠ j) : uu u j w i = u i := if_neg h
theorem uu_cm (u : Nat → Nat → Int32) {i j : Nat} (a b : xs) (h : i ≠ j) : uu (uu u i a) j b = uu (uu u j b) i a := by
  funext k
  unfold uu
  by_cases h1 : k = j
  · subst h1
    rw [if_pos rfl, if_neg (fun q => h q.symm), if_pos rfl]
  · rw [if_neg h1]
    by_cases h2 : k = i
    · rw [if_pos h2, if_pos h2]
    · rw [if_neg h2, if_neg h2, if_neg h1]
def scm (m : xs) (a b c d e : Int32) : xs := upd (upd (upd (upd (upd m 7 a) 8 b) 9 c) 10 d) 16 e
theorem scm_id (m : xs) : scm m (m 7) (m 8) (m 9) (m 10) (m 16) = m := by
  funext i
  unfold scm upd
  by_cases h1 : i = 16
  · rw [if_pos h1, h1]
  · rw [if_neg h1]
    by_cases h2 : i = 10
    · rw [if_pos h2, h2]
    · rw [if_neg h2]
      by_cases h3 : i = 9
      · rw [if_pos h3, h3]
      · rw [if_neg h3]
        by_cases h4 : i = 8
        · rw [if_pos h4, h4]
        · rw [if_neg h4]
          by_cases h5 : i = 7
          · rw [if_pos h5, h5]
          · rw [if_neg h5]
theorem scm_scm (m : xs) (a b c d e a' b' c' d' e' : Int32) : scm (scm m a b c d e) a' b' c' d' e' = scm m a' b' c' d' e' := by
  funext i
  unfold scm upd
  by_cases h1 : i = 16
  · simp [h1]
  · by_cases h2 : i = 10
    · simp [h2]
    · by_cases h3 : i = 9
      · simp [h3]
      · by_cases h4 : i = 8
        · simp [h4]
        · by_cases h5 : i = 7
          · simp [h5]
          · simp [h1, h2, h3, h4, h5]
theorem upd_cm (m : xs) {i j : Nat} (a b : Int32) (h : i ≠ j) : upd (upd m i a) j b = upd (upd m j b) i a := by
  funext k
  unfold upd
  by_cases h1 : k = j
  · subst h1
    rw [if_pos rfl, if_neg (fun q => h q.symm), if_pos rfl]
  · rw [if_neg h1]
    by_cases h2 : k = i
    · rw [if_pos h2, if_pos h2]
    · rw [if_neg h2, if_neg h2, if_neg h1]
/-- another field goes through -/
theorem scm_upd (m : xs) {i : Nat} (x a b c d e : Int32) (h : i ≠ 7 ∧ i ≠ 8 ∧ i ≠ 9 ∧ i ≠ 10 ∧ i ≠ 16) : scm (upd m i x) a b c d e = upd (scm m a b c d e) i x := by
  unfold scm
  rw [upd_cm _ _ _ h.1, upd_cm _ _ _ h.2.1, upd_cm _ _ _ h.2.2.1, upd_cm _ _ _ h.2.2.2.1, upd_cm _ _ _ h.2.2.2.2]
def xMz (K : xK) (h0 h : xH) (Y : Nat) (m : Nat → Int32) (ru ot : Nat) (u : Nat → Nat → Int32) (v : Nat → Int64) : Prop := ∃ (a b c d e : Int32) (rd : Value) (w : xs), xMw K h0 h Y (scm m a b c d e) rd ru ot (uu u 8 w) v
theorem xMz_of {K : xK} {h0 h : xH} {Y : Nat} {m : Nat → Int32} {rd : Value} {ru ot : Nat} {u : Nat → Nat → Int32} {v : Nat → Int64} (W : xMw K h0 h Y m rd ru ot u v) : xMz K h0 h Y m ru ot u v := ⟨m 7, m 8, m 9, m 10, m 16, rd, u 8, by rw [scm_id, uu_id]; exact W⟩
theorem xMz_jn {K : xK} {h0 h : xH} {Y : Nat} {m : Nat → Int32} {ru ot : Nat} {u : Nat → Nat → Int32} {v : Nat → Int64} {a b c d e : Int32} {w : xs} (S : xMz K h0 h Y (scm m a b c d e) ru ot (uu u 8 w) v) : xMz K h0 h Y m ru ot u v := by
  obtain ⟨a', b', c', d', e', rd, w', W⟩ := S
  rw [scm_scm, uu_uu] at W
  exact ⟨a', b', c', d', e', rd, w', W⟩
/-- the row j taken out -/
theorem xMz_out {K : xK} {h0 h : xH} {Y : Nat} {m : Nat → Int32} {ru ot : Nat} {u : Nat → Nat → Int32} {v : Nat → Int64} {j : Nat} {w : xs} (hj : j ≠ 8) (S : xMz K h0 h Y m ru ot (uu u j w) v) : ∃ (a b c d e : Int32) (rd : Value) (w8 : xs), xMw K h0 h Y (scm m a b c d e) rd ru ot (uu (uu u 8 w8) j w) v := by
  obtain ⟨a', b', c', d', e', rd, w', W⟩ := S
  rw [uu_cm _ _ _ hj] at W
  exact ⟨a', b', c', d', e', rd, w', W⟩
theorem xMz_jj {K : xK} {h0 h : xH} {Y : Nat} {m : Nat → Int32} {ru ot : Nat} {u : Nat → Nat → Int32} {v : Nat → Int64} {a b c d e : Int32} {w w8 : xs} {j : Nat} (hj : j ≠ 8) (S : xMz K h0 h Y (scm m a b c d e) ru ot (uu (uu u 8 w8) j w) v) : xMz K h0 h Y m ru ot (uu u j w) v := by
  rw [← uu_cm _ _ _ hj] at S
  exact xMz_jn S
theorem xMw_aj {K : xK} {h0 h : xH} {Y : Nat} {m : Nat → Int32} {rd : Value} {ru ot : Nat} {u : Nat → Nat → Int32} {v : Nat → Int64} {j : Nat} {w : xs} (hj : j = 1 ∨ j = 11) (W : xMw K h0 h Y m rd ru ot (uu u j w) v) : h.2 (Y + j) = some (iA K 19 w) := by
  rcases hj with rfl | rfl
  · exact W.a1
  · exact W.a11
theorem xMw_pj {K : xK} {h0 h g : xH} {Y : Nat} {m : Nat → Int32} {rd : Value} {ru ot : Nat} {u : Nat → Nat → Int32} {v : Nat → Int64} {j : Nat} {w w' : xs} (hj : j = 1 ∨ j = 11) (W : xMw K h0 h Y m rd ru ot (uu u j w) v) (q : g = xup h (Y + j) (iA K 19 w')) : xMw K h0 g Y m rd ru ot (uu u j w') v := by
  rcases hj with rfl | rfl
  · have := W.p1 q
    rw [uu_uu] at this
    exact this
  · have := W.p11 q
    rw [uu_uu] at this
    exact this
/-- the spring, as the rule at ru tells it -/
def mSp (K : xK) (B : Nat) (l : Launch) (Y ru : Nat) (n : Int32) (r6 r7 : xs) (φ : xs → Int32) : Prop := ∀ (h0 h : xH) (m : Nat → Int32) (rd : Value) (ot : Nat) (u : Nat → Nat → Int32) (v : Nat → Int64) (j : Nat) (w : xs), (j = 1 ∨ j = 11) → xMw K h0 h Y m rd ru ot (uu u j w) v → m 15 = n → u 6 = r6 → u 7 = r7 → ∀ σ, hOk σ → rr σ w → xV K B l 200 mX12_spring 0 0 Y [.ref (Y + j)] h (xPi (fun zr g => zr = φ σ ∧ xMz K h0 g Y m ru ot (uu u j w) v))
