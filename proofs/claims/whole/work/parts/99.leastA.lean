/-! Trips without water: the class's way and the model's -/
theorem wtN_p {σ : xs} (iv : hIv σ) {s : Nat} (hs : s < 2) (g : Int32) : ∀ k, k ≤ ln σ s → ∃ q : Nat, q ≤ 9 * k ∧ wtN σ s g k = nI q ∧ (∀ j, j < k → g >>> (nI j &&& 31) &&& 1 = 1 → 1 ≤ q) ∧ ((∀ j, j < k → g >>> (nI j &&& 31) &&& 1 = 0) → q = 0) := by
  intro k
  induction k with
  | zero => intro _; exact ⟨0, by omega, rfl, fun j hj => absurd hj (by omega), fun _ => rfl⟩
  | succ k ih =>
    intro hk
    obtain ⟨q, hq, e, h1, h2⟩ := ih (by omega)
    obtain ⟨a, a1, a9, ea⟩ := iv.1 s hs k (by omega)
    show ∃ q : Nat, q ≤ 9 * (k + 1) ∧ wtN σ s g k + (g >>> (nI k &&& 31) &&& 1) * σ (5 * s + k) = nI q ∧ _
    rw [e, ea]
    rcases and1 (g >>> (nI k &&& 31)) with z | z
    · rw [z]
      refine ⟨q, by omega, by rw [Int32.zero_mul, Int32.add_zero], fun j hj hb => ?_, fun h => h2 (fun j hj => h j (by omega))⟩
      rcases (show j < k ∨ j = k by omega) with c | c
      · exact h1 j c hb
      · rw [c, z] at hb
        exact absurd hb (by decide)
    · rw [z]
      refine ⟨q + a, by omega, by rw [Int32.one_mul, nI_add], fun j hj hb => by omega, fun h => ?_⟩
      have := h k (by omega)
      rw [z] at this
      exact absurd this (by decide)
theorem bit_q : ∀ q, q < 32 → ¬ q = 0 → ∃ j, j < 5 ∧ nI q >>> (nI j &&& 31) &&& 1 = 1 ∧ 2 ^ j ≤ q := by decide +kernel
theorem bit_0 : ∀ j, j < 5 → nI 0 >>> (nI j &&& 31) &&& 1 = 0 := by decide +kernel
theorem wf_0 {σ : xs} (iv : hIv σ) (ok : hOk σ) {q : Nat} (hq : q ≤ aN σ 1) (h : wfN σ 0 q = 0) : q = 0 := by
  have g1 := (hAll_n ok (s := 1) (by decide)).2
  have l0 := (ok.1 0 (by decide)).2
  have e := (wfN_e iv ok 0 q).1
  rw [h] at e
  obtain ⟨a, ha, ea, ap, _⟩ := wtN_p iv (s := 1) (by decide) (nI q) (ln σ 1) (Nat.le_refl _)
  obtain ⟨b, hb, eb, _, bz⟩ := wtN_p iv (s := 0) (by decide) (nI 0) (ln σ 0) (Nat.le_refl _)
  have l1 := (ok.1 1 (by decide)).2
  have b0 := bz (fun j hj => bit_0 j (by omega))
  obtain ⟨g, hg, eg⟩ := iv.2
  refine Classical.byContradiction (fun n => ?_)
  obtain ⟨j, hj, hbj, hl⟩ := bit_q q (by omega) n
  have jl : j < ln σ 1 := by
    have : 2 ^ j < 2 ^ ln σ 1 := by
      have := Nat.two_pow_pos (ln σ 1)
      unfold aN at hq
      omega
    exact (Nat.pow_lt_pow_iff_right (by decide)).mp this
  have a1 := ap j jl hbj
  unfold hWater at e
  rw [show wt σ 1 (nI q) = nI a from ea, show wt σ 0 (nI 0) = nI b from eb, eg, nI_add, iMax_n (by omega) (by omega), nI_eq (by omega) (by decide)] at e
  omega
theorem pc_1 : ∀ p, p < 32 → ¬ p = 0 → 1 ≤ pcM p := by decide +kernel
theorem pc_n : ∀ n, n < 6 → pcM (2 ^ n - 1) = n := by decide +kernel
theorem CC_t {σ : xs} (iv : hIv σ) (ok : hOk σ) : ∀ t a b w, a < 32 → b ≤ aN σ 1 → CC (sn σ) (wfN σ) true t a b w → t ≤ pcM a ∧ w = 0 ∧ CC (sn σ) (wfN σ) false t a b 0 := by
  have g1 := (hAll_n ok (s := 1) (by decide)).2
  intro t
  induction t with
  | zero =>
    rintro a b w _ _ ⟨h1, h2, h3⟩
    exact ⟨Nat.zero_le _, h3, h1, h2, rfl⟩
  | succ t ih =>
    rintro a b w ha hb ⟨p, q, y, ho, hC, rfl⟩
    have lp := sb_le ho.1
    have lq := sb_le ho.2.1
    have wz := ho.2.2.2.2.2 rfl
    obtain ⟨h1, h2, h3⟩ := ih _ _ _ (x32 ha (by omega)) (Nat.le_trans (sb_sl ho.2.1) hb) hC
    have np : ¬ p = 0 := by
      intro z
      rw [z] at wz
      exact ho.2.2.1 ⟨z, wf_0 iv ok (by omega) wz⟩
    have e := pc_x a ha p (by omega) ho.1
    have := pc_1 p (by omega) np
    refine ⟨by omega, by omega, p, q, 0, ⟨ho.1, ho.2.1, ho.2.2.1, ho.2.2.2.1, ho.2.2.2.2.1, fun z => absurd z (by simp)⟩, h3, by omega⟩
theorem CC_f {S : Nat} {wf : Nat → Nat → Nat} : ∀ t a b w, w = 0 → CC S wf false t a b w → CC S wf true t a b 0 := by
  intro t
  induction t with
  | zero =>
    rintro a b w _ ⟨h1, h2, _⟩
    exact ⟨h1, h2, rfl⟩
  | succ t ih =>
    rintro a b w hw ⟨p, q, y, ho, hC, e⟩
    refine ⟨p, q, 0, ⟨ho.1, ho.2.1, ho.2.2.1, ho.2.2.2.1, ho.2.2.2.2.1, fun _ => by omega⟩, ih _ _ y (by omega) hC, by omega⟩
theorem MM_t {σ : xs} (iv : hIv σ) (ok : hOk σ) {t a b w : Nat} (ha : a < 32) (hb : b ≤ aN σ 1) (h : MM (sn σ) (wfN σ) true t a b = some w) : w = 0 ∧ MM (sn σ) (wfN σ) false t a b = some 0 := by
  have g1 := (hAll_n ok (s := 1) (by decide)).2
  rcases MM_is (sn σ) (wfN σ) true t a b ha (by omega) with ⟨e, _⟩ | ⟨y, e, hC, _⟩
  · rw [e] at h
    exact absurd h (by simp)
  · rw [e] at h
    injection h with h
    subst h
    obtain ⟨_, h2, h3⟩ := CC_t iv ok _ _ _ _ ha hb hC
    refine ⟨h2, ?_⟩
    rcases MM_is (sn σ) (wfN σ) false t a b ha (by omega) with ⟨_, n⟩ | ⟨z, e', _, hm⟩
    · exact absurd h3 (n 0)
    · have := hm 0 h3
      rw [e', show z = 0 by omega]
theorem MM_f {σ : xs} (ok : hOk σ) {t a b : Nat} (ha : a < 32) (hb : b ≤ aN σ 1) (h : MM (sn σ) (wfN σ) false t a b = some 0) : MM (sn σ) (wfN σ) true t a b = some 0 := by
  have g1 := (hAll_n ok (s := 1) (by decide)).2
  rcases MM_is (sn σ) (wfN σ) false t a b ha (by omega) with ⟨e, _⟩ | ⟨y, e, hC, _⟩
  · rw [e] at h
    exact absurd h (by simp)
  · rw [e] at h
    injection h with h
    subst h
    have q := CC_f _ _ _ _ rfl hC
    rcases MM_is (sn σ) (wfN σ) true t a b ha (by omega) with ⟨_, n⟩ | ⟨z, e', _, hm⟩
    · exact absurd q (n 0)
    · have := hm 0 q
      rw [e', show z = 0 by omega]
theorem cnT_t {σ : xs} (iv : hIv σ) (ok : hOk σ) {t j w : Nat} (h : cnT σ true t j = some w) : w = 0 ∧ cnT σ false t j = some 0 := by
  have g0 := (hAll_n ok (s := 0) (by decide)).2
  obtain ⟨ho, y, hy, rfl⟩ := cnd_s h
  have l1 := sb_le ho.1
  obtain ⟨rfl, e⟩ := MM_t iv ok (x32 g0 (by omega)) (sb_sl ho.2.1) hy
  have wz := ho.2.2.2.2.2 rfl
  refine ⟨by omega, ?_⟩
  have := cnd_y (S := sn σ) (wf := wfN σ) (fr := false) (M := MM (sn σ) (wfN σ) false t) (a := aN σ 0) (b := aN σ 1) (i := j) ⟨ho.1, ho.2.1, ho.2.2.1, ho.2.2.2.1, ho.2.2.2.2.1, fun z => absurd z (by simp)⟩ e
  rw [wz] at this
  exact this
theorem cnT_f {σ : xs} (ok : hOk σ) {t j : Nat} (h : cnT σ false t j = some 0) : cnT σ true t j = some 0 := by
  have g0 := (hAll_n ok (s := 0) (by decide)).2
  obtain ⟨ho, y, hy, e⟩ := cnd_s h
  have l1 := sb_le ho.1
  have y0 : y = 0 := by omega
  have wz : wfN σ (j / 32) (j % 32) = 0 := by omega
  rw [y0] at hy
  have := cnd_y (S := sn σ) (wf := wfN σ) (fr := true) (M := MM (sn σ) (wfN σ) true t) (a := aN σ 0) (b := aN σ 1) (i := j) ⟨ho.1, ho.2.1, ho.2.2.1, ho.2.2.2.1, ho.2.2.2.2.1, fun _ => wz⟩ (MM_f ok (x32 g0 (by omega)) (sb_sl ho.2.1) hy)
  rw [wz] at this
  exact this
theorem bst_tf {σ : xs} (iv : hIv σ) (ok : hOk σ) {t y i : Nat} (h : bst (cnT σ true t) 1024 = some (y, i)) : y = 0 ∧ bst (cnT σ false t) 1024 = some (0, i) := by
  rcases bst_is (cnT σ true t) 1024 with ⟨e, _⟩ | ⟨y', i', e, h1, h2, h3, h4⟩
  · rw [e] at h
    exact absurd h (by simp)
  · rw [e] at h
    injection h with h
    injection h with ha hb
    subst ha
    subst hb
    obtain ⟨rfl, hc⟩ := cnT_t iv ok h2
    refine ⟨rfl, bst_un h1 hc (fun _ _ w _ => Nat.zero_le w) (fun j hj w hw => ?_)⟩
    rcases Nat.eq_zero_or_pos w with z | z
    · rw [z] at hw
      exact absurd (h4 j hj 0 (cnT_f ok hw)) (by omega)
    · exact z
theorem bst_ft {σ : xs} (iv : hIv σ) (ok : hOk σ) {t i : Nat} (h : bst (cnT σ false t) 1024 = some (0, i)) : bst (cnT σ true t) 1024 = some (0, i) := by
  rcases bst_is (cnT σ false t) 1024 with ⟨e, _⟩ | ⟨y', i', e, h1, h2, h3, h4⟩
  · rw [e] at h
    exact absurd h (by simp)
  · rw [e] at h
    injection h with h
    injection h with ha hb
    subst ha
    subst hb
    refine bst_un h1 (cnT_f ok h2) (fun _ _ w _ => Nat.zero_le w) (fun j hj w hw => ?_)
    obtain ⟨rfl, hc⟩ := cnT_t iv ok hw
    exact h4 j hj 0 hc
def leF (rk : Int32) (rv : Nat → Int64) (o : Option (Nat × Nat)) : AR := match o with
  | none => (-2, rk, rv)
  | some z => (nI z.1, 2, tl2 rv (nI (z.2 / 32)) (nI (z.2 % 32)))
theorem leR_is {σ : xs} (iv : hIv σ) (ok : hOk σ) {rk : Int32} {rv : Nat → Int64} {N : Nat} (h1 : 1 ≤ N) (h5 : N ≤ 5) (nx : xs) (fa fb : Int32) : leR σ rk rv nx fa fb (nI N) = leF rk rv (bst (cnT σ false (N - 1)) 1024) := by
  have k := leN_is iv ok (N - 1) 0 kn0 nx (knT_0 σ) (by omega)
  rw [Nat.zero_add] at k
  unfold leR
  rw [if_neg (fun q => q.elim (nI_nlt (b := 1) (by omega) (by omega)) (nI_nlt (a := 5) (by omega) (by omega))), nI_clamp (by omega)]
  have e := plC_is iv ok (by omega) k fa fb
  rw [show leN σ (N - 1) kn0 nx 0 = leN σ (N - 1) kn0 nx (nI 0) from rfl, e]
  rcases bst_is (cnT σ false (N - 1)) 1024 with ⟨z, _⟩ | ⟨y, i, z, _, hc, _⟩
  · rw [z]
    exact if_neg Int32.lt_irrefl
  · have := cnT_b iv ok _ _ hc
    rw [z]
    exact if_pos (nI_lt (b := 1048576) (by omega) (by omega))
def frA (σ : xs) (rk : Int32) (rv : Nat → Int64) : Nat → Nat → AR
  | 0, _ => (-2, rk, rv)
  | r + 1, k => match bst (cnT σ true (k - 1)) 1024 with
    | none => frA σ rk rv r (k + 1)
    | some z => (nI k, 2, tl2 rv (nI (z.2 / 32)) (nI (z.2 % 32)))
theorem frA_n {σ : xs} {rk : Int32} {rv : Nat → Int64} {r k : Nat} (h : bst (cnT σ true (k - 1)) 1024 = none) : frA σ rk rv (r + 1) k = frA σ rk rv r (k + 1) := by
  show (match bst (cnT σ true (k - 1)) 1024 with | none => frA σ rk rv r (k + 1) | some z => (nI k, 2, tl2 rv (nI (z.2 / 32)) (nI (z.2 % 32)))) = _
  rw [h]
theorem frA_y {σ : xs} {rk : Int32} {rv : Nat → Int64} {r k : Nat} {z : Nat × Nat} (h : bst (cnT σ true (k - 1)) 1024 = some z) : frA σ rk rv (r + 1) k = (nI k, 2, tl2 rv (nI (z.2 / 32)) (nI (z.2 % 32))) := by
  show (match bst (cnT σ true (k - 1)) 1024 with | none => frA σ rk rv r (k + 1) | some z => (nI k, 2, tl2 rv (nI (z.2 / 32)) (nI (z.2 % 32)))) = _
  rw [h]
theorem frN_is {σ : xs} (iv : hIv σ) (ok : hOk σ) {rk : Int32} {rv : Nat → Int64} : ∀ (r k : Nat) (kn nx : xs) (fa fb : Int32), knT σ (k - 1) kn → 1 ≤ k → k + r ≤ 6 → frN σ rk rv r k kn nx (nI (k - 1)) fa fb = frA σ rk rv r k := by
  intro r
  induction r with
  | zero => intro k kn nx fa fb _ _ _; rfl
  | succ r ih =>
    intro k kn nx fa fb hk h1 h6
    have e := plC_is iv ok (by omega) hk fa fb
    have t1 : nI (k - 1) + 1 = nI (k + 1 - 1) := by
      rw [show k + 1 - 1 = (k - 1) + 1 by omega]
      exact nI_1 _
    rcases hb : bst (cnT σ true (k - 1)) 1024 with _ | ⟨y, i⟩
    · have n : ¬ (plC σ kn fa fb).1 = 0 := by
        rw [e]
        rcases bst_is (cnT σ false (k - 1)) 1024 with ⟨z, _⟩ | ⟨y, i, z, _, hc, _⟩
        · rw [z]
          exact nI_ne0 (n := 1048576) (by omega) (by omega)
        · have := cnT_b iv ok _ _ hc
          rw [z]
          show ¬ nI y = 0
          refine nI_ne0 ?_ (by omega)
          rcases Nat.eq_zero_or_pos y with q | q
          · rw [q] at z
            rw [bst_ft iv ok z] at hb
            exact absurd hb (by simp)
          · exact q
      rw [frN_s, if_neg n, frA_n hb, t1]
      refine ih (k + 1) _ _ _ _ ?_ (by omega) (by omega)
      rw [show k + 1 - 1 = (k - 1) + 1 by omega]
      exact knT_s iv ok (by omega) hk nx
    · obtain ⟨rfl, z⟩ := bst_tf iv ok hb
      rw [frN_s, frA_y hb, e, z]
      exact if_pos rfl
theorem bst_hi {σ : xs} (iv : hIv σ) (ok : hOk σ) {k : Nat} (h1 : 1 ≤ k) (h : ln σ 0 < k) : bst (cnT σ true (k - 1)) 1024 = none := by
  have g0 := (hAll_n ok (s := 0) (by decide)).2
  have g1 := (hAll_n ok (s := 1) (by decide)).2
  rcases MM_is (sn σ) (wfN σ) true k (aN σ 0) (aN σ 1) g0 g1 with ⟨e, _⟩ | ⟨y, e, hC, _⟩
  · have e' : (bst (cnT σ true (k - 1)) 1024).map (fun z => z.1) = none := by
      have q : MM (sn σ) (wfN σ) true (k - 1 + 1) (aN σ 0) (aN σ 1) = none := by
        rw [show k - 1 + 1 = k by omega]
        exact e
      exact q
    rcases hb : bst (cnT σ true (k - 1)) 1024 with _ | z
    · rfl
    · rw [hb] at e'
      exact absurd e' (by simp)
  · have q := (CC_t iv ok _ _ _ _ g0 (Nat.le_refl _) hC).1
    have p := pc_n (ln σ 0) (by have := (ok.1 0 (by decide)).2; omega)
    unfold aN at q
    omega
theorem frA_hi {σ : xs} (iv : hIv σ) (ok : hOk σ) {rk : Int32} {rv : Nat → Int64} : ∀ (r k : Nat), 1 ≤ k → ln σ 0 < k → frA σ rk rv r k = (-2, rk, rv) := by
  intro r
  induction r with
  | zero => intro k _ _; rfl
  | succ r ih =>
    intro k h1 h
    rw [frA_n (bst_hi iv ok h1 h)]
    exact ih (k + 1) (by omega) (by omega)
theorem frA_eq {σ : xs} (iv : hIv σ) (ok : hOk σ) {rk : Int32} {rv : Nat → Int64} : ∀ (r r' k : Nat), 1 ≤ k → ln σ 0 < k + r → ln σ 0 < k + r' → frA σ rk rv r k = frA σ rk rv r' k := by
  intro r
  induction r with
  | zero =>
    intro r' k h1 h2 _
    exact (frA_hi iv ok r' k h1 (by omega)).symm
  | succ r ih =>
    intro r' k h1 h2 h3
    rcases (show r' = 0 ∨ ∃ q, r' = q + 1 from by cases r' with | zero => exact Or.inl rfl | succ q => exact Or.inr ⟨q, rfl⟩) with z | ⟨q, z⟩
    · rw [z] at h3 ⊢
      exact frA_hi iv ok (r + 1) k h1 (by omega)
    · rw [z] at h3 ⊢
      rcases hb : bst (cnT σ true (k - 1)) 1024 with _ | y
      · rw [frA_n hb, frA_n hb]
        exact ih q (k + 1) (by omega) (by omega) (by omega)
      · rw [frA_y hb, frA_y hb]
theorem frR_is {σ : xs} (iv : hIv σ) (ok : hOk σ) {rk : Int32} {rv : Nat → Int64} (nz : ¬ σ 10 + σ 11 = 0) (nx : xs) (fa fb : Int32) : frR σ rk rv nx fa fb = frA σ rk rv (ln σ 0 + ln σ 1) 1 := by
  have l0 := (ok.1 0 (by decide)).2
  unfold frR
  rw [if_neg nz, show (0 : Int32) = nI (1 - 1) from rfl, frN_is iv ok 5 1 kn0 nx fa fb (knT_0 σ) (by omega) (by omega)]
  exact frA_eq iv ok _ _ _ (by omega) (by omega) (by omega)
