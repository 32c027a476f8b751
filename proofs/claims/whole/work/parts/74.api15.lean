/-! The model in the class's words: odds (written by wip/whole/mod33.py) -/
def es : Nat → Nat → Nat → Prop
  | 0, _, y => y = 0
  | r + 1, x, y => y = 0 ∨ es r y (x % y)
theorem mod_half {y z : Nat} (h0 : 0 < z) (h : z < y) {k : Nat} (hy : y < 2 ^ (k + 1)) : y % z < 2 ^ k := by
  rw [Nat.pow_succ] at hy
  by_cases c : 2 * z ≤ y
  · have := Nat.mod_lt y h0
    omega
  · rw [Nat.mod_eq_sub_mod (by omega), Nat.mod_eq_of_lt (by omega)]
    omega
theorem es_k : ∀ (k x y : Nat), y < 2 ^ k → es (2 * k) x y := by
  intro k
  induction k with
  | zero =>
    intro x y h
    show y = 0
    rw [Nat.pow_zero] at h
    omega
  | succ k ih =>
    intro x y h
    rw [show 2 * (k + 1) = (2 * k + 1) + 1 by omega]
    by_cases c : y = 0
    · exact Or.inl c
    · refine Or.inr ?_
      by_cases c2 : x % y = 0
      · exact Or.inl c2
      · exact Or.inr (ih _ _ (mod_half (by omega) (Nat.mod_lt _ (by omega)) h))
def gn : Nat → Nat → Nat → Nat
  | 0, x, _ => x
  | r + 1, x, y => if y = 0 then x else gn r y (x % y)
theorem gn_s (r x y : Nat) : gn (r + 1) x y = if y = 0 then x else gn r y (x % y) := rfl
theorem gn_es : ∀ (r x y : Nat), es r x y → ∀ d, gn (r + d) x y = gn r x y := by
  intro r
  induction r with
  | zero =>
    intro x y h d
    have h : y = 0 := h
    cases d with
    | zero => rfl
    | succ d =>
      rw [show 0 + (d + 1) = (0 + d) + 1 from rfl, gn_s, if_pos h]
      rfl
  | succ r ih =>
    intro x y h d
    rw [show r + 1 + d = (r + d) + 1 by omega, gn_s, gn_s]
    by_cases c : y = 0
    · rw [if_pos c, if_pos c]
    · rw [if_neg c, if_neg c]
      rcases h with h | h
      · exact absurd h c
      · exact ih _ _ h d
theorem gn_pos : ∀ (r x y : Nat), es r x y → (0 < x ∨ 0 < y) → 0 < gn r x y := by
  intro r
  induction r with
  | zero =>
    intro x y h p
    have h : y = 0 := h
    show 0 < x
    omega
  | succ r ih =>
    intro x y h p
    rw [gn_s]
    by_cases c : y = 0
    · rw [if_pos c]
      omega
    · rw [if_neg c]
      rcases h with h | h
      · exact absurd h c
      · exact ih _ _ h (Or.inl (by omega))
theorem gn_le : ∀ (r x y : Nat), gn r x y ≤ max x y := by
  intro r
  induction r with
  | zero => intro x y; exact Nat.le_max_left _ _
  | succ r ih =>
    intro x y
    rw [gn_s]
    by_cases c : y = 0
    · rw [if_pos c]
      exact Nat.le_max_left _ _
    · rw [if_neg c]
      have := ih y (x % y)
      have := Nat.mod_lt x (show 0 < y by omega)
      omega
theorem gdN_gn : ∀ (r x y : Nat), x < 2 ^ 31 → y < 2 ^ 31 → gdN r (lN x) (lN y) = lN (gn r x y) := by
  intro r
  induction r with
  | zero => intro x y _ _; rfl
  | succ r ih =>
    intro x y hx hy
    rw [gdN_s, gn_s]
    have k : (lN y = 0) ↔ y = 0 := pk_lEQ (a := y) (b := 0) (by omega) (by decide)
    by_cases c : y = 0
    · rw [if_pos c, if_pos (k.mpr c)]
    · rw [if_neg c, if_neg (fun q => c (k.mp q)), pk_lRem (by omega) (by omega) (by omega)]
      have := Nat.mod_lt x (show 0 < y by omega)
      exact ih y (x % y) hy (by omega)
set_option maxRecDepth 20000 in
theorem s_common {K : xK} {B : Nat} {l : Launch} {h : xH} : ∀ (r : Nat) {x y : Nat} (hx : x < 2 ^ 31) (hy : y < 2 ^ 31) (he : es r x y), xU K B l r mX12_common 0 0 [.long (lN x), .long (lN y)] h (xQl (lN (gn r x y)) h) := by
  intro r
  induction r with
  | zero =>
    intro x y hx hy he
    refine ⟨qX12_common, ?_⟩
    refine xS.intro RX12 false ⟨rfl, rfl, by decide, by decide, Nat.le_of_ble_eq_true rfl⟩ (ls := [some (.long (lN x)), none, some (.long (lN y)), none]) rfl ?_
    refine xr_ll2 dX12_common_0 ?_
    refine xr_lc0 dX12_common_1 ?_
    refine xr_lcmp dX12_common_2 ?_
    refine xr_ifne (tgt := 10) dX12_common_3 (by decide) (fun zc3 => ?_) (fun zc3 => ?_)
    · skip
      exact absurd ((lcmp0 _).mpr (by have hy : y = 0 := he; rw [hy]; rfl)) zc3
    · skip
      refine xr_ll0 dX12_common_6 ?_
      refine xr_goto (tgt := 17) dX12_common_7 (by decide) ?_
      refine xr_lret dX12_common_17 rfl ?_
      exact ⟨rfl, rfl⟩
  | succ r ih =>
    intro x y hx hy he
    refine ⟨qX12_common, ?_⟩
    refine xS.intro RX12 false ⟨rfl, rfl, by decide, by decide, Nat.le_of_ble_eq_true rfl⟩ (ls := [some (.long (lN x)), none, some (.long (lN y)), none]) rfl ?_
    refine xr_ll2 dX12_common_0 ?_
    refine xr_lc0 dX12_common_1 ?_
    refine xr_lcmp dX12_common_2 ?_
    refine xr_ifne (tgt := 10) dX12_common_3 (by decide) (fun zc3 => ?_) (fun zc3 => ?_)
    · skip
      have y0 : ¬ y = 0 := fun q => zc3 ((lcmp0 _).mpr (by rw [q]; rfl))
      have l0 : ¬ lN y = 0 := fun q => y0 ((pk_lEQ (b := 0) (by omega) (by decide)).mp q)
      have ml := Nat.mod_lt x (show 0 < y by omega)
      refine xr_ll2 dX12_common_10 ?_
      refine xr_ll0 dX12_common_11 ?_
      refine xr_ll2 dX12_common_12 ?_
      refine xr_lrem dX12_common_13 l0 ?_
      refine xr_eql (pk_lRem (by omega) (by omega) (by omega)) ?_
      refine xr_Sl2 (ih hy (show x % y < 2 ^ 31 by omega) (he.resolve_left y0)) kX12_333 (Nat.le_refl _) (Nat.le_of_ble_eq_true rfl) (Nat.zero_add _) (Nat.zero_add _) dX12_common_14 ?_
      refine xr_lret dX12_common_17 rfl ?_
      exact ⟨by rw [gn_s, if_neg y0], rfl⟩
    · skip
      have y0 : y = 0 := (pk_lEQ (b := 0) (by omega) (by decide)).mp ((lcmp0 _).mp zc3)
      refine xr_ll0 dX12_common_6 ?_
      refine xr_goto (tgt := 17) dX12_common_7 (by decide) ?_
      refine xr_lret dX12_common_17 rfl ?_
      exact ⟨by rw [gn_s, if_pos y0], rfl⟩
def pq (p : Int32) (c : Nat) : Nat → Nat → Int64 → Int64
  | 0, _, a => a
  | r + 1, k, a => pq p c r (k + 1) (a * (if k < c then p else 10 - p).toInt64)
theorem pq_s (p : Int32) (c r k : Nat) (a : Int64) : pq p c (r + 1) k a = pq p c r (k + 1) (a * (if k < c then p else 10 - p).toInt64) := rfl
theorem pq_hi (p : Int32) (c : Nat) : ∀ (r k : Nat) (a : Int64), c ≤ k → pq p c r k a = pwN (10 - p) r a := by
  intro r
  induction r with
  | zero => intro k a _; rfl
  | succ r ih =>
    intro k a h
    rw [pq_s, if_neg (by omega), ih (k + 1) _ (by omega), pwN_s]
theorem pq_lo (p : Int32) (c : Nat) (r : Nat) : ∀ (d k : Nat) (a : Int64), k + d = c → pq p c (d + r) k a = pq p c r c (pwN p d a) := by
  intro d
  induction d with
  | zero =>
    intro k a h
    rw [Nat.zero_add, show k = c by omega]
    rfl
  | succ d ih =>
    intro k a h
    rw [show d + 1 + r = (d + r) + 1 by omega, pq_s, if_pos (by omega), ih (k + 1) _ (by omega), pwN_s]
theorem pwN_m (b : Int32) : ∀ (r : Nat) (a c : Int64), pwN b r (a * c) = a * pwN b r c := by
  intro r
  induction r with
  | zero => intro a c; rfl
  | succ r ih => intro a c; rw [pwN_s, pwN_s, Int64.mul_assoc, ih]
theorem pq_e (p : Int32) {c n : Nat} (h : c ≤ n) : pq p c n 0 1 = pwN p c 1 * pwN (10 - p) (n - c) 1 := by
  have e := pq_lo p c (n - c) c 0 1 (by omega)
  rw [show c + (n - c) = n by omega] at e
  rw [e, pq_hi p c _ _ _ (Nat.le_refl _), ← pwN_m, Int64.mul_one]
theorem pwN_n {P : Nat} (hP : P ≤ 10) : ∀ (r a : Nat), pwN (nI P) r (lN a) = lN (a * P ^ r) := by
  intro r
  induction r with
  | zero => intro a; rw [Nat.pow_zero, Nat.mul_one]; rfl
  | succ r ih => intro a; rw [pwN_s, nI_l (by omega), lN_mul, ih, Nat.pow_succ, Nat.mul_assoc, Nat.mul_comm P]
theorem pw_b {P c n : Nat} (hP : P ≤ 10) (h : c ≤ n) : P ^ c * (10 - P) ^ (n - c) ≤ 10 ^ n := by
  have a : P ^ c ≤ 10 ^ c := Nat.pow_le_pow_left hP c
  have b : (10 - P) ^ (n - c) ≤ 10 ^ (n - c) := Nat.pow_le_pow_left (by omega) _
  have m := Nat.mul_le_mul a b
  rw [← Nat.pow_add, show c + (n - c) = n by omega] at m
  exact m
theorem od_part {P c n : Nat} (hP : P ≤ 10) (h : c ≤ n) : pwN (nI P) c 1 * pwN (10 - nI P) (n - c) 1 = lN (P ^ c * (10 - P) ^ (n - c)) := by
  have e1 := pwN_n hP c 1
  have e2 := pwN_n (P := 10 - P) (by omega) (n - c) 1
  rw [show (10 : Int32) - nI P = nI (10 - P) from nI_sub (a := 10) hP, show (1 : Int64) = lN 1 from rfl, e1, e2, lN_mul, Nat.one_mul, Nat.one_mul]
def oB (z : Int64) (B : Nat) : Prop := ∃ s : Nat, s ≤ B * 1000000 ∧ z = lN s
theorem od_b {σ : xs} {P : Nat} (hP : P ≤ 10) {v : Int32} {n a b : Nat} (hn : n ≤ 6) (hc : pcN a + pcN b ≤ n) {z : Int64} {B : Nat} (h : oB z B) : oB (od1 σ (nI P) v n a b z) (B + 1) := by
  obtain ⟨s, hs, rfl⟩ := h
  unfold od1
  split
  · exact ⟨s, Nat.le_trans hs (Nat.mul_le_mul_right _ (Nat.le_succ B)), rfl⟩
  · rw [od_part hP hc, lN_add]
    have := pw_b hP hc
    have : 10 ^ n ≤ 10 ^ 6 := Nat.pow_le_pow_right (by decide) hn
    exact ⟨_, by omega, rfl⟩
theorem oI_b {σ : xs} {P : Nat} (hP : P ≤ 10) {v : Int32} {n a m : Nat} (hn : n ≤ 6) (hc : ∀ b, b < m → pcN a + pcN b ≤ n) : ∀ (r k : Nat) {z : Int64} {B : Nat}, k + r = m → oB z B → oB (odI σ (nI P) v n a r k z) (B + r) := by
  intro r
  induction r with
  | zero => intro k z B _ h; exact h
  | succ r ih =>
    intro k z B hk h
    rw [odI_s, show B + (r + 1) = (B + 1) + r by omega]
    exact ih (k + 1) (by omega) (od_b hP hn (hc k (by omega)) h)
theorem oO_b {σ : xs} {P : Nat} (hP : P ≤ 10) {v : Int32} {n m M : Nat} (hn : n ≤ 6) (hc : ∀ a, a < M → ∀ b, b < m → pcN a + pcN b ≤ n) : ∀ (r k : Nat) {z : Int64} {B : Nat}, k + r = M → oB z B → oB (odO σ (nI P) v n m r k z) (B + r * m) := by
  intro r
  induction r with
  | zero => intro k z B _ h; rw [Nat.zero_mul]; exact h
  | succ r ih =>
    intro k z B hk h
    rw [odO_s, show B + (r + 1) * m = (B + m) + r * m by rw [Nat.succ_mul]; omega]
    exact ih (k + 1) (by omega) (oI_b hP hn (hc k (by omega)) m 0 (by omega) h)
theorem pc8 : ∀ k, k < 8 → pcN k ≤ 3 := by decide +kernel
theorem odn6 {σ : xs} (ok : hOk σ) : odn σ ≤ 6 := by
  have h0 := (hNext_n ok (s := 0) (by decide)).2.1
  have h1 := (hNext_n ok (s := 1) (by decide)).2.1
  have a := pc8 _ h0
  have b := pc8 _ h1
  unfold odn
  omega
theorem od_all {σ : xs} (ok : hOk σ) {P : Nat} (hP : P ≤ 10) (v : Int32) : ∃ s : Nat, s < 2 ^ 30 ∧ odO σ (nI P) v (odn σ) (nN σ 1 + 1) (nN σ 0 + 1) 0 0 = lN s := by
  have h0 := (hNext_n ok (s := 0) (by decide)).2
  have h1 := (hNext_n ok (s := 1) (by decide)).2
  obtain ⟨s, hs, e⟩ := oO_b (σ := σ) hP (v := v) (n := odn σ) (m := nN σ 1 + 1) (M := nN σ 0 + 1) (odn6 ok) (fun a ha b hb => by
    have x := h0.2 a (by omega)
    have y := h1.2 b (by omega)
    unfold odn
    omega) (nN σ 0 + 1) 0 (z := 0) (B := 0) (by omega) ⟨0, by omega, rfl⟩
  refine ⟨s, ?_, e⟩
  have : (nN σ 0 + 1) * (nN σ 1 + 1) ≤ 8 * 8 := Nat.mul_le_mul (by omega) (by omega)
  omega
theorem od_tf {σ : xs} (ok : hOk σ) {s : Nat} (hs : s < 2 ^ 30) (rv : Nat → Int64) : pwN 10 (odn σ) 1 = lN (10 ^ odn σ) ∧ 0 < 10 ^ odn σ ∧ 10 ^ odn σ ≤ 1000000 ∧ es 40 s (10 ^ odn σ) ∧ ¬ lN (gn 40 s (10 ^ odn σ)) = 0 ∧ tfV rv (lN s) (lN (10 ^ odn σ)) = vp_updL (vp_updL rv 0 (lN s / lN (gn 40 s (10 ^ odn σ)))) 1 (lN (10 ^ odn σ) / lN (gn 40 s (10 ^ odn σ))) := by
  have e1 := pwN_n (P := 10) (by omega) (odn σ) 1
  rw [Nat.one_mul] at e1
  have p0 : 0 < 10 ^ odn σ := Nat.pow_pos (by decide)
  have b6 : 10 ^ odn σ ≤ 10 ^ 6 := Nat.pow_le_pow_right (by decide) (odn6 ok)
  have b6 : 10 ^ odn σ ≤ 1000000 := b6
  have he : es 40 s (10 ^ odn σ) := es_k 20 _ _ (Nat.lt_of_le_of_lt b6 (by decide))
  have gp := gn_pos 40 s _ he (Or.inr p0)
  have gl := gn_le 40 s (10 ^ odn σ)
  have ne : ¬ lN (gn 40 s (10 ^ odn σ)) = 0 := fun q => by
    have := (pk_lEQ (b := 0) (by omega) (by decide)).mp q
    omega
  refine ⟨e1, p0, b6, he, ne, ?_⟩
  unfold tfV
  rw [gdN_gn 100 s _ (by omega) (by omega), show gn 100 s (10 ^ odn σ) = gn 40 s (10 ^ odn σ) from gn_es 40 _ _ he 60, if_neg ne]
set_option maxRecDepth 20000 in
theorem lp_mOddL {K : xK} {B : Nat} {l : Launch} {h0 : xH} {Y : Nat} {m : xs} {u : Nat → Nat → Int32} {v : Nat → Int64} {tn : Nat} {tf : xs} {rk : Int32} {rv : Nat → Int64} {σ : xs} {pn : Nat} {τ : Nat → xs} {ks : Nat → Bool} {κ : Nat → xs} {φ : xs → Int32} {hn : Nat} {hf hg : xs} {wn : Nat} {wf wg : xs} (C : maC K B l Y m u v tn tf rk rv σ pn τ ks κ φ hn hf hg wn wf wg) (h5 : m 5 = 0) {rd : Value} {Q : Option Value → xH → Prop} {pp : Nat} {x : Int32} {z : Int64} : ∀ (r k : Nat) {a : Int64} {h : xH} (hc : ∀ {h : xH} {x10 : Option Value}, xMw K h0 h Y m rd (Y + 6) (Y + 7) u v → xT K B l 206 RX12 false cX12_odds 16 (some .int) 0 0 0 0 (Q) 88 [some (.ref Y), some (.int (nI pp)), some (.int x), some (.int (nI (nN σ 0))), some (.int (nI (nN σ 1))), some (.int (nI (odn σ))), some (.long z), none, some (.long (pwN 10 r a)), none, x10, none, none, none, none, none] [] h) (W : xMw K h0 h Y m rd (Y + 6) (Y + 7) u v), k + r = odn σ → xT K B l 206 RX12 false cX12_odds 16 (some .int) 0 0 0 0 (Q) 67 [some (.ref Y), some (.int (nI pp)), some (.int x), some (.int (nI (nN σ 0))), some (.int (nI (nN σ 1))), some (.int (nI (odn σ))), some (.long z), none, some (.long a), none, some (.int (nI k)), none, none, none, none, none] [] h := by
  obtain ⟨T, Rw, ⟨R, ok, iv⟩, P, Kp, L, H, Sw⟩ := id C
  intro r
  induction r with
  | zero =>
    intro k a h hc W hk
    have n6 := odn6 ok
    refine xr_il10 dX12_odds_67 ?_
    refine xr_il5 dX12_odds_69 ?_
    refine xr_icmpge (tgt := 88) dX12_odds_71 (by decide) (fun zc71 => ?_) (fun zc71 => ?_)
    · skip
      exact hc W
    · skip
      exact absurd (nI_le (by omega) (by omega)) zc71
  | succ r ih =>
    intro k a h hc W hk
    have n6 := odn6 ok
    refine xr_il10 dX12_odds_67 ?_
    refine xr_il5 dX12_odds_69 ?_
    refine xr_icmpge (tgt := 88) dX12_odds_71 (by decide) (fun zc71 => ?_) (fun zc71 => ?_)
    · skip
      exact absurd zc71 (nI_ge (by omega) (by omega))
    · skip
      refine xr_ll8 dX12_odds_74 ?_
      refine xr_ldc2 nX12_337 dX12_odds_76 ?_
      refine xr_lmul dX12_odds_79 ?_
      refine xr_ls8 dX12_odds_80 (by decide) rfl ?_
      refine xr_inc10 dX12_odds_82 (nI_inc k) (by decide) rfl ?_
      refine xr_goto (tgt := 67) dX12_odds_85 (by decide) ?_
      rw [pwN_s] at hc
      exact ih (k + 1) hc W (by omega)
set_option maxRecDepth 20000 in
theorem lp_mOddP {K : xK} {B : Nat} {l : Launch} {h0 : xH} {Y : Nat} {m : xs} {u : Nat → Nat → Int32} {v : Nat → Int64} {tn : Nat} {tf : xs} {rk : Int32} {rv : Nat → Int64} {σ : xs} {pn : Nat} {τ : Nat → xs} {ks : Nat → Bool} {κ : Nat → xs} {φ : xs → Int32} {hn : Nat} {hf hg : xs} {wn : Nat} {wf wg : xs} (C : maC K B l Y m u v tn tf rk rv σ pn τ ks κ φ hn hf hg wn wf wg) (h5 : m 5 = 0) {rd : Value} {Q : Option Value → xH → Prop} {pp : Nat} {x : Int32} {z lo : Int64} {i j c : Nat} (hc6 : c ≤ 10) : ∀ (r k : Nat) {a : Int64} {h : xH} (hc : ∀ {h : xH} {x15 : Option Value}, xMw K h0 h Y m rd (Y + 6) (Y + 7) u v → xT K B l 206 RX12 false cX12_odds 16 (some .int) 0 0 0 0 (Q) 179 [some (.ref Y), some (.int (nI pp)), some (.int x), some (.int (nI (nN σ 0))), some (.int (nI (nN σ 1))), some (.int (nI (odn σ))), some (.long z), none, some (.long lo), none, some (.int (nI i)), some (.int (nI j)), some (.int (nI c)), some (.long (pq (nI pp) c r k a)), none, x15] [] h) (W : xMw K h0 h Y m rd (Y + 6) (Y + 7) u v), k + r = odn σ → xT K B l 206 RX12 false cX12_odds 16 (some .int) 0 0 0 0 (Q) 144 [some (.ref Y), some (.int (nI pp)), some (.int x), some (.int (nI (nN σ 0))), some (.int (nI (nN σ 1))), some (.int (nI (odn σ))), some (.long z), none, some (.long lo), none, some (.int (nI i)), some (.int (nI j)), some (.int (nI c)), some (.long a), none, some (.int (nI k))] [] h := by
  obtain ⟨T, Rw, ⟨R, ok, iv⟩, P, Kp, L, H, Sw⟩ := id C
  intro r
  induction r with
  | zero =>
    intro k a h hc W hk
    have n6 := odn6 ok
    refine xr_il15 dX12_odds_144 ?_
    refine xr_il5 dX12_odds_146 ?_
    refine xr_icmpge (tgt := 179) dX12_odds_148 (by decide) (fun zc148 => ?_) (fun zc148 => ?_)
    · skip
      exact hc W
    · skip
      exact absurd (nI_le (by omega) (by omega)) zc148
  | succ r ih =>
    intro k a h hc W hk
    have n6 := odn6 ok
    refine xr_il15 dX12_odds_144 ?_
    refine xr_il5 dX12_odds_146 ?_
    refine xr_icmpge (tgt := 179) dX12_odds_148 (by decide) (fun zc148 => ?_) (fun zc148 => ?_)
    · skip
      exact absurd zc148 (nI_ge (by omega) (by omega))
    · skip
      refine xr_ll13 dX12_odds_151 ?_
      refine xr_il15 dX12_odds_153 ?_
      refine xr_il12 dX12_odds_155 ?_
      refine xr_icmpge (tgt := 165) dX12_odds_157 (by decide) (fun zc157 => ?_) (fun zc157 => ?_)
      · skip
        refine xr_bipush (v := 10) dX12_odds_165 (by decide) ?_
        refine xr_il1 dX12_odds_167 ?_
        refine xr_isub dX12_odds_168 ?_
        refine xr_i2l dX12_odds_169 ?_
        refine xr_lmul dX12_odds_170 ?_
        refine xr_ls13 dX12_odds_171 (by decide) rfl ?_
        refine xr_inc15 dX12_odds_173 (nI_inc k) (by decide) rfl ?_
        refine xr_goto (tgt := 144) dX12_odds_176 (by decide) ?_
        rw [pq_s, if_neg (fun q => absurd zc157 (nI_ge q (by omega)))] at hc
        exact ih (k + 1) hc W (by omega)
      · skip
        refine xr_il1 dX12_odds_160 ?_
        refine xr_i2l dX12_odds_161 ?_
        refine xr_goto (tgt := 170) dX12_odds_162 (by decide) ?_
        refine xr_lmul dX12_odds_170 ?_
        refine xr_ls13 dX12_odds_171 (by decide) rfl ?_
        refine xr_inc15 dX12_odds_173 (nI_inc k) (by decide) rfl ?_
        refine xr_goto (tgt := 144) dX12_odds_176 (by decide) ?_
        rw [pq_s, if_pos (Nat.lt_of_not_le (fun q => zc157 (nI_le q (by omega))))] at hc
        exact ih (k + 1) hc W (by omega)
set_option maxRecDepth 20000 in
theorem lp_mOddI {K : xK} {B : Nat} {l : Launch} {h0 : xH} {Y : Nat} {m : xs} {u : Nat → Nat → Int32} {v : Nat → Int64} {tn : Nat} {tf : xs} {rk : Int32} {rv : Nat → Int64} {σ : xs} {pn : Nat} {τ : Nat → xs} {ks : Nat → Bool} {κ : Nat → xs} {φ : xs → Int32} {hn : Nat} {hf hg : xs} {wn : Nat} {wf wg : xs} (C : maC K B l Y m u v tn tf rk rv σ pn τ ks κ φ hn hf hg wn wf wg) (h5 : m 5 = 0) {rd : Value} {Q : Option Value → xH → Prop} {pp : Nat} {x : Int32} {lo : Int64} {i : Nat} (hi : i ≤ nN σ 0) : ∀ (r j : Nat) {z : Int64} {x12 x13 x14 x15 : Option Value} {h : xH} (hc : ∀ {h : xH} {x11 x12 x13 x14 x15 : Option Value}, xMw K h0 h Y m rd (Y + 6) (Y + 7) u v → xT K B l 206 RX12 false cX12_odds 16 (some .int) 0 0 0 0 (Q) 192 [some (.ref Y), some (.int (nI pp)), some (.int x), some (.int (nI (nN σ 0))), some (.int (nI (nN σ 1))), some (.int (nI (odn σ))), some (.long (odI σ (nI pp) x (odn σ) i r j z)), none, some (.long lo), none, some (.int (nI i)), x11, x12, x13, x14, x15] [] h) (W : xMw K h0 h Y m rd (Y + 6) (Y + 7) u v), j + r = nN σ 1 + 1 → xT K B l 206 RX12 false cX12_odds 16 (some .int) 0 0 0 0 (Q) 100 [some (.ref Y), some (.int (nI pp)), some (.int x), some (.int (nI (nN σ 0))), some (.int (nI (nN σ 1))), some (.int (nI (odn σ))), some (.long z), none, some (.long lo), none, some (.int (nI i)), some (.int (nI j)), x12, x13, x14, x15] [] h := by
  obtain ⟨T, Rw, ⟨R, ok, iv⟩, P, Kp, L, H, Sw⟩ := id C
  intro r
  induction r with
  | zero =>
    intro j z x12 x13 x14 x15 h hc W hk
    have n6 := odn6 ok
    have hn0 := (hNext_n ok (s := 0) (by decide)).2
    have hn1 := (hNext_n ok (s := 1) (by decide)).2
    refine xr_il11 dX12_odds_100 ?_
    refine xr_il4 dX12_odds_102 ?_
    refine xr_icmpgt (tgt := 192) dX12_odds_104 (by decide) (fun zc104 => ?_) (fun zc104 => ?_)
    · skip
      exact hc W
    · skip
      exact absurd (nI_lt (by omega) (by omega)) zc104
  | succ r ih =>
    intro j z x12 x13 x14 x15 h hc W hk
    have n6 := odn6 ok
    have hn0 := (hNext_n ok (s := 0) (by decide)).2
    have hn1 := (hNext_n ok (s := 1) (by decide)).2
    refine xr_il11 dX12_odds_100 ?_
    refine xr_il4 dX12_odds_102 ?_
    refine xr_icmpgt (tgt := 192) dX12_odds_104 (by decide) (fun zc104 => ?_) (fun zc104 => ?_)
    · skip
      exact absurd zc104 (nI_nlt (by omega) (by omega))
    · skip
      refine xr_al0 dX12_odds_107 ?_
      refine xr_get W.o fX12_9 rfl dX12_odds_108 ?_
      refine xr_il10 dX12_odds_111 ?_
      refine xr_il11 dX12_odds_113 ?_
      refine xr_Si3 (s_mWater W.a1 (rr_ok R ok) _ _) kX12_218 (by decide) (Nat.le_of_ble_eq_true rfl) (Nat.zero_add _) (Nat.zero_add _) dX12_odds_115 ?_
      refine xr_eqi (y := hWater σ (nI i) (nI j)) (rr_water R _ _) ?_
      refine xr_il2 dX12_odds_118 ?_
      refine xr_icmple (tgt := 125) dX12_odds_119 (by decide) (fun zc119 => ?_) (fun zc119 => ?_)
      · skip
        refine xr_il10 dX12_odds_125 ?_
        refine xr_Si1 (s_bitCount _) kX12_229 (by decide) (Nat.le_of_ble_eq_true rfl) (Nat.zero_add _) (Nat.zero_add _) dX12_odds_127 ?_
        refine xr_eqi (bc_n i (by omega)).1 ?_
        refine xr_il11 dX12_odds_130 ?_
        refine xr_Si1 (s_bitCount _) kX12_229 (by decide) (Nat.le_of_ble_eq_true rfl) (Nat.zero_add _) (Nat.zero_add _) dX12_odds_132 ?_
        refine xr_eqi (bc_n j (by omega)).1 ?_
        refine xr_iadd dX12_odds_135 ?_
        refine xr_eqi (y := nI (pcN i + pcN j)) (nI_add _ _) ?_
        refine xr_is12 dX12_odds_136 (by decide) rfl ?_
        refine xr_lc1 dX12_odds_138 ?_
        refine xr_ls13 dX12_odds_139 (by decide) rfl ?_
        refine xr_ic0 dX12_odds_141 ?_
        refine xr_is15 dX12_odds_142 (by decide) rfl ?_
        have q1 := (bc_n i (by omega)).2
        have q2 := (bc_n j (by omega)).2
        refine lp_mOddP C h5 (by omega) (odn σ) 0 (fun {h} {x15} W => ?_) W (by omega)
        refine xr_ll6 dX12_odds_179 ?_
        refine xr_ll13 dX12_odds_181 ?_
        refine xr_ladd dX12_odds_183 ?_
        refine xr_ls6 dX12_odds_184 (by decide) rfl ?_
        refine xr_inc11 dX12_odds_186 (nI_inc j) (by decide) rfl ?_
        refine xr_goto (tgt := 100) dX12_odds_189 (by decide) ?_
        have cl : pcN i + pcN j ≤ odn σ := by
          have a := hn0.2 i hi
          have b := hn1.2 j (by omega)
          unfold odn
          omega
        rw [odI_s, show od1 σ (nI pp) x (odn σ) i j z = z + pwN (nI pp) (pcN i + pcN j) 1 * pwN (10 - nI pp) (odn σ - (pcN i + pcN j)) 1 from if_neg (Int32.not_lt.mpr zc119), ← pq_e _ cl] at hc
        exact ih (j + 1) hc W (by omega)
      · skip
        refine xr_goto (tgt := 186) dX12_odds_122 (by decide) ?_
        refine xr_inc11 dX12_odds_186 (nI_inc j) (by decide) rfl ?_
        refine xr_goto (tgt := 100) dX12_odds_189 (by decide) ?_
        rw [odI_s, show od1 σ (nI pp) x (odn σ) i j z = z from if_pos (Int32.not_le.mp zc119)] at hc
        exact ih (j + 1) hc W (by omega)
set_option maxRecDepth 20000 in
theorem lp_mOddO {K : xK} {B : Nat} {l : Launch} {h0 : xH} {Y : Nat} {m : xs} {u : Nat → Nat → Int32} {v : Nat → Int64} {tn : Nat} {tf : xs} {rk : Int32} {rv : Nat → Int64} {σ : xs} {pn : Nat} {τ : Nat → xs} {ks : Nat → Bool} {κ : Nat → xs} {φ : xs → Int32} {hn : Nat} {hf hg : xs} {wn : Nat} {wf wg : xs} (C : maC K B l Y m u v tn tf rk rv σ pn τ ks κ φ hn hf hg wn wf wg) (h5 : m 5 = 0) {rd : Value} {pp : Nat} (hP : pp ≤ 10) {x : Int32} : ∀ (r i : Nat) {z : Int64} {x11 x12 x13 x14 x15 : Option Value} {h : xH} (hz : odO σ (nI pp) x (odn σ) (nN σ 1 + 1) r i z = (odO σ (nI pp) x (odn σ) (nN σ 1 + 1) (nN σ 0 + 1) 0 0)) (W : xMw K h0 h Y m rd (Y + 6) (Y + 7) u v), i + r = nN σ 0 + 1 → xT K B l 206 RX12 false cX12_odds 16 (some .int) 0 0 0 0 (xPi (fun zr g => zr = (odE rv (odn σ) (odO σ (nI pp) x (odn σ) (nN σ 1 + 1) (nN σ 0 + 1) 0 0)).1 ∧ xMa K B l h0 g Y 0 tn tf ((odE rv (odn σ) (odO σ (nI pp) x (odn σ) (nN σ 1 + 1) (nN σ 0 + 1) 0 0)).2.1) ((odE rv (odn σ) (odO σ (nI pp) x (odn σ) (nN σ 1 + 1) (nN σ 0 + 1) 0 0)).2.2) σ pn τ ks κ φ hn hf hg wn wf wg)) 91 [some (.ref Y), some (.int (nI pp)), some (.int x), some (.int (nI (nN σ 0))), some (.int (nI (nN σ 1))), some (.int (nI (odn σ))), some (.long z), none, some (.long (pwN 10 (odn σ) 1)), none, some (.int (nI i)), x11, x12, x13, x14, x15] [] h := by
  obtain ⟨T, Rw, ⟨R, ok, iv⟩, P, Kp, L, H, Sw⟩ := id C
  intro r
  induction r with
  | zero =>
    intro i z x11 x12 x13 x14 x15 h hz W hk
    have n6 := odn6 ok
    have hn0 := (hNext_n ok (s := 0) (by decide)).2
    have hn1 := (hNext_n ok (s := 1) (by decide)).2
    refine xr_il10 dX12_odds_91 ?_
    refine xr_il3 dX12_odds_93 ?_
    refine xr_icmpgt (tgt := 198) dX12_odds_94 (by decide) (fun zc94 => ?_) (fun zc94 => ?_)
    · skip
      obtain ⟨s, hs, e0⟩ := od_all ok hP x
      have ez : z = lN s := hz.trans e0
      obtain ⟨e1, p0, b6, he, ne, et⟩ := od_tf ok hs rv
      rw [ez, e1]
      refine xr_ll6 dX12_odds_198 ?_
      refine xr_ll8 dX12_odds_200 ?_
      refine xr_Sl2 (s_common 40 (by omega) (by omega) he) kX12_333 (by decide) (Nat.le_of_ble_eq_true rfl) (Nat.zero_add _) (Nat.zero_add _) dX12_odds_202 ?_
      refine xr_ls10 dX12_odds_205 (by decide) rfl ?_
      refine xr_al0 dX12_odds_207 ?_
      refine xr_ic0 dX12_odds_208 ?_
      refine xr_put W.o fX12_86 (Nat.le_of_ble_eq_true rfl) rfl rfl dX12_odds_209 ?_
      refine xT.nm (fun zh1 zg1 => ?_)
      have W := W.f4 zg1
      refine xr_al0 dX12_odds_212 ?_
      refine xr_ll6 dX12_odds_213 ?_
      refine xr_ll10 dX12_odds_215 ?_
      refine xr_ldiv dX12_odds_217 ne ?_
      refine xr_Vpv1 (s_mTell W (k := 0) rfl (by decide) _) kX12_253 (by decide) (Nat.le_of_ble_eq_true rfl) (Nat.zero_add _) (Nat.zero_add _) dX12_odds_218 (fun zh2 zq2 => ?_)
      have W := zq2
      refine xr_al0 dX12_odds_221 ?_
      refine xr_ll8 dX12_odds_222 ?_
      refine xr_ll10 dX12_odds_224 ?_
      refine xr_ldiv dX12_odds_226 ne ?_
      refine xr_Vpv1 (s_mTell W (k := 1) rfl (by decide) _) kX12_253 (by decide) (Nat.le_of_ble_eq_true rfl) (Nat.zero_add _) (Nat.zero_add _) dX12_odds_227 (fun zh3 zq3 => ?_)
      have W := zq3
      refine xr_ic0 dX12_odds_230 ?_
      refine xr_iret dX12_odds_231 rfl ?_
      refine ⟨_, rfl, rfl, ⟨_, _, _, _, W, T, ?_, ⟨R, ok, iv⟩, P, Kp, L, H, Sw, h5⟩⟩
      rw [e0]
      show maR 2 _ 2 (tfV rv (lN s) (pwN 10 (odn σ) 1))
      rw [e1, et]
      exact ⟨2, by decide, rfl, rfl, fun j hj => by rcases (show j = 0 ∨ j = 1 by omega) with rfl | rfl <;> rfl⟩
    · skip
      exact absurd (nI_lt (by omega) (by omega)) zc94
  | succ r ih =>
    intro i z x11 x12 x13 x14 x15 h hz W hk
    have n6 := odn6 ok
    have hn0 := (hNext_n ok (s := 0) (by decide)).2
    have hn1 := (hNext_n ok (s := 1) (by decide)).2
    refine xr_il10 dX12_odds_91 ?_
    refine xr_il3 dX12_odds_93 ?_
    refine xr_icmpgt (tgt := 198) dX12_odds_94 (by decide) (fun zc94 => ?_) (fun zc94 => ?_)
    · skip
      exact absurd zc94 (nI_nlt (by omega) (by omega))
    · skip
      refine xr_ic0 dX12_odds_97 ?_
      refine xr_is11 dX12_odds_98 (by decide) rfl ?_
      refine lp_mOddI C h5 (by omega) (nN σ 1 + 1) 0 (fun {h} {x11} {x12} {x13} {x14} {x15} W => ?_) W (by omega)
      refine xr_inc10 dX12_odds_192 (nI_inc i) (by decide) rfl ?_
      refine xr_goto (tgt := 91) dX12_odds_195 (by decide) ?_
      rw [odO_s] at hz
      exact ih (i + 1) hz W (by omega)
set_option maxRecDepth 20000 in
theorem a_odds {K : xK} {B : Nat} {l : Launch} {h0 h : xH} {Y : Nat} {th : Int32} {tn : Nat} {tf : xs} {rk : Int32} {rv : Nat → Int64} {σ : xs} {pn : Nat} {τ : Nat → xs} {ks : Nat → Bool} {κ : Nat → xs} {φ : xs → Int32} {hn : Nat} {hf hg : xs} {wn : Nat} {wf wg : xs} (A : xMa K B l h0 h Y th tn tf rk rv σ pn τ ks κ φ hn hf hg wn wf wg) (p x : Int32) : xV K B l 206 mX12_odds 0 0 (Y) [.int p, .int x] h (xPi (fun zr g => zr = (odR σ rk rv p x).1 ∧ xMa K B l h0 g Y 0 tn tf ((odR σ rk rv p x).2.1) ((odR σ rk rv p x).2.2) σ pn τ ks κ φ hn hf hg wn wf wg)) := by
  obtain ⟨m, rd, u, v, W, T, Rw, ⟨R, ok, iv⟩, P, Kp, L, H, Sw, hth⟩ := A
  refine ⟨⟨_, _, _, _, W.o, rfl⟩, qX12_odds, ?_⟩
  refine xS.intro RX12 false ⟨rfl, rfl, by decide, by decide, Nat.le_of_ble_eq_true rfl⟩ (ls := [some (.ref Y), some (.int p), some (.int x), none, none, none, none, none, none, none, none, none, none, none, none, none]) rfl ?_
  refine xr_al0 dX12_odds_0 ?_
  refine xr_ic0 dX12_odds_1 ?_
  refine xr_put W.o fX12_82 (Nat.le_of_ble_eq_true rfl) rfl rfl dX12_odds_2 ?_
  refine xT.nm (fun zh1 zg1 => ?_)
  have W := W.f5 zg1
  refine xr_il1 dX12_odds_5 ?_
  refine xr_ic0 dX12_odds_6 ?_
  refine xr_bipush (v := 10) dX12_odds_7 (by decide) ?_
  refine xr_Si3 (s_mIn _ _ _) kX12_89 (by decide) (Nat.le_of_ble_eq_true rfl) (Nat.zero_add _) (Nat.zero_add _) dX12_odds_9 ?_
  refine xr_ifeq (tgt := 25) dX12_odds_12 (by decide) (fun zc12 => ?_) (fun zc12 => ?_)
  · skip
    refine xr_icm1 dX12_odds_25 ?_
    refine xr_iret dX12_odds_26 rfl ?_
    have e : (odR σ rk rv p x) = _ := if_pos (Or.inl (mIn_0.mp zc12))
    rw [e]
    exact ⟨_, rfl, rfl, ⟨_, _, _, _, W, T, Rw, ⟨R, ok, iv⟩, P, Kp, L, H, Sw, rfl⟩⟩
  · skip
    refine xr_il2 dX12_odds_15 ?_
    refine xr_ic0 dX12_odds_16 ?_
    refine xr_bipush (v := 99) dX12_odds_17 (by decide) ?_
    refine xr_Si3 (s_mIn _ _ _) kX12_89 (by decide) (Nat.le_of_ble_eq_true rfl) (Nat.zero_add _) (Nat.zero_add _) dX12_odds_19 ?_
    refine xr_ifne (tgt := 27) dX12_odds_22 (by decide) (fun zc22 => ?_) (fun zc22 => ?_)
    · skip
      have hn0 := (hNext_n ok (s := 0) (by decide)).2.1
      have hn1 := (hNext_n ok (s := 1) (by decide)).2.1
      obtain ⟨P', hP, rfl⟩ := in_at (N := 10) rfl (by decide) zc12
      refine xr_al0 dX12_odds_27 ?_
      refine xr_get W.o fX12_9 rfl dX12_odds_28 ?_
      refine xr_ic0 dX12_odds_31 ?_
      refine xr_Si2 (s_mNextOf W.a1 (rr_ok R ok) (s := 0) (by decide)) kX12_234 (by decide) (Nat.le_of_ble_eq_true rfl) (Nat.zero_add _) (Nat.zero_add _) dX12_odds_32 ?_
      refine xr_eqi (y := nI (nN σ 0)) ((rr_next R _).trans (hNext_n ok (s := 0) (by decide)).1) ?_
      refine xr_is3 dX12_odds_35 (by decide) rfl ?_
      refine xr_al0 dX12_odds_36 ?_
      refine xr_get W.o fX12_9 rfl dX12_odds_37 ?_
      refine xr_ic1 dX12_odds_40 ?_
      refine xr_Si2 (s_mNextOf W.a1 (rr_ok R ok) (s := 1) (by decide)) kX12_234 (by decide) (Nat.le_of_ble_eq_true rfl) (Nat.zero_add _) (Nat.zero_add _) dX12_odds_41 ?_
      refine xr_eqi (y := nI (nN σ 1)) ((rr_next R _).trans (hNext_n ok (s := 1) (by decide)).1) ?_
      refine xr_is4 dX12_odds_44 (by decide) rfl ?_
      refine xr_il3 dX12_odds_46 ?_
      refine xr_Si1 (s_bitCount _) kX12_229 (by decide) (Nat.le_of_ble_eq_true rfl) (Nat.zero_add _) (Nat.zero_add _) dX12_odds_47 ?_
      refine xr_eqi (bc_n _ (by omega)).1 ?_
      refine xr_il4 dX12_odds_50 ?_
      refine xr_Si1 (s_bitCount _) kX12_229 (by decide) (Nat.le_of_ble_eq_true rfl) (Nat.zero_add _) (Nat.zero_add _) dX12_odds_52 ?_
      refine xr_eqi (bc_n _ (by omega)).1 ?_
      refine xr_iadd dX12_odds_55 ?_
      refine xr_eqi (y := nI (odn σ)) (nI_add _ _) ?_
      refine xr_is5 dX12_odds_56 (by decide) rfl ?_
      refine xr_lc0 dX12_odds_58 ?_
      refine xr_ls6 dX12_odds_59 (by decide) rfl ?_
      refine xr_lc1 dX12_odds_61 ?_
      refine xr_ls8 dX12_odds_62 (by decide) rfl ?_
      refine xr_ic0 dX12_odds_64 ?_
      refine xr_is10 dX12_odds_65 (by decide) rfl ?_
      have e : (odR σ rk rv (nI P') x) = _ := if_neg (fun q => q.elim (fun z => zc12 (mIn_0.mpr z)) (fun z => zc22 (mIn_0.mpr z)))
      rw [e]
      have C : maC K B l Y (upd m 5 0) u v tn tf rk rv σ pn τ ks κ φ hn hf hg wn wf wg := ⟨T, Rw, ⟨R, ok, iv⟩, P, Kp, L, H, Sw⟩
      refine lp_mOddL C rfl (odn σ) 0 (fun {h} {x10} W => ?_) W (by omega)
      refine xr_ic0 dX12_odds_88 ?_
      refine xr_is10 dX12_odds_89 (by decide) rfl ?_
      exact lp_mOddO C rfl hP (nN σ 0 + 1) 0 rfl W (by omega)
    · skip
      refine xr_icm1 dX12_odds_25 ?_
      refine xr_iret dX12_odds_26 rfl ?_
      have e : (odR σ rk rv p x) = _ := if_pos (Or.inr (mIn_0.mp zc22))
      rw [e]
      exact ⟨_, rfl, rfl, ⟨_, _, _, _, W, T, Rw, ⟨R, ok, iv⟩, P, Kp, L, H, Sw, rfl⟩⟩
