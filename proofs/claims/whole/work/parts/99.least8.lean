/-! The class's plan: one trip more, and the first trip -/
def lbN (a : Nat) : Nat := a &&& (32 - a)
theorem lb_e : ∀ a, a < 32 → nI a &&& (0 - nI a) = nI (lbN a) := by decide +kernel
theorem lb_s (a : Nat) (h : a < 32) : lbN a &&& a = lbN a := by
  unfold lbN
  rw [Nat.and_comm, ← Nat.and_assoc, Nat.and_self]
theorem lb_j : ∀ a, a < 32 → ¬ a = 0 → ∃ j, j < 5 ∧ lbN a = 2 ^ j ∧ a.testBit j = true := by decide +kernel
theorem lb_p : ∀ j, j < 5 → ∀ p, p < 32 → p.testBit j = true → 2 ^ j &&& p = 2 ^ j := by decide +kernel
theorem sb_m {p a m : Nat} (h : p &&& a = p) (hm : m &&& p = m) : (p ^^^ m) ||| m = p ∧ (p ^^^ m) &&& (a ^^^ m) = p ^^^ m := by
  have q : ∀ i, p.testBit i = true → a.testBit i = true := by
    intro i hi
    have := congrArg (fun z => z.testBit i) h
    simp only [Nat.testBit_and, hi, Bool.true_and] at this
    exact this
  have q' : ∀ i, m.testBit i = true → p.testBit i = true := by
    intro i hi
    have := congrArg (fun z => z.testBit i) hm
    simp only [Nat.testBit_and, hi, Bool.true_and] at this
    exact this
  refine ⟨?_, ?_⟩
  · apply Nat.eq_of_testBit_eq
    intro i
    rw [Nat.testBit_or, Nat.testBit_xor]
    have := q' i
    revert this
    cases p.testBit i <;> cases m.testBit i <;> simp
  · apply Nat.eq_of_testBit_eq
    intro i
    rw [Nat.testBit_and, Nat.testBit_xor, Nat.testBit_xor]
    have := q' i
    have := q i
    revert this
    revert this
    cases a.testBit i <;> cases m.testBit i <;> cases p.testBit i <;> simp
theorem lf_CC {σ : xs} {t a b ma mb : Nat} (ha : a < 32) (hb : b < 32) (hma : ma &&& a = ma) (hmb : mb &&& b = mb) (nz : ¬ (ma = 0 ∧ mb = 0)) (ex : ∃ (e : Bool) (j : Nat), inG e j a b ∧ ∀ p q, p &&& a = p → q &&& b = q → inG e j p q → ma &&& p = ma ∧ mb &&& q = mb) (y : Nat) : (∃ k, k &&& (a ^^^ ma) = k ∧ lfG σ t a b ma mb k y) ↔ CC (sn σ) (wfN σ) false (t + 1) a b y := by
  constructor
  · rintro ⟨k, hk, hs, k2, hk2, hs2, w, hw, rfl⟩
    refine ⟨k ||| ma, k2 ||| mb, w, ⟨sb_or hma hk, sb_or hmb hk2, ?_, hs, hs2, fun z => absurd z (by simp)⟩, hw, rfl⟩
    rintro ⟨z1, z2⟩
    exact nz ⟨(Nat.or_eq_zero_iff.mp z1).2, (Nat.or_eq_zero_iff.mp z2).2⟩
  · intro h
    obtain ⟨e, j, hi, hx⟩ := ex
    obtain ⟨p, q, w, ho, hi', hC, rfl⟩ := CC_ex e j t a b y h hi
    obtain ⟨m1, m2⟩ := hx p q ho.1 ho.2.1 hi'
    obtain ⟨a1, a2⟩ := sb_m ho.1 m1
    obtain ⟨b1, b2⟩ := sb_m ho.2.1 m2
    refine ⟨p ^^^ ma, a2, ?_, q ^^^ mb, b2, ?_, w, ?_, ?_⟩
    · rw [a1]
      exact ho.2.2.2.1
    · rw [b1]
      exact ho.2.2.2.2.1
    · rw [a1, b1]
      exact hC
    · rw [a1, b1]
theorem lfV_is {σ : xs} (iv : hIv σ) (ok : hOk σ) {t : Nat} (ht : t ≤ 10) {kn : xs} (hkn : knT σ t kn) {a b : Nat} (ha : a ≤ aN σ 0) (hb : b ≤ aN σ 1) : rpM (CC (sn σ) (wfN σ) false (t + 1) a b) (lfV kn (gU σ) (gL σ) (σ 12) (σ 13) (nI a) (nI b)) := by
  have h0 := (hAll_n ok (s := 0) (by decide)).2
  have h1 := (hAll_n ok (s := 1) (by decide)).2
  have ha' : a < 32 := by omega
  have hb' : b < 32 := by omega
  have la := sb_le (lb_s a ha')
  have lb := sb_le (lb_s b hb')
  unfold lfV
  by_cases ca : a = 0
  · subst ca
    by_cases cb : b = 0
    · subst cb
      rw [if_pos ⟨rfl, rfl⟩]
      refine Or.inl ⟨rfl, ?_⟩
      rintro y ⟨p, q, w, ho, _, _⟩
      have l1 := sb_le ho.1
      have l2 := sb_le ho.2.1
      exact ho.2.2.1 ⟨by omega, by omega⟩
    · rw [if_neg (fun z => nI_ne0 (n := b) (by omega) (by omega) z.2), lb_e 0 ha', if_pos (show nI 0 = 0 from rfl), lb_e b hb', xr32 0 ha' (lbN 0) (by decide)]
      refine rpM_cg (fun y => lf_CC ha' hb' (lb_s 0 ha') (lb_s b hb') ?_ ?_ y) (lfN_is iv ok ht hkn ha hb (lb_s 0 ha') (lb_s b hb'))
      · rintro ⟨_, z⟩
        obtain ⟨j, _, e, _⟩ := lb_j b hb' cb
        have := Nat.two_pow_pos j
        omega
      · obtain ⟨j, hj, e, tb⟩ := lb_j b hb' cb
        refine ⟨false, j, tb, fun p q _ hq hi => ⟨by rw [show lbN 0 = 0 from rfl]; exact Nat.zero_and p, ?_⟩⟩
        have := sb_le hq
        rw [e]
        exact lb_p j hj q (by omega) hi
  · have n0 : ¬ nI a = 0 := nI_ne0 (by omega) (by omega)
    rw [if_neg (fun z => n0 z.1), lb_e a ha', if_neg n0, xr32 a ha' (lbN a) (by omega)]
    refine rpM_cg (fun y => lf_CC ha' hb' (lb_s a ha') (mb := 0) (Nat.zero_and b) ?_ ?_ y) (lfN_is iv ok ht hkn ha hb (lb_s a ha') (Nat.zero_and b))
    · rintro ⟨z, _⟩
      obtain ⟨j, _, e, _⟩ := lb_j a ha' ca
      have := Nat.two_pow_pos j
      omega
    · obtain ⟨j, hj, e, tb⟩ := lb_j a ha' ca
      refine ⟨true, j, tb, fun p q hp _ hi => ⟨?_, Nat.zero_and q⟩⟩
      have := sb_le hp
      rw [e]
      exact lb_p j hj p (by omega) hi
def amX (σ kn : xs) (t : Int32) (a b : Nat) : Int32 := if ¬ t * σ 12 < bc (nI a) ∧ ¬ t * σ 12 < bc (nI b) then lfV kn (gU σ) (gL σ) (σ 12) (σ 13) (nI a) (nI b) else 1048576
theorem amX_is {σ : xs} (iv : hIv σ) (ok : hOk σ) {t : Nat} (ht : t ≤ 10) {kn : xs} (hkn : knT σ t kn) {a b : Nat} (ha : a ≤ aN σ 0) (hb : b ≤ aN σ 1) : rpM (CC (sn σ) (wfN σ) false (t + 1) a b) (amX σ kn (nI t + 1) a b) := by
  have h0 := (hAll_n ok (s := 0) (by decide)).2
  have h1 := (hAll_n ok (s := 1) (by decide)).2
  have h3 := ok.2.2.2
  have m3 : (t + 1) * sn σ ≤ 11 * 3 := Nat.mul_le_mul (by omega) h3
  have k : ∀ p, p < 32 → pcM p ≤ (t + 1) * sn σ → ¬ (nI t + 1) * σ 12 < bc (nI p) := by
    intro p hp h
    rw [show nI t + 1 = nI (t + 1) from nI_1 t, ok.2.1, pk_mul, bc_pc p hp]
    exact nI_nlt h (by omega)
  unfold amX
  by_cases c : ¬ (nI t + 1) * σ 12 < bc (nI a) ∧ ¬ (nI t + 1) * σ 12 < bc (nI b)
  · rw [if_pos c]
    exact lfV_is iv ok ht hkn ha hb
  · rw [if_neg c]
    refine Or.inl ⟨rfl, fun y hy => c ?_⟩
    have q := CC_pc _ _ _ _ (by omega) (by omega) hy
    exact ⟨k a (by omega) q.1, k b (by omega) q.2⟩
theorem am_I (σ kn : xs) (t : Int32) {a : Nat} (ha : a < 32) : ∀ (r k : Nat) (z : xs), k + r ≤ 32 → ∀ j, amI kn (gU σ) (gL σ) (σ 12) (σ 13) t (nI a) r k z j = if 32 * a + k ≤ j ∧ j < 32 * a + k + r then amX σ kn t a (j - 32 * a) else z j := by
  intro r
  induction r with
  | zero =>
    intro k z _ j
    rw [if_neg (by omega)]
    rfl
  | succ r ih =>
    intro k z hk j
    rw [amI_s, ih (k + 1) _ (by omega) j]
    have e : am1 kn (gU σ) (gL σ) (σ 12) (σ 13) t (nI a) (nI k) z = upd z (32 * a + k) (amX σ kn t a k) := by
      unfold am1 amX
      rw [ix32 ha (by omega)]
    rw [e]
    by_cases c : j = 32 * a + k
    · subst c
      rw [if_neg (by omega), if_pos (by omega), pk_us, Nat.add_sub_cancel_left]
    · rw [upd_hi _ _ c]
      by_cases d : 32 * a + (k + 1) ≤ j ∧ j < 32 * a + (k + 1) + r
      · rw [if_pos d, if_pos (by omega)]
      · rw [if_neg d, if_neg (by omega)]
theorem am_O (σ kn : xs) (t : Int32) {n : Nat} (hn : n ≤ 32) : ∀ (r k : Nat) (z : xs), k + r ≤ 32 → ∀ a b, b < n → (k ≤ a → a < k + r → amO kn (gU σ) (gL σ) (σ 12) (σ 13) t n r k z (32 * a + b) = amX σ kn t a b) ∧ (a < k → amO kn (gU σ) (gL σ) (σ 12) (σ 13) t n r k z (32 * a + b) = z (32 * a + b)) := by
  intro r
  induction r with
  | zero =>
    intro k z _ a b _
    exact ⟨fun h1 h2 => absurd h2 (by omega), fun _ => rfl⟩
  | succ r ih =>
    intro k z hk a b hb
    rw [amO_s]
    have q := ih (k + 1) (amI kn (gU σ) (gL σ) (σ 12) (σ 13) t (nI k) n 0 z) (by omega) a b hb
    have e := am_I σ kn t (a := k) (by omega) n 0 z (by omega) (32 * a + b)
    constructor
    · intro h1 h2
      by_cases c : a = k
      · subst c
        rw [q.2 (by omega), e, if_pos (by omega), Nat.add_sub_cancel_left]
      · exact q.1 (by omega) (by omega)
    · intro h
      rw [q.2 (by omega), e, if_neg (by omega)]
theorem knT_s {σ : xs} (iv : hIv σ) (ok : hOk σ) {t : Nat} (ht : t ≤ 10) {kn : xs} (hkn : knT σ t kn) (nx : xs) : knT σ (t + 1) (plA σ kn nx (nI t)) := by
  have h0 := (hAll_n ok (s := 0) (by decide)).2
  have h1 := (hAll_n ok (s := 1) (by decide)).2
  intro a b ha hb
  unfold plA
  rw [(am_O σ kn (nI t + 1) (n := aN σ 1 + 1) (by omega) (aN σ 0 + 1) 0 nx (by omega) a b (by omega)).1 (by omega) (by omega)]
  exact amX_is iv ok ht hkn ha hb
theorem knT_0 (σ : xs) : knT σ 0 kn0 := by
  intro a b _ _
  unfold kn0
  by_cases c : a = 0 ∧ b = 0
  · rw [if_pos (by omega)]
    exact Or.inr ⟨0, rfl, by omega, ⟨c.1, c.2, rfl⟩, fun w _ => Nat.zero_le w⟩
  · rw [if_neg (by omega)]
    exact Or.inl ⟨rfl, fun y h => c ⟨h.1, h.2.1⟩⟩
theorem leN_is {σ : xs} (iv : hIv σ) (ok : hOk σ) : ∀ (r t : Nat) (kn nx : xs), knT σ t kn → t + r ≤ 10 → knT σ (t + r) (leN σ r kn nx (nI t)) := by
  intro r
  induction r with
  | zero => intro t kn nx h _; exact h
  | succ r ih =>
    intro t kn nx h ht
    rw [leN_s, show nI t + 1 = nI (t + 1) from nI_1 t, show t + (r + 1) = (t + 1) + r by omega]
    exact ih (t + 1) _ _ (knT_s iv ok (by omega) h nx) (by omega)
/-- the end of a loop over pairs -/
def e3 (N p q : Int32) (o : Option (Nat × Nat)) : Int32 × Int32 × Int32 := match o with
  | none => (N, p, q)
  | some z => (nI z.1, nI (z.2 / 32), nI (z.2 % 32))
theorem e3_s {c : Nat → Option Nat} {n y NN : Nat} {N p q : Int32} (hN : N = nI NN) (h31 : NN < 2 ^ 31) (hv : ∀ j w, c j = some w → w < NN) (hc : c n = some y) : e3 N p q (bst c (n + 1)) = if nI y < (e3 N p q (bst c n)).1 then (nI y, nI (n / 32), nI (n % 32)) else e3 N p q (bst c n) := by
  have hy := hv n y hc
  rw [bst_ss hc]
  rcases bst_is c n with ⟨e, _⟩ | ⟨w, i, e, _, hw, _⟩
  · rw [e]
    show (nI y, nI (n / 32), nI (n % 32)) = if nI y < N then (nI y, nI (n / 32), nI (n % 32)) else (N, p, q)
    rw [hN, if_pos (nI_lt hy h31)]
  · have hw := hv i w hw
    rw [e]
    show e3 N p q (if y < w then some (y, n) else some (w, i)) = if nI y < nI w then (nI y, nI (n / 32), nI (n % 32)) else e3 N p q (some (w, i))
    by_cases d : y < w
    · rw [if_pos d, if_pos (nI_lt d (by omega))]
      rfl
    · rw [if_neg d, if_neg (nI_nlt (by omega) (by omega))]
theorem e3_l {c : Nat → Option Nat} {n NN : Nat} {N p q : Int32} (hN : N = nI NN) (h31 : NN < 2 ^ 31) (hv : ∀ j w, c j = some w → w < NN) : (e3 N p q (bst c n)).1 ≤ N := by
  rcases bst_is c n with ⟨e, _⟩ | ⟨w, i, e, _, hw, _⟩
  · rw [e]
    exact Int32.le_refl _
  · have hw := hv i w hw
    rw [e, hN]
    exact nI_le (by omega) h31
theorem rpM_e {S : Nat → Prop} {x : Int32} {o : Option Nat} (r : rpM S x) (h : isM S o) : (o = none ∧ x = 1048576) ∨ ∃ y, o = some y ∧ x = nI y := by
  rcases r with ⟨e, n⟩ | ⟨y, e, _, hy, my⟩
  · rcases h with ⟨e', _⟩ | ⟨w, _, hw, _⟩
    · exact Or.inl ⟨e', e⟩
    · exact absurd hw (n w)
  · rcases h with ⟨_, n⟩ | ⟨w, e', hw, mw⟩
    · exact absurd hy (n y)
    · have := my w hw
      have := mw y hy
      exact Or.inr ⟨w, e', by rw [e, show y = w by omega]⟩
def cnT (σ : xs) (fr : Bool) (t : Nat) : Nat → Option Nat := cnd (sn σ) (wfN σ) fr (MM (sn σ) (wfN σ) fr t) (aN σ 0) (aN σ 1)
theorem sb_aN (σ : xs) (s : Nat) {p : Nat} : p &&& aN σ s = p ↔ p ≤ aN σ s := by
  constructor
  · exact sb_le
  · intro h
    have := Nat.two_pow_pos (ln σ s)
    unfold aN at *
    exact Nat.and_two_pow_sub_one_of_lt_two_pow (by omega)
theorem cnT_b {σ : xs} (iv : hIv σ) (ok : hOk σ) {fr : Bool} {t : Nat} (j w : Nat) (h : cnT σ fr t j = some w) : w ≤ 54 * t + 54 := by
  have h0 := (hAll_n ok (s := 0) (by decide)).2
  have h1 := (hAll_n ok (s := 1) (by decide)).2
  obtain ⟨ho, y, hy, rfl⟩ := cnd_s h
  have l1 := sb_le ho.1
  have l2 := sb_le ho.2.1
  have := MM_b (fun p q => (wfN_e iv ok p q).2) (x32 h0 (by omega)) (x32 h1 (by omega)) hy
  have := (wfN_e iv ok (j / 32) (j % 32)).2
  omega
theorem or_0 : ∀ p, p < 32 → ∀ q, q < 32 → (nI p ||| nI q = 0 ↔ (p = 0 ∧ q = 0)) := by decide +kernel
theorem may_ok {σ : xs} (ok : hOk σ) {p q : Nat} (hp : p ≤ aN σ 0) (hq : q ≤ aN σ 1) : grMay (nI (aN σ 0)) (nI (aN σ 1)) (σ 12) (nI p) (nI q) ↔ okT (sn σ) (wfN σ) false (aN σ 0) (aN σ 1) p q := by
  have h0 := (hAll_n ok (s := 0) (by decide)).2
  have h1 := (hAll_n ok (s := 1) (by decide)).2
  constructor
  · rintro ⟨g1, _, _, g4, g5⟩
    exact ⟨(sb_aN σ 0).mpr hp, (sb_aN σ 1).mpr hq, fun z => g1 ((or_0 p (by omega) q (by omega)).mpr z), (seat_i ok (by omega)).mp g4, (seat_i ok (by omega)).mp g5, fun z => absurd z (by simp)⟩
  · rintro ⟨_, _, g3, g4, g5, _⟩
    exact ⟨fun z => g3 ((or_0 p (by omega) q (by omega)).mp z), may_in ok (by decide) hp, may_in ok (by decide) hq, (seat_i ok (by omega)).mpr g4, (seat_i ok (by omega)).mpr g5⟩
theorem cf1_is {σ : xs} (iv : hIv σ) (ok : hOk σ) {t : Nat} (ht : t ≤ 10) {kn : xs} (hkn : knT σ t kn) {fa fb : Int32} {p q : Nat} (hp : p ≤ aN σ 0) (hq : q ≤ aN σ 1) : cf1 kn (gU σ) (gL σ) (nI (aN σ 0)) (nI (aN σ 1)) (σ 12) (σ 13) (nI p) (nI q) (e3 1048576 fa fb (bst (cnT σ false t) (32 * p + q))) = e3 1048576 fa fb (bst (cnT σ false t) (32 * p + q + 1)) := by
  have h0 := (hAll_n ok (s := 0) (by decide)).2
  have h1 := (hAll_n ok (s := 1) (by decide)).2
  have xa : aN σ 0 ^^^ p < 32 := x32 h0 (by omega)
  have xb : aN σ 1 ^^^ q < 32 := x32 h1 (by omega)
  have hv : ∀ j w, cnT σ false t j = some w → w < 1048576 := fun j w h => by
    have := cnT_b iv ok j w h
    omega
  have X := hkn (aN σ 0 ^^^ p) (aN σ 1 ^^^ q) (sb_sl ((sb_aN σ 0).mpr hp)) (sb_sl ((sb_aN σ 1).mpr hq))
  have ws := wfN_e iv ok p q
  have d1 : (32 * p + q) / 32 = p := by omega
  have d2 : (32 * p + q) % 32 = q := by omega
  unfold cf1
  rw [xr32 _ h0 p (by omega), xr32 _ h1 q (by omega), ix32 xa xb, gWat_w σ (by omega) (by omega), ws.1]
  rcases rpM_e X (MM_is _ _ _ t _ _ xa xb) with ⟨em, ex⟩ | ⟨y, em, ex⟩
  · have cn : cnT σ false t (32 * p + q) = none := cnd_n (Or.inr (by rw [d1, d2]; exact em))
    rw [bst_sn cn, if_neg]
    rintro ⟨z, _, _⟩
    rw [ex] at z
    exact absurd z (Int32.not_lt.mpr (e3_l nv_e (by omega) hv))
  · rw [ex, nI_add]
    by_cases c : okT (sn σ) (wfN σ) false (aN σ 0) (aN σ 1) p q
    · have cn : cnT σ false t (32 * p + q) = some (y + wfN σ p q) := cnd_pq (by omega) c em
      have hy := hv _ _ cn
      rw [e3_s (p := fa) (q := fb) nv_e (by omega) hv cn, d1, d2]
      by_cases g : nI (y + wfN σ p q) < (e3 1048576 fa fb (bst (cnT σ false t) (32 * p + q))).1
      · rw [if_pos g, if_pos ⟨Int32.lt_of_le_of_lt (nI_le (by omega) (by omega)) g, (may_ok ok hp hq).mpr c, g⟩]
      · rw [if_neg g, if_neg (fun z => g z.2.2)]
    · have cn : cnT σ false t (32 * p + q) = none := cnd_n (Or.inl (by rw [d1, d2]; exact c))
      rw [bst_sn cn, if_neg (fun z => c ((may_ok ok hp hq).mp z.2.1))]
theorem cfI_is {σ : xs} (iv : hIv σ) (ok : hOk σ) {t : Nat} (ht : t ≤ 10) {kn : xs} (hkn : knT σ t kn) {fa fb : Int32} {p : Nat} (hp : p ≤ aN σ 0) : ∀ (r k : Nat), k + r = aN σ 1 + 1 → cfI kn (gU σ) (gL σ) (nI (aN σ 0)) (nI (aN σ 1)) (σ 12) (σ 13) (nI p) r k (e3 1048576 fa fb (bst (cnT σ false t) (32 * p + k))) = e3 1048576 fa fb (bst (cnT σ false t) (32 * p + (aN σ 1 + 1))) := by
  intro r
  induction r with
  | zero =>
    intro k hk
    rw [show k = aN σ 1 + 1 by omega]
    rfl
  | succ r ih =>
    intro k hk
    rw [cfI_s, cf1_is iv ok ht hkn hp (by omega)]
    exact ih (k + 1) (by omega)
theorem cnT_n0 {σ : xs} {fr : Bool} {t j : Nat} (h : aN σ 0 < j / 32 ∨ aN σ 1 < j % 32) : cnT σ fr t j = none := by
  refine cnd_n (Or.inl (fun ho => ?_))
  have l1 := sb_le ho.1
  have l2 := sb_le ho.2.1
  omega
theorem cfO_is {σ : xs} (iv : hIv σ) (ok : hOk σ) {t : Nat} (ht : t ≤ 10) {kn : xs} (hkn : knT σ t kn) {fa fb : Int32} : ∀ (r k : Nat), k + r = aN σ 0 + 1 → cfO kn (gU σ) (gL σ) (nI (aN σ 0)) (nI (aN σ 1)) (σ 12) (σ 13) (aN σ 1 + 1) r k (e3 1048576 fa fb (bst (cnT σ false t) (32 * k))) = e3 1048576 fa fb (bst (cnT σ false t) (32 * (aN σ 0 + 1))) := by
  have h1 := (hAll_n ok (s := 1) (by decide)).2
  intro r
  induction r with
  | zero =>
    intro k hk
    rw [show k = aN σ 0 + 1 by omega]
    rfl
  | succ r ih =>
    intro k hk
    have q := cfI_is iv ok ht hkn (fa := fa) (fb := fb) (p := k) (by omega) (aN σ 1 + 1) 0 (by omega)
    rw [cfO_s, show 32 * k = 32 * k + 0 from rfl, q]
    have s : bst (cnT σ false t) (32 * k + (aN σ 1 + 1) + (32 - (aN σ 1 + 1))) = bst (cnT σ false t) (32 * k + (aN σ 1 + 1)) := bst_skip _ (fun j j1 j2 => cnT_n0 (Or.inr (by omega)))
    rw [← s, show 32 * k + (aN σ 1 + 1) + (32 - (aN σ 1 + 1)) = 32 * (k + 1) by omega]
    exact ih (k + 1) (by omega)
theorem plC_is {σ : xs} (iv : hIv σ) (ok : hOk σ) {t : Nat} (ht : t ≤ 10) {kn : xs} (hkn : knT σ t kn) (fa fb : Int32) : plC σ kn fa fb = e3 1048576 fa fb (bst (cnT σ false t) 1024) := by
  have h0 := (hAll_n ok (s := 0) (by decide)).2
  have q := cfO_is iv ok ht hkn (fa := fa) (fb := fb) (aN σ 0 + 1) 0 (by omega)
  have s : bst (cnT σ false t) (32 * (aN σ 0 + 1) + (1024 - 32 * (aN σ 0 + 1))) = bst (cnT σ false t) (32 * (aN σ 0 + 1)) := bst_skip _ (fun j j1 j2 => cnT_n0 (Or.inl (by omega)))
  rw [show 32 * (aN σ 0 + 1) + (1024 - 32 * (aN σ 0 + 1)) = 1024 by omega] at s
  rw [s]
  exact q
