/-! The model in the class's words: laws, looks (written by wip/whole/mod31.py) -/
theorem lN_tn {n : Nat} (h : n < 2 ^ 64) : (lN n).toBitVec.toNat = n := Nat.mod_eq_of_lt h
theorem lN_and {a b : Nat} (ha : a < 2 ^ 64) (hb : b < 2 ^ 64) : lN a &&& lN b = lN (a &&& b) := by
  apply Int64.toBitVec_inj.mp
  apply BitVec.eq_of_toNat_eq
  rw [Int64.toBitVec_and, BitVec.toNat_and, lN_tn ha, lN_tn hb, lN_tn (Nat.lt_of_le_of_lt Nat.and_le_left ha)]
theorem lN_or {a b : Nat} (ha : a < 2 ^ 64) (hb : b < 2 ^ 64) : lN a ||| lN b = lN (a ||| b) := by
  apply Int64.toBitVec_inj.mp
  apply BitVec.eq_of_toNat_eq
  rw [Int64.toBitVec_or, BitVec.toNat_or, lN_tn ha, lN_tn hb, lN_tn (Nat.or_lt_two_pow ha hb)]
theorem lN_xor {a b : Nat} (ha : a < 2 ^ 64) (hb : b < 2 ^ 64) : lN a ^^^ lN b = lN (a ^^^ b) := by
  apply Int64.toBitVec_inj.mp
  apply BitVec.eq_of_toNat_eq
  rw [Int64.toBitVec_xor, BitVec.toNat_xor, lN_tn ha, lN_tn hb, lN_tn (Nat.xor_lt_two_pow ha hb)]
def chL (x : Int64) (f : Nat → Bool) : Prop := x = lN (sB f 40)
theorem chL_lt (f : Nat → Bool) : sB f 40 < 2 ^ 64 := Nat.lt_of_lt_of_le (sB_lt f 40) (by decide)
theorem chL_cg {x : Int64} {f g : Nat → Bool} (h : chL x f) (e : ∀ i, i < 40 → f i = g i) : chL x g := by
  unfold chL at *
  rw [h]
  congr 1
  exact sB_ext (sB_lt f 40) (fun i hi => by rw [sB_bit, e i hi]; simp [hi])
theorem chL_and {x y : Int64} {f g : Nat → Bool} (h : chL x f) (k : chL y g) : chL (x &&& y) (fun i => f i && g i) := by
  unfold chL at *
  rw [h, k, lN_and (chL_lt f) (chL_lt g)]
  congr 1
  exact sB_ext (Nat.lt_of_le_of_lt Nat.and_le_left (sB_lt f 40)) (fun i hi => by rw [Nat.testBit_and, sB_bit, sB_bit]; simp [hi])
theorem chL_not {x y : Int64} {f g : Nat → Bool} (h : chL x f) (k : chL y g) : chL (x &&& (y ^^^ (-1))) (fun i => f i && !g i) := by
  unfold chL at *
  have m1 : (-1 : Int64) = lN (2 ^ 64 - 1) := by decide +kernel
  have l1 : (2 ^ 64 - 1 : Nat) < 2 ^ 64 := by decide
  rw [h, k, m1, lN_xor (chL_lt g) l1, lN_and (chL_lt f) (Nat.xor_lt_two_pow (chL_lt g) l1)]
  congr 1
  refine sB_ext (Nat.lt_of_le_of_lt Nat.and_le_left (sB_lt f 40)) (fun i hi => ?_)
  rw [Nat.testBit_and, Nat.testBit_xor, sB_bit, sB_bit, Nat.testBit_two_pow_sub_one]
  have h64 : i < 64 := by omega
  simp [hi, h64]
theorem shl40 : ∀ p, p < 40 → (1 : Int64) <<< ((nI p).toInt64 &&& 63) = lN (2 ^ p) := by decide +kernel
theorem chL_or {x : Int64} {f : Nat → Bool} (h : chL x f) {p : Nat} (hp : p < 40) : chL (x ||| (1 : Int64) <<< ((nI p).toInt64 &&& 63)) (fun i => f i || i == p) := by
  unfold chL at *
  have b : 2 ^ p < 2 ^ 40 := Nat.pow_lt_pow_right (by decide) hp
  rw [h, shl40 p hp, lN_or (chL_lt f) (Nat.lt_trans b (by decide))]
  congr 1
  exact sB_ext (Nat.or_lt_two_pow (sB_lt f 40) b) (fun i hi => by
    rw [Nat.testBit_or, sB_bit, Nat.testBit_two_pow]
    have : (p = i) ↔ (i = p) := eq_comm
    simp [hi, this]
    rfl)
theorem chL_0 : chL 0 (fun _ => false) := by
  unfold chL
  decide +kernel
def inL (e : Int32) (k : Nat) : Bool := decide (¬ e < nI k / 8 ∧ ¬ 5 + remI (nI k) 8 < e)
theorem chL_lt1 (e : Int32) : ∀ k, k ≤ 40 → chL (ltN e k) (fun i => decide (i < k) && inL e i) := by
  intro k
  induction k with
  | zero =>
    intro _
    exact chL_cg chL_0 (fun i _ => by simp)
  | succ k ih =>
    intro hk
    have q := ih (by omega)
    have ext : ∀ b : Bool, inL e k = b → ∀ i, i ≠ k → (decide (i < k) && inL e i) = (decide (i < k + 1) && inL e i) := fun b _ i hi => by
      have : (i < k) ↔ (i < k + 1) := by omega
      simp only [this]
    show chL (if e < nI k / 8 then ltN e k else if 5 + remI (nI k) 8 < e then ltN e k else ltN e k ||| (1 : Int64) <<< ((nI k).toInt64 &&& 63)) _
    by_cases c1 : e < nI k / 8
    · have z : inL e k = false := decide_eq_false (fun q => q.1 c1)
      rw [if_pos c1]
      refine chL_cg q (fun i _ => ?_)
      by_cases e1 : i = k
      · subst e1
        simp [z]
      · exact ext _ z i e1
    · by_cases c2 : 5 + remI (nI k) 8 < e
      · have z : inL e k = false := decide_eq_false (fun q => q.2 c2)
        rw [if_neg c1, if_pos c2]
        refine chL_cg q (fun i _ => ?_)
        by_cases e1 : i = k
        · subst e1
          simp [z]
        · exact ext _ z i e1
      · have z : inL e k = true := decide_eq_true ⟨c1, c2⟩
        rw [if_neg c1, if_neg c2]
        refine chL_cg (chL_or q (p := k) (by omega)) (fun i _ => ?_)
        by_cases e1 : i = k
        · subst e1
          simp [z]
        · rw [← ext _ z i e1]
          simp only [beq_eq_false_iff_ne.mpr e1, Bool.or_false]
theorem chL_ltr (e : Int32) : chL (ltr e) (inL e) := chL_cg (chL_lt1 e 40 (Nat.le_refl _)) (fun i hi => by simp [hi])
def flB (f g : xs) : Nat → Nat → Bool
  | 0, _ => true
  | k + 1, i => flB f g k i && (if g k = 0 then !inL (f k) i else inL (f k) i)
theorem flB_s (f g : xs) (k i : Nat) : flB f g (k + 1) i = (flB f g k i && (if g k = 0 then !inL (f k) i else inL (f k) i)) := rfl
theorem chL_fl (f g : xs) : ∀ k, chL (flN f g k) (flB f g k) := by
  intro k
  induction k with
  | zero =>
    show (1099511627775 : Int64) = lN (sB (fun _ => true) 40)
    decide +kernel
  | succ k ih =>
    rw [flN_s]
    by_cases c : g k = 0
    · rw [if_pos c]
      refine chL_cg (chL_not ih (chL_ltr (f k))) (fun i _ => ?_)
      rw [flB_s, if_pos c]
    · rw [if_neg c]
      refine chL_cg (chL_and ih (chL_ltr (f k))) (fun i _ => ?_)
      rw [flB_s, if_neg c]
theorem flB_dn {f g : xs} {i k : Nat} (h : flB f g k i = false) : ∀ d, flB f g (k + d) i = false := by
  intro d
  induction d with
  | zero => exact h
  | succ d ih =>
    rw [show k + (d + 1) = (k + d) + 1 from rfl, flB_s, ih]
    rfl
theorem il_fl {w a f g : xs} {n : Nat} (hw : ∀ i, i < n → w i = f i ∧ a i = g i ∧ (g i = 0 ∨ g i = 1)) (k : Nat) : ∀ (r j : Nat), j + r = n → flB f g j k = true → ilN w a (nI k) r j = (if flB f g n k = true then 1 else 0) := by
  intro r
  induction r with
  | zero =>
    intro j hj h
    have e : j = n := by omega
    rw [e] at h
    rw [if_pos h]
    rfl
  | succ r ih =>
    intro j hj h
    obtain ⟨h1, h2, h3⟩ := hw j (by omega)
    rw [ilN_s, h1, h2]
    have m : mIn (f j) (nI k / 8) (5 + remI (nI k) 8) = (if inL (f j) k = true then 1 else 0) := by
      unfold mIn bI inL
      by_cases c : ¬ f j < nI k / 8 ∧ ¬ 5 + remI (nI k) 8 < f j
      · rw [if_pos c, if_pos (decide_eq_true c)]
      · rw [if_neg c, if_neg (fun q => c (of_decide_eq_true q))]
    rw [m]
    have s := flB_s f g j k
    rw [h, Bool.true_and] at s
    by_cases c : flB f g (j + 1) k = true
    · rw [if_pos]
      · exact ih (j + 1) (by omega) c
      · rw [c] at s
        rcases h3 with h3 | h3
        · rw [h3, if_pos rfl] at s
          have : inL (f j) k = false := by
            revert s
            cases inL (f j) k <;> decide
          rw [this, h3]
          rfl
        · rw [h3, if_neg (by decide)] at s
          rw [← s, h3]
          rfl
    · have c' : flB f g (j + 1) k = false := Bool.eq_false_iff.mpr c
      have d := flB_dn c' r
      rw [show j + 1 + r = n by omega] at d
      rw [if_neg, d]
      · rfl
      · rw [c'] at s
        rcases h3 with h3 | h3
        · rw [h3, if_pos rfl] at s
          have : inL (f j) k = true := by
            revert s
            cases inL (f j) k <;> decide
          rw [this, h3]
          decide
        · rw [h3, if_neg (by decide)] at s
          rw [← s, h3]
          decide
def rc (a1 a2 b1 b2 : Nat) (k : Nat) : Bool := decide (a1 ≤ k / 8 ∧ k / 8 < a2 ∧ b1 ≤ k % 8 ∧ k % 8 < b2)
def isR (p : Nat → Bool) : Prop := (∀ k, k < 40 → p k = false) ∨ ∃ a1 a2 b1 b2, a1 < a2 ∧ a2 < 6 ∧ b1 < b2 ∧ b2 < 9 ∧ ∀ k, k < 40 → p k = rc a1 a2 b1 b2 k
theorem inL_n {j k : Nat} (hj : j < 2 ^ 31) (hk : k < 40) : inL (nI j) k = decide (k / 8 ≤ j ∧ j ≤ 5 + k % 8) := by
  unfold inL
  rw [show nI k / 8 = nI (k / 8) from pk_div (d := 8) (by omega) (by decide) (by decide), show remI (nI k) 8 = nI (k % 8) from pk_rem (d := 8) (by omega) (by decide) (by decide), show (5 : Int32) + nI (k % 8) = nI (5 + k % 8) from nI_add 5 _]
  have e1 : (nI j < nI (k / 8)) ↔ j < k / 8 := nI_ltI (by omega) (by omega)
  have e2 : (nI (5 + k % 8) < nI j) ↔ 5 + k % 8 < j := nI_ltI (by omega) (by omega)
  apply decide_eq_decide.mpr
  rw [e1, e2]
  omega
theorem isR_cut {p : Nat → Bool} (h : isR p) {a1' a2' b1' b2' : Nat} (hb : ∀ a1 a2 b1 b2, (∀ k, k < 40 → p k = rc a1 a2 b1 b2 k) → a2 < 6 → b2 < 9 → ∃ c1 c2 d1 d2, c2 < 6 ∧ d2 < 9 ∧ ∀ k, k < 40 → (p k && rc a1' a2' b1' b2' k) = rc c1 c2 d1 d2 k) : isR (fun k => p k && rc a1' a2' b1' b2' k) := by
  rcases h with h | ⟨a1, a2, b1, b2, h1, h2, h3, h4, h⟩
  · exact Or.inl (fun k hk => by show (p k && rc a1' a2' b1' b2' k) = false; rw [h k hk]; rfl)
  · obtain ⟨c1, c2, d1, d2, e1, e2, e⟩ := hb a1 a2 b1 b2 h h2 h4
    by_cases c : c1 < c2 ∧ d1 < d2
    · exact Or.inr ⟨c1, c2, d1, d2, c.1, e1, c.2, e2, e⟩
    · refine Or.inl (fun k hk => ?_)
      show (p k && rc a1' a2' b1' b2' k) = false
      rw [e k hk]
      exact decide_eq_false (by omega)
theorem isR_and {p : Nat → Bool} (h : isR p) (a1' a2' b1' b2' : Nat) : isR (fun k => p k && rc a1' a2' b1' b2' k) := by
  refine isR_cut h (fun a1 a2 b1 b2 e h6 h9 => ⟨max a1 a1', min a2 a2', max b1 b1', min b2 b2', by omega, by omega, fun k hk => ?_⟩)
  rw [e k hk]
  unfold rc
  rw [← Bool.decide_and]
  apply decide_eq_decide.mpr
  omega
theorem isR_cg {p q : Nat → Bool} (h : isR p) (e : ∀ k, k < 40 → p k = q k) : isR q := by
  rcases h with h | ⟨a1, a2, b1, b2, h1, h2, h3, h4, h⟩
  · exact Or.inl (fun k hk => (e k hk).symm.trans (h k hk))
  · exact Or.inr ⟨a1, a2, b1, b2, h1, h2, h3, h4, fun k hk => (e k hk).symm.trans (h k hk)⟩
theorem inL_neg {e : Int32} (h : e < 0) {k : Nat} (hk : k < 40) : inL e k = false := by
  refine decide_eq_false (fun q => q.1 ?_)
  rw [show nI k / 8 = nI (k / 8) from pk_div (d := 8) (by omega) (by decide) (by decide)]
  exact Int32.lt_of_lt_of_le h (nI_pos' (by omega))
theorem isR_in {p : Nat → Bool} (h : isR p) (e : Int32) : isR (fun k => p k && inL e k) := by
  by_cases c : e < 0
  · exact Or.inl (fun k hk => by show (p k && inL e k) = false; rw [inL_neg c hk, Bool.and_false])
  · obtain ⟨j, hj, rfl⟩ := nI_of c
    refine isR_cg (isR_and h 0 (j + 1) (j - 5) 8) (fun k hk => ?_)
    rw [inL_n hj hk]
    congr 1
    unfold rc
    apply decide_eq_decide.mpr
    omega
theorem isR_out {p : Nat → Bool} (h : isR p) (e : Int32) : isR (fun k => p k && !inL e k) := by
  by_cases c : e < 0
  · exact isR_cg h (fun k hk => by rw [inL_neg c hk]; simp)
  · obtain ⟨j, hj, rfl⟩ := nI_of c
    by_cases c5 : j ≤ 5
    · refine isR_cg (isR_and h (j + 1) 5 0 8) (fun k hk => ?_)
      rw [inL_n hj hk, ← decide_not]
      congr 1
      unfold rc
      apply decide_eq_decide.mpr
      omega
    · refine isR_cg (isR_and h 0 5 0 (j - 5)) (fun k hk => ?_)
      rw [inL_n hj hk, ← decide_not]
      congr 1
      unfold rc
      apply decide_eq_decide.mpr
      omega
theorem isR_fl (f g : xs) : ∀ n, isR (flB f g n) := by
  intro n
  induction n with
  | zero =>
    refine Or.inr ⟨0, 5, 0, 8, by decide, by decide, by decide, by decide, fun k hk => ?_⟩
    show true = rc 0 5 0 8 k
    exact (decide_eq_true (by omega)).symm
  | succ n ih =>
    by_cases c : g n = 0
    · refine isR_cg (isR_out ih (f n)) (fun k _ => ?_)
      rw [flB_s, if_pos c]
    · refine isR_cg (isR_in ih (f n)) (fun k _ => ?_)
      rw [flB_s, if_neg c]
theorem rc_all : ((List.range 5).all fun a1 => (List.range 6).all fun a2 => (List.range 8).all fun b1 => (List.range 9).all fun b2 => !decide (a1 < a2) || (!decide (b1 < b2) || (decide (lbc (lN (sB (rc a1 a2 b1 b2) 40)) = nI (cnP (rc a1 a2 b1 b2) 40)) && decide (lntz (lN (sB (rc a1 a2 b1 b2) 40)) = nI (8 * a1 + b1))))) = true := by decide +kernel
theorem rc_bc (a1 : Nat) (h1 : a1 < 5) (a2 : Nat) (h2 : a2 < 6) (h3 : a1 < a2) (b1 : Nat) (h4 : b1 < 8) (b2 : Nat) (h5 : b2 < 9) (h6 : b1 < b2) : lbc (lN (sB (rc a1 a2 b1 b2) 40)) = nI (cnP (rc a1 a2 b1 b2) 40) ∧ lntz (lN (sB (rc a1 a2 b1 b2) 40)) = nI (8 * a1 + b1) := by
  have q := List.all_eq_true.mp (List.all_eq_true.mp (List.all_eq_true.mp (List.all_eq_true.mp rc_all a1 (List.mem_range.mpr h1)) a2 (List.mem_range.mpr h2)) b1 (List.mem_range.mpr h4)) b2 (List.mem_range.mpr h5)
  rw [decide_eq_true h3, decide_eq_true h6] at q
  have q := Bool.and_eq_true_iff.mp q
  exact ⟨of_decide_eq_true q.1, of_decide_eq_true q.2⟩
theorem chL_bc {x : Int64} {p : Nat → Bool} (h : chL x p) (r : isR p) : lbc x = nI (cnP p 40) := by
  rcases r with r | ⟨a1, a2, b1, b2, h1, h2, h3, h4, r⟩
  · have e := chL_cg h (g := fun _ => false) r
    rw [show x = 0 from e.trans (show lN (sB (fun _ => false) 40) = 0 from by decide +kernel), cnP_cg 40 (q := fun _ => false) r]
    decide +kernel
  · have e : x = _ := chL_cg h r
    rw [e, (rc_bc a1 (by omega) a2 h2 h1 b1 (by omega) b2 h4 h3).1, cnP_cg 40 r]
theorem chL_z {x : Int64} {p : Nat → Bool} (h : chL x p) : x = 0 ↔ cnP p 40 = 0 := by
  unfold chL at h
  constructor
  · intro z
    rw [h, show (0 : Int64) = lN 0 from rfl, pk_lEQ (Nat.lt_of_lt_of_le (sB_lt p 40) (by decide)) (by decide)] at z
    rw [cnP_cg 40 (q := fun _ => false)]
    · decide
    · intro i hi
      have b := sB_bit p 40 i
      rw [z, Nat.zero_testBit] at b
      simp [hi] at b
      exact b
  · intro z
    have q := cnP_0 40 z
    rw [h, show sB p 40 = sB (fun _ => false) 40 from sB_ext (sB_lt p 40) (fun i hi => by rw [sB_bit, q i hi]; simp)]
    decide +kernel
theorem chL_nt {x : Int64} {p : Nat → Bool} (h : chL x p) (r : isR p) {f : Nat} (hf : f < 40) (pf : p f = true) (pj : ∀ j, j < f → p j = false) : lntz x = nI f := by
  rcases r with r | ⟨a1, a2, b1, b2, h1, h2, h3, h4, r⟩
  · rw [r f hf] at pf
    exact absurd pf (by decide)
  · have e : x = _ := chL_cg h r
    rw [e, (rc_bc a1 (by omega) a2 h2 h1 b1 (by omega) b2 h4 h3).2]
    congr 1
    rw [r f hf] at pf
    have pf := of_decide_eq_true pf
    have q : ¬ 8 * a1 + b1 < f := fun z => by
      have := pj _ z
      rw [r _ (by omega)] at this
      exact of_decide_eq_false this (by omega)
    omega
