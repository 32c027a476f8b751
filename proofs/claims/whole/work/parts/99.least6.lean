/-! The least water of so many trips, as a function of sets: by numbers alone -/
def bst (c : Nat → Option Nat) : Nat → Option (Nat × Nat)
  | 0 => none
  | n + 1 => match c n with
    | none => bst c n
    | some y => match bst c n with
      | none => some (y, n)
      | some z => if y < z.1 then some (y, n) else some z
theorem bst_sn {c : Nat → Option Nat} {n : Nat} (h : c n = none) : bst c (n + 1) = bst c n := by
  show (match c n with | none => bst c n | some y => match bst c n with | none => some (y, n) | some z => if y < z.1 then some (y, n) else some z) = _
  rw [h]
theorem bst_ss {c : Nat → Option Nat} {n x : Nat} (h : c n = some x) : bst c (n + 1) = match bst c n with | none => some (x, n) | some z => if x < z.1 then some (x, n) else some z := by
  show (match c n with | none => bst c n | some y => match bst c n with | none => some (y, n) | some z => if y < z.1 then some (y, n) else some z) = _
  rw [h]
theorem bst_skip {c : Nat → Option Nat} {n : Nat} : ∀ r, (∀ j, n ≤ j → j < n + r → c j = none) → bst c (n + r) = bst c n := by
  intro r
  induction r with
  | zero => intro _; rfl
  | succ r ih =>
    intro h
    rw [show n + (r + 1) = (n + r) + 1 from rfl, bst_sn (h (n + r) (by omega) (by omega))]
    exact ih (fun j h1 h2 => h j h1 (by omega))
theorem bst_is (c : Nat → Option Nat) : ∀ n, (bst c n = none ∧ ∀ j, j < n → c j = none) ∨ ∃ x i, bst c n = some (x, i) ∧ i < n ∧ c i = some x ∧ (∀ j, j < n → ∀ w, c j = some w → x ≤ w) ∧ (∀ j, j < i → ∀ w, c j = some w → x < w) := by
  intro n
  induction n with
  | zero => exact Or.inl ⟨rfl, fun j hj => absurd hj (by omega)⟩
  | succ n ih =>
    rcases hc : c n with _ | x
    · rw [bst_sn hc]
      rcases ih with ⟨e, h⟩ | ⟨x, i, e, h1, h2, h3, h4⟩
      · refine Or.inl ⟨e, fun j hj => ?_⟩
        rcases (show j < n ∨ j = n by omega) with q | q
        · exact h j q
        · rw [q]; exact hc
      · refine Or.inr ⟨x, i, e, by omega, h2, fun j hj w hw => ?_, h4⟩
        rcases (show j < n ∨ j = n by omega) with q | q
        · exact h3 j q w hw
        · rw [q, hc] at hw
          exact absurd hw (by simp)
    · rw [bst_ss hc]
      rcases ih with ⟨e, h⟩ | ⟨y, i, e, h1, h2, h3, h4⟩
      · rw [e]
        refine Or.inr ⟨x, n, rfl, by omega, hc, fun j hj w hw => ?_, fun j hj w hw => ?_⟩
        · rcases (show j < n ∨ j = n by omega) with q | q
          · rw [h j q] at hw
            exact absurd hw (by simp)
          · rw [q, hc] at hw
            injection hw with hw
            omega
        · rw [h j hj] at hw
          exact absurd hw (by simp)
      · rw [e]
        by_cases g : x < y
        · refine Or.inr ⟨x, n, if_pos g, by omega, hc, fun j hj w hw => ?_, fun j hj w hw => ?_⟩
          · rcases (show j < n ∨ j = n by omega) with q | q
            · have := h3 j q w hw
              omega
            · rw [q, hc] at hw
              injection hw with hw
              omega
          · have := h3 j hj w hw
            omega
        · refine Or.inr ⟨y, i, if_neg g, by omega, h2, fun j hj w hw => ?_, h4⟩
          rcases (show j < n ∨ j = n by omega) with q | q
          · exact h3 j q w hw
          · rw [q, hc] at hw
            injection hw with hw
            omega
theorem bst_un {c : Nat → Option Nat} {n x i : Nat} (hi : i < n) (hc : c i = some x) (hm : ∀ j, j < n → ∀ w, c j = some w → x ≤ w) (hf : ∀ j, j < i → ∀ w, c j = some w → x < w) : bst c n = some (x, i) := by
  rcases bst_is c n with ⟨_, h⟩ | ⟨y, k, e, h1, h2, h3, h4⟩
  · rw [h i hi] at hc
    exact absurd hc (by simp)
  · have a := hm k h1 y h2
    have b := h3 i hi x hc
    have exy : y = x := by omega
    subst exy
    rcases (show i < k ∨ i = k ∨ k < i by omega) with q | q | q
    · have := h4 i q y hc
      omega
    · rw [e, q]
    · have := hf k q y h2
      omega
/-- the least of a set of numbers, if it has any -/
def isM (S : Nat → Prop) (o : Option Nat) : Prop := (o = none ∧ ∀ x, ¬ S x) ∨ ∃ x, o = some x ∧ S x ∧ ∀ w, S w → x ≤ w
def pcM (i : Nat) : Nat := i % 2 + i / 2 % 2 + i / 4 % 2 + i / 8 % 2 + i / 16 % 2
abbrev okT (S : Nat) (wf : Nat → Nat → Nat) (fr : Bool) (a b p q : Nat) : Prop := p &&& a = p ∧ q &&& b = q ∧ ¬ (p = 0 ∧ q = 0) ∧ pcM p ≤ S ∧ pcM q ≤ S ∧ (fr = true → wf p q = 0)
def cnd (S : Nat) (wf : Nat → Nat → Nat) (fr : Bool) (M : Nat → Nat → Option Nat) (a b i : Nat) : Option Nat := if okT S wf fr a b (i / 32) (i % 32) then (M (a ^^^ (i / 32)) (b ^^^ (i % 32))).map (fun w => w + wf (i / 32) (i % 32)) else none
def MM (S : Nat) (wf : Nat → Nat → Nat) (fr : Bool) : Nat → Nat → Nat → Option Nat
  | 0, a, b => if a = 0 ∧ b = 0 then some 0 else none
  | t + 1, a, b => (bst (cnd S wf fr (MM S wf fr t) a b) 1024).map (fun z => z.1)
def CC (S : Nat) (wf : Nat → Nat → Nat) (fr : Bool) : Nat → Nat → Nat → Nat → Prop
  | 0, a, b, x => a = 0 ∧ b = 0 ∧ x = 0
  | t + 1, a, b, x => ∃ p q w, okT S wf fr a b p q ∧ CC S wf fr t (a ^^^ p) (b ^^^ q) w ∧ x = w + wf p q
theorem sb_le {p a : Nat} (h : p &&& a = p) : p ≤ a := by
  rw [← h]
  exact Nat.and_le_right
theorem x32 {a p : Nat} (ha : a < 32) (hp : p < 32) : a ^^^ p < 32 := Nat.xor_lt_two_pow (n := 5) ha hp
theorem cnd_s {S : Nat} {wf : Nat → Nat → Nat} {fr : Bool} {M : Nat → Nat → Option Nat} {a b i x : Nat} (h : cnd S wf fr M a b i = some x) : okT S wf fr a b (i / 32) (i % 32) ∧ ∃ w, M (a ^^^ (i / 32)) (b ^^^ (i % 32)) = some w ∧ x = w + wf (i / 32) (i % 32) := by
  unfold cnd at h
  by_cases c : okT S wf fr a b (i / 32) (i % 32)
  · rw [if_pos c] at h
    refine ⟨c, ?_⟩
    rcases e : M (a ^^^ (i / 32)) (b ^^^ (i % 32)) with _ | w
    · rw [e] at h
      exact absurd h (by simp)
    · rw [e] at h
      injection h with h
      exact ⟨w, rfl, h.symm⟩
  · rw [if_neg c] at h
    exact absurd h (by simp)
theorem cnd_y {S : Nat} {wf : Nat → Nat → Nat} {fr : Bool} {M : Nat → Nat → Option Nat} {a b i w : Nat} (h : okT S wf fr a b (i / 32) (i % 32)) (g : M (a ^^^ (i / 32)) (b ^^^ (i % 32)) = some w) : cnd S wf fr M a b i = some (w + wf (i / 32) (i % 32)) := by
  unfold cnd
  rw [if_pos h, g]
  rfl
theorem cnd_n {S : Nat} {wf : Nat → Nat → Nat} {fr : Bool} {M : Nat → Nat → Option Nat} {a b i : Nat} (h : ¬ okT S wf fr a b (i / 32) (i % 32) ∨ M (a ^^^ (i / 32)) (b ^^^ (i % 32)) = none) : cnd S wf fr M a b i = none := by
  unfold cnd
  rcases h with h | h
  · rw [if_neg h]
  · rw [h]
    split <;> rfl
theorem cnd_pq {S : Nat} {wf : Nat → Nat → Nat} {fr : Bool} {M : Nat → Nat → Option Nat} {a b p q w : Nat} (hq : q < 32) (h : okT S wf fr a b p q) (g : M (a ^^^ p) (b ^^^ q) = some w) : cnd S wf fr M a b (32 * p + q) = some (w + wf p q) := by
  have e1 : (32 * p + q) / 32 = p := by omega
  have e2 : (32 * p + q) % 32 = q := by omega
  have := cnd_y (S := S) (wf := wf) (fr := fr) (M := M) (a := a) (b := b) (i := 32 * p + q) (w := w) (by rw [e1, e2]; exact h) (by rw [e1, e2]; exact g)
  rw [e1, e2] at this
  exact this
theorem MM_is (S : Nat) (wf : Nat → Nat → Nat) (fr : Bool) : ∀ t a b, a < 32 → b < 32 → isM (CC S wf fr t a b) (MM S wf fr t a b) := by
  intro t
  induction t with
  | zero =>
    intro a b _ _
    by_cases c : a = 0 ∧ b = 0
    · exact Or.inr ⟨0, if_pos c, ⟨c.1, c.2, rfl⟩, fun w _ => Nat.zero_le w⟩
    · exact Or.inl ⟨if_neg c, fun x h => c ⟨h.1, h.2.1⟩⟩
  | succ t ih =>
    intro a b ha hb
    have hs : ∀ x, CC S wf fr (t + 1) a b x → ∃ j y, j < 1024 ∧ cnd S wf fr (MM S wf fr t) a b j = some y ∧ y ≤ x := by
      rintro x ⟨p, q, w, ho, hC, rfl⟩
      have hp := sb_le ho.1
      have hq := sb_le ho.2.1
      rcases ih (a ^^^ p) (b ^^^ q) (x32 ha (by omega)) (x32 hb (by omega)) with ⟨_, h⟩ | ⟨y, e, _, h⟩
      · exact absurd hC (h w)
      · have := h w hC
        exact ⟨32 * p + q, y + wf p q, by omega, cnd_pq (by omega) ho e, by omega⟩
    rcases bst_is (cnd S wf fr (MM S wf fr t) a b) 1024 with ⟨e, h⟩ | ⟨y, k, e, h1, h2, h3, h4⟩
    · refine Or.inl ⟨?_, fun x hx => ?_⟩
      · show (bst (cnd S wf fr (MM S wf fr t) a b) 1024).map (fun z => z.1) = none
        rw [e]
        rfl
      · obtain ⟨j, y, hj, hy, _⟩ := hs x hx
        rw [h j hj] at hy
        exact absurd hy (by simp)
    · refine Or.inr ⟨y, ?_, ?_, fun x hx => ?_⟩
      · show (bst (cnd S wf fr (MM S wf fr t) a b) 1024).map (fun z => z.1) = some y
        rw [e]
        rfl
      · obtain ⟨ho, w, hw, rfl⟩ := cnd_s h2
        have hp := sb_le ho.1
        have hq := sb_le ho.2.1
        refine ⟨k / 32, k % 32, w, ho, ?_, rfl⟩
        rcases ih (a ^^^ (k / 32)) (b ^^^ (k % 32)) (x32 ha (by omega)) (x32 hb (by omega)) with ⟨e', _⟩ | ⟨y', e', hC, _⟩
        · rw [e'] at hw
          exact absurd hw (by simp)
        · rw [e'] at hw
          injection hw with hw
          rw [← hw]
          exact hC
      · obtain ⟨j, z, hj, hz, hl⟩ := hs x hx
        have := h3 j hj z hz
        omega
theorem CC_b {S : Nat} {wf : Nat → Nat → Nat} {fr : Bool} (hw : ∀ p q, wf p q ≤ 54) : ∀ t a b x, CC S wf fr t a b x → x ≤ 54 * t := by
  intro t
  induction t with
  | zero =>
    intro a b x h
    have := h.2.2
    omega
  | succ t ih =>
    rintro a b x ⟨p, q, w, _, hC, rfl⟩
    have := ih _ _ _ hC
    have := hw p q
    omega
theorem MM_b {S : Nat} {wf : Nat → Nat → Nat} {fr : Bool} (hw : ∀ p q, wf p q ≤ 54) {t a b x : Nat} (ha : a < 32) (hb : b < 32) (h : MM S wf fr t a b = some x) : x ≤ 54 * t := by
  rcases MM_is S wf fr t a b ha hb with ⟨e, _⟩ | ⟨y, e, hC, _⟩
  · rw [e] at h
    exact absurd h (by simp)
  · rw [e] at h
    injection h with h
    rw [← h]
    exact CC_b hw _ _ _ _ hC
theorem pc_x : ∀ a, a < 32 → ∀ p, p < 32 → p &&& a = p → pcM (a ^^^ p) + pcM p = pcM a := by decide +kernel
theorem CC_pc {S : Nat} {wf : Nat → Nat → Nat} {fr : Bool} : ∀ t a b x, a < 32 → b < 32 → CC S wf fr t a b x → pcM a ≤ t * S ∧ pcM b ≤ t * S := by
  intro t
  induction t with
  | zero =>
    rintro a b x _ _ ⟨rfl, rfl, _⟩
    exact ⟨Nat.zero_le _, Nat.zero_le _⟩
  | succ t ih =>
    rintro a b x ha hb ⟨p, q, w, ho, hC, rfl⟩
    have hp := sb_le ho.1
    have hq := sb_le ho.2.1
    have h := ih _ _ _ (x32 ha (by omega)) (x32 hb (by omega)) hC
    have e1 := pc_x a ha p (by omega) ho.1
    have e2 := pc_x b hb q (by omega) ho.2.1
    have l1 := ho.2.2.2.1
    have l2 := ho.2.2.2.2.1
    rw [Nat.succ_mul]
    omega
/-- a party is in a group: e tells the side, j its place -/
def inG (e : Bool) (j p q : Nat) : Prop := (if e = true then p else q).testBit j = true
theorem inG_x {e : Bool} {j a b p q : Nat} (h : inG e j a b) (n : ¬ inG e j p q) : inG e j (a ^^^ p) (b ^^^ q) := by
  unfold inG at *
  cases e
  · show (b ^^^ q).testBit j = true
    have h : b.testBit j = true := h
    have n : ¬ q.testBit j = true := n
    rw [Nat.testBit_xor, h, Bool.eq_false_iff.mpr n]
    rfl
  · show (a ^^^ p).testBit j = true
    have h : a.testBit j = true := h
    have n : ¬ p.testBit j = true := n
    rw [Nat.testBit_xor, h, Bool.eq_false_iff.mpr n]
    rfl
theorem sb_x {p a p' : Nat} (h : p &&& a = p) (h' : p' &&& (a ^^^ p) = p') : p' &&& a = p' ∧ p &&& (a ^^^ p') = p ∧ (a ^^^ p') ^^^ p = (a ^^^ p) ^^^ p' := by
  have q : ∀ i, p.testBit i = true → a.testBit i = true := by
    intro i hi
    have := congrArg (fun z => z.testBit i) h
    simp only [Nat.testBit_and, hi, Bool.true_and] at this
    exact this
  have q' : ∀ i, p'.testBit i = true → (a.testBit i = true ∧ p.testBit i = false) := by
    intro i hi
    have e := congrArg (fun z => z.testBit i) h'
    simp only [Nat.testBit_and, Nat.testBit_xor, hi, Bool.true_and] at e
    have := q i
    revert e this
    cases a.testBit i <;> cases p.testBit i <;> simp
  refine ⟨?_, ?_, ?_⟩
  · apply Nat.eq_of_testBit_eq
    intro i
    rw [Nat.testBit_and]
    have := q' i
    revert this
    cases a.testBit i <;> cases p'.testBit i <;> simp
  · apply Nat.eq_of_testBit_eq
    intro i
    rw [Nat.testBit_and, Nat.testBit_xor]
    have := q' i
    have := q i
    revert this
    revert this
    cases a.testBit i <;> cases p'.testBit i <;> cases p.testBit i <;> simp
  · rw [Nat.xor_assoc, Nat.xor_assoc, Nat.xor_comm p' p]
theorem CC_ex {S : Nat} {wf : Nat → Nat → Nat} {fr : Bool} (e : Bool) (j : Nat) : ∀ t a b x, CC S wf fr (t + 1) a b x → inG e j a b → ∃ p q w, okT S wf fr a b p q ∧ inG e j p q ∧ CC S wf fr t (a ^^^ p) (b ^^^ q) w ∧ x = w + wf p q := by
  intro t
  induction t with
  | zero =>
    rintro a b x ⟨p, q, w, ho, hC, rfl⟩ hi
    refine ⟨p, q, w, ho, ?_, hC, rfl⟩
    refine Classical.byContradiction (fun n => ?_)
    have := inG_x hi n
    rw [hC.1, hC.2.1] at this
    unfold inG at this
    simp at this
  | succ t ih =>
    rintro a b x ⟨p, q, w, ho, hC, rfl⟩ hi
    by_cases n : inG e j p q
    · exact ⟨p, q, w, ho, n, hC, rfl⟩
    · obtain ⟨p', q', w', ho', hi', hC', rfl⟩ := ih _ _ _ hC (inG_x hi n)
      obtain ⟨a1, a2, a3⟩ := sb_x ho.1 ho'.1
      obtain ⟨b1, b2, b3⟩ := sb_x ho.2.1 ho'.2.1
      refine ⟨p', q', w' + wf p q, ⟨a1, b1, ho'.2.2⟩, hi', ⟨p, q, w', ⟨a2, b2, ho.2.2⟩, ?_, rfl⟩, by omega⟩
      rw [a3, b3]
      exact hC'
