/-! The model: the least of a group, inner loop (written by wip/whole/mod52.py) -/
theorem a1023 : ∀ X, X < 1024 → nI X &&& 1023 = nI X := by decide +kernel
def loW (f6 : xs) (gr : Int32) (a b : Nat) : Int32 := iMax 0 (f6 (32 + b) + gr - f6 a)
def loX (x : Int32) (a b : Nat) : Int32 := x &&& ((nI a ||| nI b <<< ((5 : Int32) &&& 31)) ^^^ (-1))
def loC (f6 f4 : xs) (gr fr x : Int32) (a b : Nat) (z : Int32 × Int32 × Int32) : Prop := nI b &&& ((x >>> ((5 : Int32) &&& 31)) ^^^ (-1)) = 0 ∧ ¬ f6 (32 + b) < 0 ∧ ¬ nI a + nI b = 0 ∧ (fr = 0 ∨ loW f6 gr a b ≤ 0) ∧ loW f6 gr a b + f4 (loX x a b).toNatClampNeg < z.1
def lo1 (f6 f4 : xs) (gr fr x : Int32) (a b : Nat) (z : Int32 × Int32 × Int32) : Int32 × Int32 × Int32 := if nI b &&& ((x >>> ((5 : Int32) &&& 31)) ^^^ (-1)) = 0 ∧ ¬ f6 (32 + b) < 0 ∧ ¬ nI a + nI b = 0 ∧ (fr = 0 ∨ loW f6 gr a b ≤ 0) ∧ loW f6 gr a b + f4 (loX x a b).toNatClampNeg < z.1 then (loW f6 gr a b + f4 (loX x a b).toNatClampNeg, nI a, nI b) else z
def loI (f6 f4 : xs) (gr fr x : Int32) (a : Nat) : Nat → Nat → Int32 × Int32 × Int32 → Int32 × Int32 × Int32
  | 0, _, z => z
  | r + 1, b, z => loI f6 f4 gr fr x a r (b + 1) (lo1 f6 f4 gr fr x a b z)
theorem loI_n {f6 f4 : xs} {gr fr x : Int32} {a b r : Nat} {z : Int32 × Int32 × Int32} (h : ¬ loC f6 f4 gr fr x a b z) : loI f6 f4 gr fr x a (r + 1) b z = loI f6 f4 gr fr x a r (b + 1) z := congrArg (loI f6 f4 gr fr x a r (b + 1)) (if_neg h)
theorem loI_y {f6 f4 : xs} {gr fr x : Int32} {a b r : Nat} {z : Int32 × Int32 × Int32} (h : loC f6 f4 gr fr x a b z) : loI f6 f4 gr fr x a (r + 1) b z = loI f6 f4 gr fr x a r (b + 1) (loW f6 gr a b + f4 (loX x a b).toNatClampNeg, nI a, nI b) := congrArg (loI f6 f4 gr fr x a r (b + 1)) (if_pos h)
def fz (m : xs) (z : Int32 × Int32 × Int32) : xs := upd (upd m 27 z.2.1) 28 z.2.2
theorem fz_up (m : xs) (z : Int32 × Int32 × Int32) (t p q : Int32) : upd (upd (fz m z) 27 p) 28 q = fz m (t, p, q) := by
  unfold fz
  rw [upd_cm _ _ _ (show 28 ≠ 27 by decide), upd_upd, upd_upd]
