/-! Cells of the other kinds, and heaps with two or three cells of one thing -/
abbrev iA (K : xK) (n : Nat) (f : Nat → Int32) : va_E := .inl (K.2 1, n, .inl f)
abbrev bA (K : xK) (n : Nat) (f : Nat → Int32) : va_E := .inl (K.2 0, n, .inl f)
abbrev zA (K : xK) (n : Nat) (f : Nat → Int32) : va_E := .inl (K.2 3, n, .inl f)
abbrev lA (K : xK) (n : Nat) (f : Nat → Int64) : va_E := .inl (K.2 2, n, .inr (.inl f))
abbrev rA (K : xK) (n : Nat) (f : Nat → Option Nat) : va_E := .inl (K.2 4, n, .inr (.inr (.inr (.inr f))))
abbrev diO (s : Int32) : va_E := .inr (0, [.int s])
abbrev grO (a : Nat) (x y s g : Int32) : va_E := .inr (1, [.ref (a + 1), .ref (a + 2), .int x, .int y, .int s, .int g])
abbrev heO (a : Nat) (n : Int32) : va_E := .inr (2, [.ref (a + 1), .ref (a + 2), .int n])
abbrev nuO (a : Nat) (n : Int32) : va_E := .inr (4, [.ref (a + 1), .int n])
abbrev paO (a : Nat) (n : Int32) : va_E := .inr (5, [.ref (a + 1), .int n])
abbrev plO (a g : Nat) (t x y : Int32) : va_E := .inr (6, [.ref g, .ref (a + 1), .ref (a + 2), .int t, .int x, .int y])
abbrev ruO (a : Nat) (n : Int32) : va_E := .inr (7, [.ref (a + 1), .ref (a + 2), .int n])
abbrev rrO (a t r : Nat) (n p d c u : Int32) : va_E := .inr (8, [.ref t, .ref r, .ref (a + 1), .int n, .int p, .int d, .int c, .int u])
abbrev siO (a : Nat) (n : Int32) : va_E := .inr (9, [.ref (a + 1), .ref (a + 2), .int n])
abbrev slO (a : Nat) (n : Int32) : va_E := .inr (10, [.ref (a + 1), .int n])
def X2 (h : xH) (a : Nat) (o e : va_E) : Prop := h.2 a = some o ∧ h.2 (a + 1) = some e
def X3 (h : xH) (a : Nat) (o e f : va_E) : Prop := h.2 a = some o ∧ h.2 (a + 1) = some e ∧ h.2 (a + 2) = some f
def P2 (h : xH) (a : Nat) (o e : va_E) : xH := xup (xup h a o) (a + 1) e
def P3 (h : xH) (a : Nat) (o e f : va_E) : xH := xup (xup (xup h a o) (a + 1) e) (a + 2) f
theorem P2_at (h : xH) (a : Nat) (o e : va_E) : X2 (P2 h a o e) a o e := by
  refine ⟨?_, ?_⟩ <;> simp [P2, xup]
theorem P3_at (h : xH) (a : Nat) (o e f : va_E) : X3 (P3 h a o e f) a o e f := by
  refine ⟨?_, ?_, ?_⟩ <;> simp [P3, xup]
theorem P2_ne (h : xH) {a b : Nat} (o e : va_E) (n0 : b ≠ a) (n1 : b ≠ a + 1) : (P2 h a o e).2 b = h.2 b := by simp [P2, xup, n0, n1]
theorem P3_ne (h : xH) {a b : Nat} (o e f : va_E) (n0 : b ≠ a) (n1 : b ≠ a + 1) (n2 : b ≠ a + 2) : (P3 h a o e f).2 b = h.2 b := by simp [P3, xup, n0, n1, n2]
theorem xH_ext {h g : xH} (h1 : h.1 = g.1) (h2 : ∀ b, h.2 b = g.2 b) : h = g := Prod.ext h1 (funext h2)
theorem P2_P2 (h : xH) (a : Nat) (o e o' e' : va_E) : P2 (P2 h a o e) a o' e' = P2 h a o' e' := by
  refine xH_ext rfl (fun b => ?_)
  by_cases h0 : b = a
  · subst h0; rw [(P2_at _ b o' e').1, (P2_at _ b o' e').1]
  · by_cases h1 : b = a + 1
    · subst h1; rw [(P2_at _ a o' e').2, (P2_at _ a o' e').2]
    · rw [P2_ne _ _ _ h0 h1, P2_ne _ _ _ h0 h1, P2_ne _ _ _ h0 h1]
theorem P3_P3 (h : xH) (a : Nat) (o e f o' e' f' : va_E) : P3 (P3 h a o e f) a o' e' f' = P3 h a o' e' f' := by
  refine xH_ext rfl (fun b => ?_)
  by_cases h0 : b = a
  · subst h0; rw [(P3_at _ b o' e' f').1, (P3_at _ b o' e' f').1]
  · by_cases h1 : b = a + 1
    · subst h1; rw [(P3_at _ a o' e' f').2.1, (P3_at _ a o' e' f').2.1]
    · by_cases h2 : b = a + 2
      · subst h2; rw [(P3_at _ a o' e' f').2.2, (P3_at _ a o' e' f').2.2]
      · rw [P3_ne _ _ _ _ h0 h1 h2, P3_ne _ _ _ _ h0 h1 h2, P3_ne _ _ _ _ h0 h1 h2]
theorem P2_id {h : xH} {a : Nat} {o e : va_E} (H : X2 h a o e) : P2 h a o e = h := by
  unfold P2
  rw [xup_id H.1, xup_id H.2]
theorem P3_id {h : xH} {a : Nat} {o e f : va_E} (H : X3 h a o e f) : P3 h a o e f = h := by
  unfold P3
  rw [xup_id H.1, xup_id H.2.1, xup_id H.2.2]
theorem P2_o {h : xH} {a : Nat} {o e : va_E} (H : X2 h a o e) (o' : va_E) : xup h a o' = P2 h a o' e := by
  unfold P2
  rw [xup_id (h := xup h a o') (by rw [xup_ne _ _ (by omega)]; exact H.2)]
theorem P2_e {h : xH} {a : Nat} {o e : va_E} (H : X2 h a o e) (e' : va_E) : xup h (a + 1) e' = P2 h a o e' := by
  unfold P2
  rw [xup_id H.1]
theorem P2_eo (h : xH) (a : Nat) (o e : va_E) : xup (xup h (a + 1) e) a o = P2 h a o e := by
  unfold P2
  exact xup_comm h _ _ (by omega)
theorem P3_o {h : xH} {a : Nat} {o e f : va_E} (H : X3 h a o e f) (o' : va_E) : xup h a o' = P3 h a o' e f := by
  unfold P3
  rw [xup_id (h := xup h a o') (by rw [xup_ne _ _ (by omega)]; exact H.2.1), xup_id (h := xup h a o') (by rw [xup_ne _ _ (by omega)]; exact H.2.2)]
theorem P3_e {h : xH} {a : Nat} {o e f : va_E} (H : X3 h a o e f) (e' : va_E) : xup h (a + 1) e' = P3 h a o e' f := by
  unfold P3
  rw [xup_id H.1, xup_id (h := xup h (a + 1) e') (by rw [xup_ne _ _ (by omega)]; exact H.2.2)]
theorem P3_f {h : xH} {a : Nat} {o e f : va_E} (H : X3 h a o e f) (f' : va_E) : xup h (a + 2) f' = P3 h a o e f' := by
  unfold P3
  rw [xup_id H.1, xup_id H.2.1]
theorem P3_efo (h : xH) (a : Nat) (o e f : va_E) : xup (xup (xup h (a + 1) e) (a + 2) f) a o = P3 h a o e f := by
  unfold P3
  rw [xup_comm (xup h (a + 1) e) f o (by omega), xup_comm h e o (by omega)]
/-- defaults of fields -/
theorem def_X0 : ∀ j, j < 1 → defaultValue (tyX0 j) = vp_V [.int 0] j := by decide +kernel
theorem def_X1 : ∀ j, j < 6 → defaultValue (tyX1 j) = vp_V [.null, .null, .int 0, .int 0, .int 0, .int 0] j := by decide +kernel
theorem def_X2 : ∀ j, j < 3 → defaultValue (tyX2 j) = vp_V [.null, .null, .int 0] j := by decide +kernel
theorem def_X3 : ∀ j, j < 9 → defaultValue (tyX3 j) = vp_V [.null, .null, .int 0, .int 0, .int 0, .int 0, .int 0, .int 0, .int 0] j := by decide +kernel
theorem def_X4 : ∀ j, j < 2 → defaultValue (tyX4 j) = vp_V [.null, .int 0] j := by decide +kernel
theorem def_X5 : ∀ j, j < 2 → defaultValue (tyX5 j) = vp_V [.null, .int 0] j := by decide +kernel
theorem def_X6 : ∀ j, j < 6 → defaultValue (tyX6 j) = vp_V [.null, .null, .null, .int 0, .int 0, .int 0] j := by decide +kernel
theorem def_X7 : ∀ j, j < 3 → defaultValue (tyX7 j) = vp_V [.null, .null, .int 0] j := by decide +kernel
theorem def_X8 : ∀ j, j < 8 → defaultValue (tyX8 j) = vp_V [.null, .null, .null, .int 0, .int 0, .int 0, .int 0, .int 0] j := by decide +kernel
theorem def_X9 : ∀ j, j < 3 → defaultValue (tyX9 j) = vp_V [.null, .null, .int 0] j := by decide +kernel
theorem def_X10 : ∀ j, j < 2 → defaultValue (tyX10 j) = vp_V [.null, .int 0] j := by decide +kernel
theorem def_X11 : ∀ j, j < 16 → defaultValue (tyX11 j) = vp_V [.null, .null, .null, .null, .null, .null, .null, .null, .null, .null, .null, .null, .null, .null, .null, .null] j := by decide +kernel
