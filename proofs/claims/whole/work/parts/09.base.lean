/-! Small rows of the logic, numbers, and what a hill is -/
section XB
variable {K : xK} {B : Nat} {l : Launch} {F : Nat} {own : String} {ini : Bool} {cc : ByteArray} {nL : Nat} {ret : Option FieldType} {mc ms rc rs : Nat} {Q : Option Value → xH → Prop} {pc : Nat} {ls : List (Option Value)} {st : List Value} {h : xH}
theorem xT.nm (k : ∀ g : xH, g = h → xT K B l F own ini cc nL ret mc ms rc rs Q pc ls st g) : xT K B l F own ini cc nL ret mc ms rc rs Q pc ls st h := k h rfl
/-- two heaps told of one machine's heap -/
def xEq (h h' : xH) : Prop := ∀ (K : xK) (B : Nat) (H : Heap), xR K B h H → xR K B h' H
theorem xT.equiv {h' : xH} (e : xEq h h') (k : xT K B l F own ini cc nL ret mc ms rc rs Q pc ls st h') : xT K B l F own ini cc nL ret mc ms rc rs Q pc ls st h := by
  intro p e' s m args below meth c H locs cells slots L C I
  exact k p e' s m args below meth c H locs cells slots L C ⟨e K B H I.1, I.2⟩
end XB
theorem xg_ne {g h : xH} {c : Nat} {e : va_E} (hg : g = xup h c e) {b : Nat} {v : Option va_E} (n : b ≠ c) (hb : h.2 b = v) : g.2 b = v := by
  rw [hg, xup_ne _ _ n]
  exact hb
theorem xg_eq {g h : xH} {c : Nat} {e : va_E} (hg : g = xup h c e) : g.2 c = some e := by
  rw [hg]
  exact xup_eq _ _ _
theorem xn_ne {g h : xH} {e : va_E} (hg : g = xnew h e) {b : Nat} {v : Option va_E} (n : b ≠ h.1) (hb : h.2 b = v) : g.2 b = v := by
  rw [hg]
  show (if b = h.1 then some e else h.2 b) = v
  rw [if_neg n]
  exact hb
theorem xn_eq {g h : xH} {e : va_E} (hg : g = xnew h e) : g.2 h.1 = some e := by
  rw [hg]
  show (if h.1 = h.1 then some e else h.2 h.1) = some e
  rw [if_pos rfl]
theorem xn_1 {g h : xH} {e : va_E} (hg : g = xnew h e) : g.1 = h.1 + 1 := by rw [hg]; rfl
theorem xg_1 {g h : xH} {c : Nat} {e : va_E} (hg : g = xup h c e) : g.1 = h.1 := by rw [hg]; rfl
theorem xix_lit {i : Int32} {n j : Nat} (h : (!decide (i < 0) && decide (i.toNatClampNeg < n) && decide (i.toNatClampNeg = j)) = true) : xix i n j := by
  simp only [Bool.and_eq_true, Bool.not_eq_true', decide_eq_false_iff_not, decide_eq_true_eq] at h
  exact ⟨fun q => q.elim h.1.1 (fun z => by omega), h.2⟩
theorem xEq.rf (h : xH) : xEq h h := fun _ _ _ q => q
theorem xEq.tr {h1 h2 h3 : xH} (a : xEq h1 h2) (b : xEq h2 h3) : xEq h1 h3 := fun K B H q => b K B H (a K B H q)
/-- the cells of the second are those of the first, but for what lies behind the ends of arrays -/
theorem xEq.of {h h' : xH} (h1 : h.1 = h'.1) (h2 : ∀ (a : Nat) (e' : va_E), h'.2 a = some e' → ∃ e, h.2 a = some e ∧ xcong e e') : xEq h h' := by
  intro K B H q
  refine ⟨q.1.trans h1, by rw [← h1]; exact q.2.1, fun a e' he' => ?_⟩
  obtain ⟨e, he, hc⟩ := h2 a e' he'
  exact ⟨(q.2.2 a e he).1, hc _ _ _ (q.2.2 a e he).2⟩
theorem xcong.rf (e : va_E) : xcong e e := fun _ _ _ q => q
-- hills: 0..9 weights (five above, five below), 10, 11 how many wait, 12 seats, 13 grip, 14 cistern, 15 down, 16 up, 17 trips, 18 minutes
abbrev xs : Type := Nat → Int32
def hO (a : Nat) (σ : xs) : va_E := .inr (3, [.ref (a + 1), .ref (a + 2), .int (σ 12), .int (σ 13), .int (σ 14), .int (σ 15), .int (σ 16), .int (σ 17), .int (σ 18)])
def hW (K : xK) (σ : xs) : va_E := .inl (K.2 1, 10, .inl σ)
def hN (K : xK) (σ : xs) : va_E := .inl (K.2 1, 2, .inl (fun j => σ (10 + j)))
def xHill (K : xK) (h : xH) (a : Nat) (σ : xs) : Prop := h.2 a = some (hO a σ) ∧ h.2 (a + 1) = some (hW K σ) ∧ h.2 (a + 2) = some (hN K σ)
def xpH (K : xK) (h : xH) (a : Nat) (σ : xs) : xH := xup (xup (xup h a (hO a σ)) (a + 1) (hW K σ)) (a + 2) (hN K σ)
theorem xpH_at (K : xK) (h : xH) (a : Nat) (σ : xs) : xHill K (xpH K h a σ) a σ := by
  refine ⟨?_, ?_, ?_⟩ <;> simp [xpH, xup]
theorem xpH_1 (K : xK) (h : xH) (a : Nat) (σ : xs) : (xpH K h a σ).1 = h.1 := rfl
theorem xpH_ne (K : xK) (h : xH) {a b : Nat} (σ : xs) (n0 : b ≠ a) (n1 : b ≠ a + 1) (n2 : b ≠ a + 2) : (xpH K h a σ).2 b = h.2 b := by
  simp [xpH, xup, n0, n1, n2]
theorem xpH_pH (K : xK) (h : xH) (a : Nat) (σ τ : xs) : xpH K (xpH K h a σ) a τ = xpH K h a τ := by
  unfold xpH xup
  refine Prod.ext rfl ?_
  funext b
  by_cases h0 : b = a
  · subst h0; simp
  · by_cases h1 : b = a + 1
    · subst h1; simp
    · by_cases h2 : b = a + 2
      · subst h2; simp
      · simp [h0, h1, h2]
theorem xpH_id {K : xK} {h : xH} {a : Nat} {σ : xs} (H : xHill K h a σ) : xpH K h a σ = h := by
  unfold xpH
  rw [xup_id H.1, xup_id H.2.1, xup_id H.2.2]
/-- a heap that is h but for the hill's three cells, which hold what σ tells -/
theorem xEq_hill {K : xK} {h g : xH} {a : Nat} {σ : xs} {f1 f2 : Nat → Int32} (e1 : g.1 = h.1) (e0 : g.2 a = some (hO a σ)) (ew : g.2 (a + 1) = some (.inl (K.2 1, 10, .inl f1))) (en : g.2 (a + 2) = some (.inl (K.2 1, 2, .inl f2)))
    (hw : ∀ j, j < 10 → f1 j = σ j) (hn : ∀ j, j < 2 → f2 j = σ (10 + j)) (ho : ∀ b, b ≠ a → b ≠ a + 1 → b ≠ a + 2 → g.2 b = h.2 b) : xEq g (xpH K h a σ) := by
  refine xEq.of e1 (fun b e' hb => ?_)
  by_cases h0 : b = a
  · subst h0
    rw [(xpH_at K h b σ).1] at hb
    cases hb
    exact ⟨_, e0, xcong.rf _⟩
  · by_cases h1 : b = a + 1
    · subst h1
      rw [(xpH_at K h a σ).2.1] at hb
      cases hb
      exact ⟨_, ew, xcong_i hw⟩
    · by_cases h2 : b = a + 2
      · subst h2
        rw [(xpH_at K h a σ).2.2] at hb
        cases hb
        exact ⟨_, en, xcong_i hn⟩
      · rw [xpH_ne K h σ h0 h1 h2] at hb
        exact ⟨e', (ho b h0 h1 h2).trans hb, xcong.rf _⟩
def ln (σ : xs) (s : Nat) : Nat := (σ (10 + s)).toNatClampNeg
def sn (σ : xs) : Nat := (σ 12).toNatClampNeg
def hOk (σ : xs) : Prop := (∀ s, s < 2 → σ (10 + s) = nI (ln σ s) ∧ ln σ s ≤ 5) ∧ σ 12 = nI (sn σ) ∧ 1 ≤ sn σ ∧ sn σ ≤ 3
def bI (p : Prop) [Decidable p] : Int32 := if p then 1 else 0
theorem bI_t {p : Prop} [Decidable p] (h : p) : bI p = 1 := if_pos h
theorem bI_f {p : Prop} [Decidable p] (h : ¬ p) : bI p = 0 := if_neg h
theorem bI_n (p : Prop) [Decidable p] : narrow .boolean (.int (bI p)) = .int (bI p) := by
  unfold bI
  split <;> rfl
theorem bI_0 {p : Prop} [Decidable p] : bI p = 0 ↔ ¬ p := by
  unfold bI
  split
  · rename_i h
    exact ⟨fun q => absurd q (by decide), fun q => absurd h q⟩
  · rename_i h
    exact ⟨fun _ => h, fun _ => rfl⟩
def hWaits (σ : xs) (side : Int32) : Int32 := if side = 0 then σ 10 else if side = 1 then σ 11 else 0
