/-! What the class's reader of rules brings forth: one value, of signs that are known -/
theorem jn_num {v : Int32} (h : ¬ v < 0) : jn (0 - v) = 0 := by
  unfold jn
  rw [if_neg]
  obtain ⟨j, hj, rfl⟩ := nI_of h
  have key : ∀ c : Nat, 0 < c → c < 100 → ¬ 0 - nI j = nI c := fun c c0 c1 q => by
    have e : nI j + nI c = 0 := by
      rw [← q, Int32.sub_eq_add_neg, Int32.zero_add, Int32.add_right_neg]
    rw [nI_add] at e
    by_cases hh : j + c < 2 ^ 31
    · exact nI_ne0 (by omega) hh e
    · have b := congrArg (fun z => z.toBitVec.toNat) e
      rw [pk_tn (by omega)] at b
      have : (0 : Int32).toBitVec.toNat = 0 := rfl
      omega
  rintro (q | q | q | q | q | q | q)
  · exact key 42 (by decide) (by decide) q
  · exact key 43 (by decide) (by decide) q
  · exact key 45 (by decide) (by decide) q
  · exact key 47 (by decide) (by decide) q
  · exact key 60 (by decide) (by decide) q
  · exact key 61 (by decide) (by decide) q
  · exact key 62 (by decide) (by decide) q
theorem ng_ng (y : Int32) : 0 - (0 - y) = y := by
  rw [Int32.sub_eq_add_neg, Int32.zero_add, Int32.sub_eq_add_neg, Int32.zero_add, Int32.neg_neg]
theorem jn_y {c : Int32} (h : ¬ jn c = 0) : c = 42 ∨ c = 43 ∨ c = 45 ∨ c = 47 ∨ c = 60 ∨ c = 61 ∨ c = 62 := Decidable.not_not.mp (fun q => h (if_neg q))
def okS (c : Int32) : Prop := c = -1 ∨ c = 40 ∨ ¬ jn (0 - c) = 0
def okO (c : Int32) : Prop := c = -1 ∨ ¬ jn (0 - c) = 0 ∨ ¬ c < 0 ∨ ¬ nm (0 - c) = 0
def vl : List Int32 → Nat
  | [] => 0
  | c :: L => if c = -1 then vl L else if jn (0 - c) = 0 then vl L + 1 else if vl L < 2 then vl L else vl L - 1
def jc : List Int32 → Nat
  | [] => 0
  | c :: L => (if c = -1 ∨ c = 40 then 0 else 1) + jc L
def obr : List Int32 → Nat
  | [] => 0
  | c :: L => (if c = 40 then 1 else 0) + obr L
theorem vl_c (c : Int32) (L : List Int32) : vl (c :: L) = if c = -1 then vl L else if jn (0 - c) = 0 then vl L + 1 else if vl L < 2 then vl L else vl L - 1 := rfl
theorem jc_c (c : Int32) (L : List Int32) : jc (c :: L) = (if c = -1 ∨ c = 40 then 0 else 1) + jc L := rfl
theorem obr_c (c : Int32) (L : List Int32) : obr (c :: L) = (if c = 40 then 1 else 0) + obr L := rfl
theorem bbk_c (lo y : Int32) (sh ou : List Int32) : bbk lo (y :: sh) ou = if tg y < lo then (y :: sh, ou) else bbk lo sh (y :: ou) := rfl
theorem evL_len (al : Int32 → Int32) (ou : List Int32) : (evL al ou).length = vl ou := by
  induction ou with
  | nil => rfl
  | cons c L ih =>
    rw [evL_c, vl_c, ← ih]
    unfold st1
    by_cases h1 : c = -1
    · rw [if_pos h1, if_pos h1]
      cases evL al L <;> rfl
    · rw [if_neg h1, if_neg h1]
      by_cases h2 : jn (0 - c) = 0
      · rw [if_pos h2, if_pos h2]
        rfl
      · rw [if_neg h2, if_neg h2]
        rcases evL al L with _ | ⟨y, _ | ⟨x, s⟩⟩
        · rfl
        · rfl
        · show s.length + 1 = if s.length + 1 + 1 < 2 then _ else s.length + 1 + 1 - 1
          rw [if_neg (by omega)]
          rfl
theorem evL_cg {al al' : Int32 → Int32} (ha : ∀ c, ¬ nm c = 0 → al c = al' c) (ou : List Int32) (h : ∀ c, c ∈ ou → okO c) : evL al ou = evL al' ou := by
  induction ou with
  | nil => rfl
  | cons c L ih =>
    rw [evL_c, evL_c, ih (fun x hx => h x (List.mem_cons_of_mem _ hx))]
    unfold st1
    by_cases h1 : c = -1
    · rw [if_pos h1, if_pos h1]
    · rw [if_neg h1, if_neg h1]
      by_cases h2 : jn (0 - c) = 0
      · rw [if_pos h2, if_pos h2]
        by_cases h3 : c < 0
        · rw [if_pos h3, if_pos h3]
          rcases h c (List.mem_cons_self ..) with q | q | q | q
          · exact absurd q h1
          · exact absurd h2 q
          · exact absurd h3 q
          · rw [ha _ q]
        · rw [if_neg h3, if_neg h3]
      · rw [if_neg h2, if_neg h2]
theorem upd_eq (s : xs) (i : Nat) (x : Int32) : upd s i x i = x := if_pos rfl
theorem bbk_I {lo : Int32} (hl : tg 40 < lo) : ∀ sh ou : List Int32, (∀ c, c ∈ sh → okS c) → (∀ c, c ∈ ou → okO c) → vl ou = jc sh + 1 → (∀ c, c ∈ (bbk lo sh ou).1 → okS c) ∧ (∀ c, c ∈ (bbk lo sh ou).2 → okO c) ∧ obr (bbk lo sh ou).1 = obr sh ∧ vl (bbk lo sh ou).2 = jc (bbk lo sh ou).1 + 1 := by
  intro sh
  induction sh with
  | nil => exact fun ou h1 h2 h3 => ⟨h1, h2, rfl, h3⟩
  | cons y sh ih =>
    intro ou h1 h2 h3
    rw [bbk_c]
    by_cases c : tg y < lo
    · rw [if_pos c]
      exact ⟨h1, h2, rfl, h3⟩
    · rw [if_neg c]
      have y40 : ¬ y = 40 := fun q => c (by rw [q]; exact hl)
      rw [jc_c] at h3
      have e := ih (y :: ou) (fun x hx => h1 x (List.mem_cons_of_mem _ hx)) (fun x hx => by
        rcases List.mem_cons.mp hx with rfl | hx
        · rcases h1 x (List.mem_cons_self ..) with q | q | q
          · exact Or.inl q
          · exact absurd q y40
          · exact Or.inr (Or.inl q)
        · exact h2 x hx) (by
        rw [vl_c]
        by_cases y1 : y = -1
        · rw [if_pos y1]
          rw [if_pos (Or.inl y1)] at h3
          omega
        · rw [if_neg y1]
          rw [if_neg (fun q => q.elim y1 y40)] at h3
          rcases h1 y (List.mem_cons_self ..) with q | q | q
          · exact absurd q y1
          · exact absurd q y40
          · rw [if_neg q, if_neg (by omega)]
            omega)
      rw [obr_c, if_neg y40, Nat.zero_add]
      exact e
theorem bbk_1 : ∀ sh ou : List Int32, (∀ c, c ∈ sh → okS c) → (bbk 1 sh ou).1 = [] ∨ ∃ t, (bbk 1 sh ou).1 = 40 :: t := by
  intro sh
  induction sh with
  | nil => exact fun ou _ => Or.inl rfl
  | cons y sh ih =>
    intro ou h1
    rw [bbk_c]
    by_cases c : tg y < 1
    · rw [if_pos c]
      refine Or.inr ⟨sh, ?_⟩
      rcases h1 y (List.mem_cons_self ..) with q | q | q
      · rw [q] at c
        exact absurd c (by decide)
      · rw [q]
      · have z := ng_ng y
        rcases jn_y q with w | w | w | w | w | w | w <;> (rw [w] at z; rw [← z] at c; exact absurd c (by decide))
    · rw [if_neg c]
      exact ih (y :: ou) (fun x hx => h1 x (List.mem_cons_of_mem _ hx))
theorem nb_pos {x : xs} {tn : Nat} : ∀ (r k p a : Nat), a < 10 ^ k → k + r = 3 → ¬ (nb x tn r p (nI a)).2 < 0 := by
  intro r
  induction r with
  | zero =>
    intro k p a h1 h2
    have k3 : k = 3 := by omega
    rw [k3] at h1
    exact nI_pos (by omega)
  | succ r ih =>
    intro k p a h1 h2
    have pw : 10 ^ (k + 1) = 10 * 10 ^ k := by rw [Nat.pow_succ, Nat.mul_comm]
    have pk3 : 10 ^ k ≤ 10 ^ 2 := Nat.pow_le_pow_right (by decide) (by omega)
    show ¬ (if p < 40 ∧ dg (slAt x (nI tn) (nI p)) then nb x tn r (p + 1) (10 * nI a + slAt x (nI tn) (nI p) - 48) else (p, nI a)).2 < 0
    by_cases q : p < 40 ∧ dg (slAt x (nI tn) (nI p))
    · rw [if_pos q]
      obtain ⟨b, hb, e⟩ := dg_n q.2
      have e2 : (10 : Int32) * nI a + slAt x (nI tn) (nI p) - 48 = nI (10 * a + b) := by
        rw [e, show (10 : Int32) * nI a = nI (10 * a) from pk_mul 10 a, nI_add, show nI (10 * a + (48 + b)) - 48 = nI (10 * a + (48 + b) - 48) from nI_sub (b := 48) (by omega)]
        congr 1
        omega
      rw [e2]
      exact ih (k + 1) (p + 1) _ (by omega) (by omega)
    · rw [if_neg q]
      exact nI_pos (by omega)
def RI (S : RS) : Prop := (∀ c, c ∈ S.1 → okS c) ∧ (∀ c, c ∈ S.2.1 → okO c) ∧ obr S.1 = S.2.2.2.1 ∧ vl S.2.1 = jc S.1 + (if S.2.2.2.2.2 = 0 then 1 else 0)
theorem tkT_I {x : xs} {tn : Nat} {y : Int32} {S T : RS} (h : RI S) (hu : ¬ S.2.2.2.2.2 = 0) (e : tkT x tn y S = some T) : RI T := by
  obtain ⟨sh, ou, p, d, c, u⟩ := S
  obtain ⟨h1, h2, h3, h4⟩ := h
  dsimp only at h1 h2 h3 h4 hu
  rw [if_neg hu] at h4
  unfold tkT at e
  dsimp only at e
  split at e
  · cases e
    have v0 : ¬ (nb x tn 3 p 0).2 < 0 := nb_pos 3 0 p 0 (by decide) rfl
    refine ⟨h1, fun z hz => ?_, h3, ?_⟩
    · rcases List.mem_cons.mp hz with rfl | hz
      · exact Or.inr (Or.inr (Or.inl v0))
      · exact h2 z hz
    · show vl ((nb x tn 3 p 0).2 :: ou) = jc sh + 1
      rw [vl_c, if_neg (fun q => v0 (by rw [q]; decide)), if_pos (jn_num v0)]
      omega
  · split at e
    · rename_i q
      cases e
      refine ⟨h1, fun z hz => ?_, h3, ?_⟩
      · rcases List.mem_cons.mp hz with rfl | hz
        · exact Or.inr (Or.inr (Or.inr (by rw [ng_ng]; exact q)))
        · exact h2 z hz
      · show vl ((0 - y) :: ou) = jc sh + 1
        rw [vl_c, ng_ng]
        rcases nm_let q with rfl | rfl | rfl | rfl | rfl | rfl | rfl <;> (rw [if_neg (by decide), if_pos (by decide)]; omega)
    · split at e
      · cases e
        refine ⟨fun z hz => ?_, h2, ?_, ?_⟩
        · rcases List.mem_cons.mp hz with rfl | hz
          · exact Or.inl rfl
          · exact h1 z hz
        · show obr (-1 :: sh) = d
          rw [obr_c, if_neg (by decide)]
          omega
        · show vl ou = jc (-1 :: sh) + (if u = 0 then 1 else 0)
          rw [jc_c, if_pos (Or.inl rfl), if_neg hu]
          omega
      · split at e
        · rename_i q
          cases e
          refine ⟨fun z hz => ?_, h2, ?_, ?_⟩
          · rcases List.mem_cons.mp hz with rfl | hz
            · exact Or.inr (Or.inl q.1)
            · exact h1 z hz
          · show obr (y :: sh) = d + 1
            rw [obr_c, if_pos q.1]
            omega
          · show vl ou = jc (y :: sh) + (if u = 0 then 1 else 0)
            rw [jc_c, if_pos (Or.inr q.1), if_neg hu]
            omega
        · cases e
theorem tkJ_I {y : Int32} {S T : RS} (h : RI S) (hu : S.2.2.2.2.2 = 0) (e : tkJ y S = some T) : RI T := by
  obtain ⟨sh, ou, p, d, c, u⟩ := S
  obtain ⟨h1, h2, h3, h4⟩ := h
  dsimp only at h1 h2 h3 h4 hu
  rw [if_pos hu] at h4
  unfold tkJ at e
  dsimp only at e
  split at e
  · rename_i q
    cases e
    obtain ⟨k1, k2, k3, k4⟩ := bbk_I (lo := 1) (by decide) sh ou h1 h2 h4
    rcases bbk_1 sh ou h1 with w | ⟨t, w⟩
    · rw [w] at k3
      have : obr [] = 0 := rfl
      omega
    · rw [w] at k1 k3 k4
      rw [obr_c, if_pos rfl] at k3
      rw [jc_c, if_pos (Or.inr rfl)] at k4
      refine ⟨?_, k2, ?_, ?_⟩
      · show ∀ z, z ∈ (bbk 1 sh ou).1.tail → okS z
        rw [w]
        exact fun z hz => k1 z (List.mem_cons_of_mem _ hz)
      · show obr (bbk 1 sh ou).1.tail = d - 1
        rw [w]
        show obr t = d - 1
        omega
      · show vl (bbk 1 sh ou).2 = jc (bbk 1 sh ou).1.tail + (if u = 0 then 1 else 0)
        rw [w, if_pos hu, k4]
        show 0 + jc t + 1 = jc t + 1
        omega
  · split at e
    · rename_i q
      cases e
      obtain ⟨k1, k2, k3, k4⟩ := bbk_I (lo := tg (0 - y)) (by rcases jn_y q.1 with rfl | rfl | rfl | rfl | rfl | rfl | rfl <;> decide) sh ou h1 h2 h4
      refine ⟨fun z hz => ?_, k2, ?_, ?_⟩
      · rcases List.mem_cons.mp hz with rfl | hz
        · exact Or.inr (Or.inr (by rw [ng_ng]; exact q.1))
        · exact k1 z hz
      · show obr ((0 - y) :: (bbk (tg (0 - y)) sh ou).1) = d
        rw [obr_c, if_neg (by rcases jn_y q.1 with rfl | rfl | rfl | rfl | rfl | rfl | rfl <;> decide)]
        omega
      · show vl (bbk (tg (0 - y)) sh ou).2 = jc ((0 - y) :: (bbk (tg (0 - y)) sh ou).1) + 0
        rw [jc_c, if_neg (by rcases jn_y q.1 with rfl | rfl | rfl | rfl | rfl | rfl | rfl <;> decide)]
        omega
    · cases e
theorem rdN_I {x : xs} {tn : Nat} : ∀ (r : Nat) {S : RS}, RI S → RSok S → RI (rdN x tn r S).1 ∧ RSok (rdN x tn r S).1 := by
  intro r
  induction r with
  | zero => exact fun h1 h2 => ⟨h1, h2⟩
  | succ r ih =>
    intro S h1 h2
    rw [rdN_s]
    by_cases c : S.2.2.1 < min tn 40
    · rw [if_pos c]
      cases e : stp x tn S with
      | none => exact ⟨h1, h2⟩
      | some T =>
        refine ih ?_ (stp_ok h2 (by omega) e).1
        unfold stp at e
        split at e
        · rename_i q
          exact tkJ_I h1 q e
        · rename_i q
          exact tkT_I h1 q e
    · rw [if_neg c]
      exact ⟨h1, h2⟩
theorem rdV_I {x : xs} {tn : Nat} (t0 : ¬ tn = 0) (h : (rdV x tn).1 = -1) : (rdV x tn).2.length ≤ 40 ∧ (∀ c, c ∈ (rdV x tn).2 → okO c) ∧ vl (rdV x tn).2 = 1 := by
  unfold rdV at h ⊢
  rw [if_neg t0] at h ⊢
  obtain ⟨I, O⟩ := rdN_I (x := x) (tn := tn) 40 (S := rS0) ⟨fun _ q => (nomatch q), fun _ q => (nomatch q), rfl, rfl⟩ ⟨by decide, by decide, by decide⟩
  generalize rdN x tn 40 rS0 = R at h I O ⊢
  obtain ⟨⟨sh, ou, p, d, c, u⟩, b⟩ := R
  obtain ⟨i1, i2, i3, i4⟩ := I
  obtain ⟨o1, o2, o3⟩ := O
  dsimp only at i1 i2 i3 i4 o1 o2 o3
  unfold rdF at h ⊢
  dsimp only at h ⊢
  cases b with
  | false =>
    rw [if_pos rfl] at h
    exact absurd h (nI_m1 (by omega))
  | true =>
    rw [if_neg (by decide)] at h ⊢
    by_cases q : ¬ u = 0 ∨ 1 ≤ d ∨ 40 < tn
    · rw [if_pos q] at h
      exact absurd h (nI_m1 (by omega))
    · rw [if_neg q]
      have u0 : u = 0 := Decidable.not_not.mp (fun z => q (Or.inl z))
      have d0 : d = 0 := Decidable.not_not.mp (fun z => q (Or.inr (Or.inl (by omega))))
      rw [if_pos u0] at i4
      obtain ⟨k1, k2, k3, k4⟩ := bbk_I (lo := 1) (by decide) sh ou i1 i2 i4
      have bl := bbk_len 1 sh ou
      refine ⟨by show (bbk 1 sh ou).2.length ≤ 40; omega, k2, ?_⟩
      show vl (bbk 1 sh ou).2 = 1
      rcases bbk_1 sh ou i1 with w | ⟨t, w⟩
      · rw [k4, w]
        rfl
      · rw [w, obr_c, if_pos rfl] at k3
        omega
theorem spN_ev (σ : xs) (f g : xs) : ∀ ou : List Int32, ou.length ≤ 40 → stk f ou → (spN σ f (g, 0) ou.length).2 = (evL (nmd σ) ou).length ∧ (evL (nmd σ) ou).length ≤ ou.length ∧ stk (spN σ f (g, 0) ou.length).1 (evL (nmd σ) ou) := by
  intro ou
  induction ou with
  | nil => exact fun _ _ => ⟨rfl, Nat.le_refl _, trivial⟩
  | cons c L ih =>
    intro hl hs
    obtain ⟨a1, a2, a3⟩ := ih (by have : (c :: L).length = L.length + 1 := rfl; omega) hs.2
    have hl' : L.length + 1 ≤ 40 := hl
    show (sp1 σ (f L.length) (spN σ f (g, 0) L.length)).2 = _ ∧ _ ≤ L.length + 1 ∧ stk (sp1 σ (f L.length) (spN σ f (g, 0) L.length)).1 _
    rw [hs.1, evL_c]
    generalize spN σ f (g, 0) L.length = S at a1 a3 ⊢
    generalize evL (nmd σ) L = E at a1 a2 a3 ⊢
    obtain ⟨s, n⟩ := S
    dsimp only at a1 a3
    subst a1
    unfold sp1 st1
    dsimp only
    by_cases h1 : c = -1
    · rw [if_pos h1, if_pos h1]
      rcases E with _ | ⟨y, E⟩
      · exact ⟨rfl, by show 0 ≤ _; omega, trivial⟩
      · rw [if_neg (by show ¬ E.length + 1 < 1; omega)]
        have e0 : s E.length = y := a3.1
        have a2' : E.length + 1 ≤ L.length := a2
        refine ⟨rfl, by show E.length + 1 ≤ _; omega, ?_, ?_⟩
        · show upd s E.length (0 - s E.length) E.length = 0 - y
          rw [upd_eq, e0]
        · exact stk_up a3.2 (Nat.le_refl _) _
    · rw [if_neg h1, if_neg h1]
      by_cases h2 : jn (0 - c) = 0
      · rw [if_pos h2, if_pos h2, if_neg (by omega)]
        refine ⟨rfl, by show E.length + 1 ≤ _; omega, upd_eq _ _ _, stk_up a3 (Nat.le_refl _) _⟩
      · rw [if_neg h2, if_neg h2]
        rcases E with _ | ⟨y, _ | ⟨z, E⟩⟩
        · exact ⟨rfl, by show 0 ≤ _; omega, trivial⟩
        · rw [if_pos (by show 1 < 2; decide)]
          exact ⟨rfl, by show 1 ≤ _; omega, a3⟩
        · rw [if_neg (by show ¬ E.length + 1 + 1 < 2; omega)]
          have a2' : E.length + 1 + 1 ≤ L.length := a2
          have e0 : s (E.length + 1) = y := a3.1
          have e1 : s E.length = z := a3.2.1
          refine ⟨rfl, by show E.length + 1 ≤ _; omega, ?_, ?_⟩
          · show upd s E.length (jo (0 - c) (s E.length) (s (E.length + 1))) E.length = jo (0 - c) z y
            rw [upd_eq, e0, e1]
          · exact stk_up a3.2.2 (Nat.le_refl _) _
/-- the spring of a rule that was read -/
def ruF (tf : xs) (tn : Nat) (σ : xs) : Int32 := if tn = 0 then 3 else iMax 0 (iMin 9 ((evL (nmd σ) (rdV tf tn).2).headD 0))
theorem ruF_1 {tf : xs} {tn : Nat} (t0 : ¬ tn = 0) {σ : xs} {z : Int32} (h : evL (nmd σ) (rdV tf tn).2 = [z]) : ruF tf tn σ = iMax 0 (iMin 9 z) := by
  unfold ruF
  rw [if_neg t0, h]
  rfl
theorem ru_ok {tf : xs} {tn : Nat} (h : (rdV tf tn).1 = -1) : RuleOk tf tn (ruF tf tn) := by
  by_cases t0 : tn = 0
  · subst t0
    exact ⟨by show 0 ≤ 40; decide, fun f _ σ g => rfl⟩
  · obtain ⟨h1, h2, h3⟩ := rdV_I t0 h
    refine ⟨h1, fun f hf σ g => ?_⟩
    obtain ⟨a1, -, a3⟩ := spN_ev σ f g _ h1 hf
    have hn : ¬ (rdV tf tn).2.length = 0 := fun q => by
      rw [List.length_eq_zero_iff.mp q] at h3
      exact absurd h3 (by decide)
    unfold spr
    rw [if_neg hn]
    have e := evL_len (nmd σ) (rdV tf tn).2
    rw [h3] at e
    obtain ⟨z, ez⟩ := List.length_eq_one_iff.mp e
    rw [ruF_1 t0 ez]
    rw [ez] at a3
    rw [show (spN σ f (g, 0) (rdV tf tn).2.length).1 0 = z from a3.1]
