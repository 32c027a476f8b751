/-! The class's reader of rules, run from any state; what its steps are worth -/
def Rn (x : xs) (tn : Nat) (S : RS) : RS × Bool := rdN x tn (min tn 40 - S.2.2.1) S
theorem rdN_s (x : xs) (tn r : Nat) (S : RS) : rdN x tn (r + 1) S = if S.2.2.1 < min tn 40 then (match stp x tn S with
      | some T => rdN x tn r T
      | none => (S, false)) else (S, true) := rfl
theorem stp_lt {x : xs} {tn : Nat} {S T : RS} (hp : S.2.2.1 < min tn 40) (e : stp x tn S = some T) : S.2.2.1 < T.2.2.1 := by
  obtain ⟨sh, ou, p, d, c, u⟩ := S
  dsimp only at hp ⊢
  unfold stp at e
  dsimp only at e
  split at e
  · unfold tkJ at e
    dsimp only at e
    split at e
    · cases e
      exact Nat.lt_succ_self p
    · split at e
      · cases e
        exact Nat.lt_succ_self p
      · cases e
  · unfold tkT at e
    dsimp only at e
    split at e
    · rename_i q
      cases e
      exact nb_gt 2 0 (by omega) q
    · split at e
      · cases e
        exact Nat.lt_succ_self p
      · split at e
        · cases e
          exact Nat.lt_succ_self p
        · split at e
          · cases e
            exact Nat.lt_succ_self p
          · cases e
theorem rdN_end {x : xs} {tn : Nat} {S : RS} (h : min tn 40 ≤ S.2.2.1) : ∀ r, rdN x tn r S = (S, true) := by
  intro r
  cases r with
  | zero => rfl
  | succ r => rw [rdN_s, if_neg (by omega)]
theorem rdN_mono (x : xs) (tn : Nat) : ∀ (n : Nat) (S : RS) (r r' : Nat), min tn 40 - S.2.2.1 ≤ n → n ≤ r → n ≤ r' → rdN x tn r S = rdN x tn r' S := by
  intro n
  induction n with
  | zero =>
    intro S r r' h _ _
    rw [rdN_end (by omega), rdN_end (by omega)]
  | succ n ih =>
    intro S r r' h h1 h2
    by_cases c : min tn 40 ≤ S.2.2.1
    · rw [rdN_end c, rdN_end c]
    · obtain ⟨r1, rfl⟩ : ∃ r1, r = r1 + 1 := ⟨r - 1, by omega⟩
      obtain ⟨r2, rfl⟩ : ∃ r2, r' = r2 + 1 := ⟨r' - 1, by omega⟩
      rw [rdN_s, rdN_s, if_pos (by omega), if_pos (by omega)]
      cases e : stp x tn S with
      | none => rfl
      | some T =>
        have := stp_lt (by omega) e
        exact ih T r1 r2 (by omega) (by omega) (by omega)
theorem Rn_step {x : xs} {tn : Nat} {S T : RS} (hp : S.2.2.1 < min tn 40) (e : stp x tn S = some T) : Rn x tn S = Rn x tn T := by
  unfold Rn
  have l := stp_lt hp e
  rw [show min tn 40 - S.2.2.1 = (min tn 40 - S.2.2.1 - 1) + 1 by omega, rdN_s, if_pos hp, e]
  exact rdN_mono x tn (min tn 40 - T.2.2.1) T _ _ (Nat.le_refl _) (by omega) (Nat.le_refl _)
theorem Rn_none {x : xs} {tn : Nat} {S : RS} (hp : S.2.2.1 < min tn 40) (e : stp x tn S = none) : Rn x tn S = (S, false) := by
  unfold Rn
  rw [show min tn 40 - S.2.2.1 = (min tn 40 - S.2.2.1 - 1) + 1 by omega, rdN_s, if_pos hp, e]
theorem Rn_end {x : xs} {tn : Nat} {S : RS} (hp : min tn 40 ≤ S.2.2.1) : Rn x tn S = (S, true) := rdN_end hp _
theorem rdV_Rn {x : xs} {tn : Nat} (h : ¬ tn = 0) : rdV x tn = rdF tn (Rn x tn rS0) := by
  unfold rdV
  rw [if_neg h]
  congr 1
  exact rdN_mono x tn (min tn 40) rS0 _ _ (Nat.sub_le _ _) (Nat.min_le_right _ _) (Nat.le_refl _)
/-- what steps are worth, the latest first; the stack's top first -/
def st1 (al : Int32 → Int32) (c : Int32) (L : List Int32) : List Int32 :=
  if c = -1 then (match L with
    | y :: s => (0 - y) :: s
    | [] => [])
  else if jn (0 - c) = 0 then (if c < 0 then al (0 - c) else c) :: L
  else (match L with
    | y :: x :: s => jo (0 - c) x y :: s
    | s => s)
def evL (al : Int32 → Int32) : List Int32 → List Int32
  | [] => []
  | c :: L => st1 al c (evL al L)
theorem evL_c (al : Int32 → Int32) (c : Int32) (L : List Int32) : evL al (c :: L) = st1 al c (evL al L) := rfl
def Rel (n : Nat) (al : Int32 → Int32) (sh ou sh' ou' : List Int32) (v : Int32) : Prop := ∃ ou'', evL al ou'' = v :: evL al ou ∧ ∀ k, 1 ≤ k → k ≤ n → bbk (nI k) sh' ou' = bbk (nI k) sh ou''
theorem Rel.le {n n' : Nat} {al : Int32 → Int32} {sh ou sh' ou' : List Int32} {v : Int32} (h : Rel n al sh ou sh' ou' v) (l : n' ≤ n) : Rel n' al sh ou sh' ou' v := by
  obtain ⟨o, e, f⟩ := h
  exact ⟨o, e, fun k h1 h2 => f k h1 (by omega)⟩
/-- what lies on top binds less than n -/
def tp (sh : List Int32) (n : Nat) : Prop := ∀ y t, sh = y :: t → tg y < nI n
theorem bbk_tp {sh : List Int32} {n : Nat} (h : tp sh n) (ou : List Int32) : bbk (nI n) sh ou = (sh, ou) := by
  cases sh with
  | nil => rfl
  | cons y t =>
    show (if tg y < nI n then (y :: t, ou) else bbk (nI n) t (y :: ou)) = _
    rw [if_pos (h y t rfl)]
theorem bbk_pop {y : Int32} {k : Nat} (h : ¬ tg y < nI k) (t ou : List Int32) : bbk (nI k) (y :: t) ou = bbk (nI k) t (y :: ou) := by
  show (if tg y < nI k then (y :: t, ou) else bbk (nI k) t (y :: ou)) = _
  rw [if_neg h]
theorem Rel_neg {al : Int32 → Int32} {sh ou sh' ou' : List Int32} {v : Int32} (h : Rel 3 al (-1 :: sh) ou sh' ou' v) : Rel 3 al sh ou sh' ou' (0 - v) := by
  obtain ⟨o, e, f⟩ := h
  refine ⟨-1 :: o, ?_, fun k h1 h2 => ?_⟩
  · rw [evL_c, e]
    rfl
  · rw [f k h1 h2]
    refine bbk_pop ?_ _ _
    rcases (show k = 1 ∨ k = 2 ∨ k = 3 by omega) with rfl | rfl | rfl <;> decide
/-- two values joined: y is the join's sign, n its tightness -/
theorem Rel_join {al : Int32 → Int32} {sh ou o1 sh3 ou3 : List Int32} {v o y : Int32} {n : Nat} (e1 : evL al o1 = v :: evL al ou) (h : Rel 3 al ((0 - y) :: sh) o1 sh3 ou3 o) (hn : ∀ k, 1 ≤ k → k ≤ n → ¬ tg (0 - y) < nI k) (n3 : n ≤ 3) (hy : st1 al (0 - y) (o :: v :: evL al ou) = jo y v o :: evL al ou) : Rel n al sh ou sh3 ou3 (jo y v o) := by
  obtain ⟨o2, e, f⟩ := h
  refine ⟨(0 - y) :: o2, ?_, fun k h1 h2 => ?_⟩
  · rw [evL_c, e, e1]
    exact hy
  · rw [f k h1 (by omega)]
    exact bbk_pop (hn k h1 h2) _ _
theorem Rel_join' {al : Int32 → Int32} {sh ou o1 sh3 ou3 : List Int32} {v o y : Int32} {n n2 : Nat} (e1 : evL al o1 = v :: evL al ou) (h : Rel n2 al ((0 - y) :: sh) o1 sh3 ou3 o) (hn : ∀ k, 1 ≤ k → k ≤ n → ¬ tg (0 - y) < nI k) (n3 : n ≤ n2) (hy : st1 al (0 - y) (o :: v :: evL al ou) = jo y v o :: evL al ou) : Rel n al sh ou sh3 ou3 (jo y v o) := by
  obtain ⟨o2, e, f⟩ := h
  refine ⟨(0 - y) :: o2, ?_, fun k h1 h2 => ?_⟩
  · rw [evL_c, e, e1]
    exact hy
  · rw [f k h1 (by omega)]
    exact bbk_pop (hn k h1 h2) _ _
theorem st_join (al : Int32 → Int32) {y : Int32} (h : y = 42 ∨ y = 43 ∨ y = 45 ∨ y = 47 ∨ y = 60 ∨ y = 61 ∨ y = 62) (v o : Int32) (s : List Int32) : st1 al (0 - y) (o :: v :: s) = jo y v o :: s := by
  rcases h with rfl | rfl | rfl | rfl | rfl | rfl | rfl <;> rfl
theorem Rel_num (al : Int32 → Int32) (sh ou : List Int32) {v : Int32} (h : ¬ v < 0) : Rel 3 al sh ou sh (v :: ou) v := by
  refine ⟨v :: ou, ?_, fun _ _ _ => rfl⟩
  have h1 : ¬ v = -1 := fun q => h (by rw [q]; decide)
  have h2 : jn (0 - v) = 0 := by
    unfold jn
    rw [if_neg]
    obtain ⟨j, hj, rfl⟩ := nI_of h
    have key : ∀ c : Nat, 0 < c → c < 100 → ¬ 0 - nI j = nI c := fun c c0 c1 q => by
      have e : nI j + nI c = 0 := by
        rw [← q, Int32.sub_eq_add_neg, Int32.zero_add, Int32.add_right_neg]
      rw [nI_add] at e
      have t := congrArg Int32.toInt e
      by_cases hh : j + c < 2 ^ 31
      · exact nI_ne0 (by omega) hh e
      · have b := congrArg (fun z => z.toBitVec.toNat) e
        rw [pk_tn (by omega)] at b
        have : (0 : Int32).toBitVec.toNat = 0 := rfl
        omega
    rintro (q | q | q | q | q | q | q)
    · exact key 42 (by decide) (by decide) q
    · exact key 43 (by decide) (by decide) q
    · exact key 45 (by decide) (by decide) q
    · exact key 47 (by decide) (by decide) q
    · exact key 60 (by decide) (by decide) q
    · exact key 61 (by decide) (by decide) q
    · exact key 62 (by decide) (by decide) q
  rw [evL_c]
  unfold st1
  rw [if_neg h1, if_pos h2, if_neg h]
theorem nm_let {c : Int32} (h : ¬ nm c = 0) : c = 99 ∨ c = 100 ∨ c = 103 ∨ c = 110 ∨ c = 116 ∨ c = 117 ∨ c = 119 := Decidable.not_not.mp (fun q => h (if_neg q))
theorem Rel_let (al : Int32 → Int32) (sh ou : List Int32) {c : Int32} (h : ¬ nm c = 0) : Rel 3 al sh ou sh ((0 - c) :: ou) (al c) := by
  refine ⟨(0 - c) :: ou, ?_, fun _ _ _ => rfl⟩
  rw [evL_c]
  rcases nm_let h with rfl | rfl | rfl | rfl | rfl | rfl | rfl <;> rfl
-- depths that have compared
theorem cb_bit : ∀ C, C < 32 → ∀ d, d < 5 → ((nI C >>> (nI d &&& 31) &&& 1) = 1 ↔ C.testBit d = true) := by decide +kernel
def clr (C k : Nat) : Nat := C &&& (31 ^^^ 2 ^ k)
theorem cb_clr : ∀ C, C < 32 → ∀ k, k < 5 → (nI C &&& ((1 : Int32) <<< (nI k &&& 31) ^^^ (-1)) = nI (clr C k)) ∧ clr C k < 32 ∧ ∀ j, j < 5 → (clr C k).testBit j = (decide (j ≠ k) && C.testBit j) := by decide +kernel
theorem cb_set : ∀ C, C < 32 → ∀ k, k < 5 → (nI C ||| (1 : Int32) <<< (nI k &&& 31) = nI (C ||| 2 ^ k)) ∧ C ||| 2 ^ k < 32 ∧ ∀ j, j < 5 → (C ||| 2 ^ k).testBit j = (decide (j = k) || C.testBit j) := by decide +kernel
