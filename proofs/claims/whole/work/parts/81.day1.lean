/-! The model in the class's words: day (written by wip/whole/mod40.py) -/
theorem acF_neg {φ : xs → Int32} {σ : xs} {rk : Int32} {rv : Nat → Int64} {c a b : Int32} (iv : hIv σ) (ok : hOk σ) (h : (acF φ σ rk rv c a b).1 < 0) : (acF φ σ rk rv c a b).2.1 = σ := by
  unfold acF at *
  split at h
  · rename_i e
    rw [if_pos e]
    unfold gw at *
    split at h
    · rename_i q
      rw [if_pos q]
    · rename_i q
      split at h
      · rename_i q2
        rw [if_neg q, if_pos q2]
      · exact absurd h (bc_pos _ _)
  · rename_i e1
    rw [if_neg e1]
    split at h
    · rename_i e
      rw [if_pos e]
      unfold aGrip at *
      split at h
      · rename_i q
        rw [if_pos q]
      · rename_i q
        split at h
        · rename_i q2
          rw [if_neg q, if_pos q2]
        · obtain ⟨i, hi, ei⟩ := iv.2
          exact absurd h (by show ¬ 10 + σ 13 < 0; rw [ei]; exact ps10 hi)
    · rename_i e2
      rw [if_neg e2]
      split at h
      · rename_i e
        rw [if_pos e]
        unfold aAway at *
        split at h
        · rename_i q
          obtain ⟨s, k, hs, hk, rfl, rfl⟩ := hHas_at ok q
          rw [nI_clamp (by omega)] at h
          have ot' := hOk_take ok hs ((1 : Int32) <<< (nI k &&& 31))
          refine absurd h ?_
          show ¬ hWaits (hTake σ s ((1 : Int32) <<< (nI k &&& 31))) (nI s) < 0
          rw [hWaits_s hs, (ot'.1 s hs).1]
          exact nI_pos (by have := (ot'.1 s hs).2; omega)
        · rename_i q
          rw [if_neg q]
      · rename_i e3
        rw [if_neg e3]
        split at h
        · rename_i e
          rw [if_pos e]
          unfold aRuns at *
          split at h
          · rename_i q
            rw [if_pos q]
          · rename_i q
            exfalso
            obtain ⟨N, hN, rfl⟩ := nI_of (x := a) (fun z => q (Or.inl z))
            have h60 : ¬ 60 < N := fun z => q (Or.inr (nI_lt (a := 60) z hN))
            rw [nI_clamp hN] at h
            obtain ⟨cc, hcc, ec⟩ := rfN_1 φ N 0 0 σ
            have h : (rfN φ N (nI 0) 0 σ).1 < 0 := h
            rw [ec] at h
            exact nI_pos (by omega) h
        · rename_i e4
          rw [if_neg e4]
          split at h
          · rename_i e
            rw [if_pos e]
            unfold aOut at *
            split at h
            · rename_i q
              rw [if_pos q]
            · rename_i q
              split at h
              · rename_i q2
                rw [if_neg q, if_pos q2]
              · rename_i q2
                exact absurd h (pos_sub (fun z => q (Or.inl z)) q2)
          · rename_i e5
            rw [if_neg e5]
            split at h
            · rename_i e
              rw [if_pos e]
              unfold aSeats at *
              split at h
              · rename_i q
                rw [if_pos q]
              · rename_i q
                split at h
                · rename_i q2
                  rw [if_neg q, if_pos q2]
                · exact absurd h (by show ¬ 10 + σ 12 < 0; rw [ok.2.1]; exact ps10 (by have := ok.2.2.2; omega))
            · rename_i e6
              rw [if_neg e6]
              split at h
              · rename_i e
                rw [if_pos e]
                unfold aSwap at *
                split at h
                · rename_i q
                  rw [if_pos q]
                · rename_i q
                  split at h
                  · rename_i q2
                    have q := Decidable.not_not.mp q
                    obtain ⟨s, k, hs, hk, rfl, rfl⟩ := hHas_at ok q
                    have e' := ok.1 s hs
                    rw [hWaits_s hs, e'.1, nI_1] at q2
                    have d := (nI_ltI (by omega) (by omega)).mp q2
                    refine absurd h ?_
                    rw [nI_1]
                    show ¬ hWat (hExch σ (nI s) (nI k) (nI (k + 1))) (nI s) (nI k) < 0
                    have l : ln (hExch σ (nI s) (nI k) (nI (k + 1))) s = ln σ s := by
                      rw [hExch_at ok hs hk d, ln_upd _ (by omega), ln_upd _ (by omega)]
                    rw [(hWat_at (hOk_exch ok _ _ _) hs (by rw [l]; exact hk)).2, hExch_at ok hs hk d, upd_hi _ _ (by omega), pk_us]
                    exact w19_pos (iv.1 s hs _ d)
                  · rename_i q2
                    rw [if_neg q, if_neg q2]
              · rename_i e7
                rw [if_neg e7]
theorem acF_cg {φ : xs → Int32} {σ : xs} {rk : Int32} {rv : Nat → Int64} {c a b a' b' : Int32} (ha : 1 ≤ dn c → a = a') (hb : dn c = 2 → b = b') : acF φ σ rk rv c a b = acF φ σ rk rv c a' b' := by
  unfold acF
  by_cases c1 : c = 42
  · rw [if_pos c1, if_pos c1]
  · rw [if_neg c1, if_neg c1]
    by_cases c2 : c = 103
    · rw [if_pos c2, if_pos c2, ha (by rw [c2]; decide)]
    · rw [if_neg c2, if_neg c2]
      by_cases c3 : c = 108
      · rw [if_pos c3, if_pos c3, ha (by rw [c3]; decide), hb (by rw [c3]; decide)]
      · rw [if_neg c3, if_neg c3]
        by_cases c4 : c = 110
        · rw [if_pos c4, if_pos c4, ha (by rw [c4]; decide)]
        · rw [if_neg c4, if_neg c4]
          by_cases c5 : c = 111
          · rw [if_pos c5, if_pos c5, ha (by rw [c5]; decide), hb (by rw [c5]; decide)]
          · rw [if_neg c5, if_neg c5]
            by_cases c6 : c = 115
            · rw [if_pos c6, if_pos c6, ha (by rw [c6]; decide)]
            · rw [if_neg c6, if_neg c6]
              by_cases c7 : c = 120
              · rw [if_pos c7, if_pos c7, ha (by rw [c7]; decide), hb (by rw [c7]; decide)]
              · rw [if_neg c7, if_neg c7]
theorem dgb_let {c : Int32} (h : ¬ dgb c = -1) : c = 42 ∨ c = 103 ∨ c = 108 ∨ c = 110 ∨ c = 115 ∨ c = 120 ∨ c = 111 := by
  unfold dgb at h
  by_cases c1 : c = 42
  · exact Or.inl c1
  · rw [if_neg c1] at h
    by_cases c2 : c = 103
    · exact Or.inr (Or.inl c2)
    · rw [if_neg c2] at h
      by_cases c3 : c = 108
      · exact Or.inr (Or.inr (Or.inl c3))
      · rw [if_neg c3] at h
        by_cases c4 : c = 110
        · exact Or.inr (Or.inr (Or.inr (Or.inl c4)))
        · rw [if_neg c4] at h
          by_cases c5 : c = 111
          · exact Or.inr (Or.inr (Or.inr (Or.inr (Or.inr (Or.inr c5)))))
          · rw [if_neg c5] at h
            by_cases c6 : c = 115
            · exact Or.inr (Or.inr (Or.inr (Or.inr (Or.inl c6))))
            · rw [if_neg c6] at h
              by_cases c7 : c = 120
              · exact Or.inr (Or.inr (Or.inr (Or.inr (Or.inr (Or.inl c7)))))
              · rw [if_neg c7] at h
                exact absurd rfl h
def psN (tf : xs) : Nat → Nat
  | 0 => 0
  | i + 1 => psN tf i + (1 + dn (tf (psN tf i)))
theorem psN_s (tf : xs) (i : Nat) : psN tf (i + 1) = psN tf i + (1 + dn (tf (psN tf i))) := rfl
theorem psN_le (tf : xs) : ∀ i, i ≤ psN tf i := by
  intro i
  induction i with
  | zero => exact Nat.le_refl _
  | succ i ih => rw [psN_s]; omega
def dyI (tf : xs) (tn : Nat) (a : xs) (i : Nat) : Prop := psN tf (i + 1) ≤ tn ∧ psN tf (i + 1) ≤ 60 ∧ ¬ dgb (tf (psN tf i)) = -1 ∧ a (3 * i) = tf (psN tf i) ∧ (1 ≤ dn (tf (psN tf i)) → ¬ msb (tf (psN tf i)) (tf (psN tf i + 1)) = 0 ∧ a (3 * i + 1) = tf (psN tf i + 1) - 48) ∧ (dn (tf (psN tf i)) = 2 → ¬ msb (tf (psN tf i)) (tf (psN tf i + 2)) = 0 ∧ a (3 * i + 2) = tf (psN tf i + 2) - 48)
theorem msb_out (c : Int32) : msb c (-1) = 0 := by
  unfold msb
  split <;> decide
theorem msb_hr {t tf : xs} {tn p : Nat} (T0 : ∀ j, j < tn → t j &&& 255 = tf j ∧ byt (t j)) {c : Int32} (h : ¬ msb c (hrV t p tn 60) = 0) : p < tn ∧ p < 60 ∧ hrV t p tn 60 = tf p := by
  have q : p < tn ∧ p < 60 := Decidable.not_not.mp (fun z => by
    rw [hr_out z] at h
    exact h (msb_out c))
  exact ⟨q.1, q.2, hr_in T0 q.1 q.2⟩
theorem fdI_1 {t tf : xs} {tn p : Nat} (h80 : tn ≤ 80) (T0 : ∀ j, j < tn → t j &&& 255 = tf j ∧ byt (t j)) (c : Int32) : (min tn 60 ≤ p ∨ msb c (slAt tf (nI tn) (nI p)) = 0) ↔ msb c (hrV t p tn 60) = 0 := by
  by_cases q : p < tn ∧ p < 60
  · rw [hr_in T0 q.1 q.2, sg_n h80 q.1]
    constructor
    · rintro (z | z)
      · omega
      · exact z
    · exact Or.inr
  · rw [hr_out q]
    exact ⟨fun _ => msb_out c, fun _ => Or.inl (by omega)⟩
theorem fd_end {tf : xs} {tn p : Nat} (h : min tn 60 ≤ p) : ∀ r, fdO tf tn r p = fdE tn := by
  intro r
  cases r with
  | zero => rfl
  | succ r => rw [fdO_s, if_pos h]
theorem fd_0 {tf : xs} {tn p : Nat} (h80 : tn ≤ 80) (h1 : p < tn) (h2 : p < 60) (r : Nat) (d : dgb (tf p) = -1) : fdO tf tn (r + 1) p = nI p := by
  rw [fdO_s, if_neg (by omega), sg_n h80 h1, if_pos d]
theorem fd_1 {t tf : xs} {tn p : Nat} (h80 : tn ≤ 80) (T0 : ∀ j, j < tn → t j &&& 255 = tf j ∧ byt (t j)) (h1 : p < tn) (h2 : p < 60) (r : Nat) (d : ¬ dgb (tf p) = -1) (d1 : 1 ≤ dn (tf p)) (b : msb (tf p) (hrV t (p + 1) tn 60) = 0) : fdO tf tn (r + 1) p = nI (p + 1) := by
  rw [fdO_s, if_neg (by omega), sg_n h80 h1, if_neg d, show dn (tf p) = (dn (tf p) - 1) + 1 by omega, fdI_s, if_pos ((fdI_1 h80 T0 _).mpr b)]
theorem fd_2 {t tf : xs} {tn p : Nat} (h80 : tn ≤ 80) (T0 : ∀ j, j < tn → t j &&& 255 = tf j ∧ byt (t j)) (h1 : p < tn) (h2 : p < 60) (r : Nat) (d : ¬ dgb (tf p) = -1) (d2 : dn (tf p) = 2) (b1 : ¬ msb (tf p) (hrV t (p + 1) tn 60) = 0) (b : msb (tf p) (hrV t (p + 2) tn 60) = 0) : fdO tf tn (r + 1) p = nI (p + 2) := by
  rw [fdO_s, if_neg (by omega), sg_n h80 h1, if_neg d, d2, fdI_s, if_neg (fun q => b1 ((fdI_1 h80 T0 _).mp q)), fdI_s, if_pos ((fdI_1 h80 T0 _).mpr b)]
theorem fd_ok {t tf : xs} {tn p : Nat} (h80 : tn ≤ 80) (T0 : ∀ j, j < tn → t j &&& 255 = tf j ∧ byt (t j)) (h1 : p < tn) (h2 : p < 60) (r : Nat) (d : ¬ dgb (tf p) = -1) (b1 : 1 ≤ dn (tf p) → ¬ msb (tf p) (hrV t (p + 1) tn 60) = 0) (b2 : dn (tf p) = 2 → ¬ msb (tf p) (hrV t (p + 2) tn 60) = 0) : fdO tf tn (r + 1) p = fdO tf tn r (p + (1 + dn (tf p))) := by
  have l2 := (dgb_n d).2
  rw [fdO_s, if_neg (by omega), sg_n h80 h1, if_neg d]
  rcases (show dn (tf p) = 0 ∨ dn (tf p) = 1 ∨ dn (tf p) = 2 by omega) with e | e | e
  · rw [e]
    rfl
  · rw [e, fdI_s, if_neg (fun q => b1 (by omega) ((fdI_1 h80 T0 _).mp q))]
    rfl
  · rw [e, fdI_s, if_neg (fun q => b1 (by omega) ((fdI_1 h80 T0 _).mp q)), fdI_s, if_neg (fun q => b2 e ((fdI_1 h80 T0 _).mp q))]
    rfl
