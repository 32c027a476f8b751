/-! The model in the class's words: signs, what was heard and seen, pails (written by wip/whole/mod20.py) -/
theorem tI (x : Int32) : x.toInt = if 2 * x.toBitVec.toNat < 2 ^ 32 then (x.toBitVec.toNat : Int) else (x.toBitVec.toNat : Int) - 2 ^ 32 := BitVec.toInt_eq_toNat_cond x.toBitVec
theorem i8_255 (z : Int32) : z.toInt8.toInt32 &&& 255 = z &&& 255 := by
  rw [pk_and _ 8 rfl, pk_and _ 8 rfl]
  congr 1
  have h1 : z.toInt8.toInt32.toInt = z.toInt.bmod (2 ^ 8) := by rw [Int8.toInt_toInt32, Int32.toInt_toInt8]
  rw [tI, tI z, Int.bmod] at h1
  have b1 := z.toBitVec.isLt
  have b2 := z.toInt8.toInt32.toBitVec.isLt
  generalize z.toInt8.toInt32.toBitVec.toNat = p at *
  generalize z.toBitVec.toNat = q at *
  split at h1 <;> split at h1 <;> split at h1 <;> omega
theorem mb_255 (x : Int32) (k : Int32) (s : Int32) (h : (x >>> ((8 * k) &&& 31)) &&& 255 = ushr x s &&& 255) : mb1 x k &&& 255 = ushr x s &&& 255 := by
  unfold mb1
  rw [pk_vb, i8_255, h]
theorem sb3 (x : Int32) : (x >>> ((8 * 3) &&& 31)) &&& 255 = ushr x (24 &&& 31) &&& 255 := by
  rw [pk_and (x >>> ((8 * 3) &&& 31)) (m := 255) 8 rfl, pk_and (ushr x (24 &&& 31)) (m := 255) 8 rfl]
  congr 1
  have h1 := pk_shr x ((8 * 3) &&& 31) 24 (by decide)
  have h2 : (ushr x (24 &&& 31)).toBitVec.toNat = x.toBitVec.toNat / 2 ^ 24 := pk_ushr x (24 &&& 31) 24 (by decide)
  rw [h2]
  rw [tI, tI x, Int.shiftRight_eq_div_pow] at h1
  have b1 := x.toBitVec.isLt
  have b2 := (x >>> ((8 * 3) &&& 31)).toBitVec.isLt
  generalize (x >>> ((8 * 3) &&& 31)).toBitVec.toNat = p at *
  generalize x.toBitVec.toNat = q at *
  split at h1 <;> split at h1 <;> omega
theorem sb2 (x : Int32) : (x >>> ((8 * 2) &&& 31)) &&& 255 = ushr x (16 &&& 31) &&& 255 := by
  rw [pk_and (x >>> ((8 * 2) &&& 31)) (m := 255) 8 rfl, pk_and (ushr x (16 &&& 31)) (m := 255) 8 rfl]
  congr 1
  have h1 := pk_shr x ((8 * 2) &&& 31) 16 (by decide)
  have h2 : (ushr x (16 &&& 31)).toBitVec.toNat = x.toBitVec.toNat / 2 ^ 16 := pk_ushr x (16 &&& 31) 16 (by decide)
  rw [h2]
  rw [tI, tI x, Int.shiftRight_eq_div_pow] at h1
  have b1 := x.toBitVec.isLt
  have b2 := (x >>> ((8 * 2) &&& 31)).toBitVec.isLt
  generalize (x >>> ((8 * 2) &&& 31)).toBitVec.toNat = p at *
  generalize x.toBitVec.toNat = q at *
  split at h1 <;> split at h1 <;> omega
theorem sb1 (x : Int32) : (x >>> ((8 * 1) &&& 31)) &&& 255 = ushr x (8 &&& 31) &&& 255 := by
  rw [pk_and (x >>> ((8 * 1) &&& 31)) (m := 255) 8 rfl, pk_and (ushr x (8 &&& 31)) (m := 255) 8 rfl]
  congr 1
  have h1 := pk_shr x ((8 * 1) &&& 31) 8 (by decide)
  have h2 : (ushr x (8 &&& 31)).toBitVec.toNat = x.toBitVec.toNat / 2 ^ 8 := pk_ushr x (8 &&& 31) 8 (by decide)
  rw [h2]
  rw [tI, tI x, Int.shiftRight_eq_div_pow] at h1
  have b1 := x.toBitVec.isLt
  have b2 := (x >>> ((8 * 1) &&& 31)).toBitVec.isLt
  generalize (x >>> ((8 * 1) &&& 31)).toBitVec.toNat = p at *
  generalize x.toBitVec.toNat = q at *
  split at h1 <;> split at h1 <;> omega
theorem sb0 (x : Int32) : (x >>> ((8 * 0) &&& 31)) &&& 255 = ushr x (0 &&& 31) &&& 255 := by
  rw [pk_and (x >>> ((8 * 0) &&& 31)) (m := 255) 8 rfl, pk_and (ushr x (0 &&& 31)) (m := 255) 8 rfl]
  congr 1
  have h1 := pk_shr x ((8 * 0) &&& 31) 0 (by decide)
  have h2 : (ushr x (0 &&& 31)).toBitVec.toNat = x.toBitVec.toNat / 2 ^ 0 := pk_ushr x (0 &&& 31) 0 (by decide)
  rw [h2]
  rw [tI, tI x, Int.shiftRight_eq_div_pow] at h1
  have b1 := x.toBitVec.isLt
  have b2 := (x >>> ((8 * 0) &&& 31)).toBitVec.isLt
  generalize (x >>> ((8 * 0) &&& 31)).toBitVec.toNat = p at *
  generalize x.toBitVec.toNat = q at *
  split at h1 <;> split at h1 <;> omega
theorem mb_byt (x k : Int32) : byt (mb1 x k) := by
  unfold byt mb1
  rw [pk_vb]
  simp
theorem byt_n {x : Int32} (h : byt x) {c : Nat} (hc : c < 128) (e : x &&& 255 = nI c) : x = nI c := by
  have h1 : x.toInt = x.toInt.bmod (2 ^ 8) := by
    have q := congrArg Int32.toInt h
    rw [Int8.toInt_toInt32, Int32.toInt_toInt8] at q
    exact q.symm
  rw [pk_and x (m := 255) 8 rfl, nI_eq (Nat.lt_of_lt_of_le (Nat.mod_lt _ (by decide)) (by decide)) (by omega)] at e
  apply Int32.toInt_inj.mp
  rw [nI_toInt (by omega)]
  rw [Int.bmod] at h1
  have t := tI x
  have b1 := x.toBitVec.isLt
  generalize x.toInt = i at *
  generalize x.toBitVec.toNat = q at *
  split at h1 <;> split at t <;> omega
theorem maT_sign {t tf : xs} {tn : Nat} (T : maT (nI tn) t tn tf) (h : tn + 4 ≤ 80) (x : Int32) : maT (nI (tn + 4)) (mSg t tn x) (tn + 4) (sgf tf tn x) := by
  refine ⟨rfl, h, fun j hj => ?_⟩
  unfold mSg sgf
  by_cases e3 : j = tn + 3
  · subst e3
    rw [pk_us, pk_us]
    exact ⟨mb_255 x 0 _ (sb0 x), mb_byt x 0⟩
  · rw [upd_hi _ _ e3, upd_hi _ _ e3]
    by_cases e2 : j = tn + 2
    · subst e2
      rw [pk_us, pk_us]
      exact ⟨mb_255 x 1 _ (sb1 x), mb_byt x 1⟩
    · rw [upd_hi _ _ e2, upd_hi _ _ e2]
      by_cases e1 : j = tn + 1
      · subst e1
        rw [pk_us, pk_us]
        exact ⟨mb_255 x 2 _ (sb2 x), mb_byt x 2⟩
      · rw [upd_hi _ _ e1, upd_hi _ _ e1]
        by_cases e0 : j = tn
        · subst e0
          rw [pk_us, pk_us]
          exact ⟨mb_255 x 3 _ (sb3 x), mb_byt x 3⟩
        · rw [upd_hi _ _ e0, upd_hi _ _ e0]
          exact T.2.2 j (by omega)
theorem a_sign {K : xK} {B : Nat} {l : Launch} {h0 h : xH} {Y : Nat} {th : Int32} {tn : Nat} {tf : xs} {rk : Int32} {rv : Nat → Int64} {σ : xs} {pn : Nat} {τ : Nat → xs} {ks : Nat → Bool} {κ : Nat → xs} {φ : xs → Int32} {hn : Nat} {hf hg : xs} {wn : Nat} {wf wg : xs} (A : xMa K B l h0 h Y th tn tf rk rv σ pn τ ks κ φ hn hf hg wn wf wg) (x : Int32) : xV K B l 0 mX12_sign 0 0 Y [.int x] h (xPi (fun zr g => zr = (if tn + 4 ≤ 80 then nI (tn + 4) else -1) ∧ xMa K B l h0 g Y 0 (if tn + 4 ≤ 80 then tn + 4 else tn) (if tn + 4 ≤ 80 then sgf tf tn x else tf) rk rv σ pn τ ks κ φ hn hf hg wn wf wg)) := by
  obtain ⟨m, rd, u, v, W, T, Rw, ⟨R, ok, iv⟩, P, Kp, L, H, Sw, hth⟩ := A
  refine (s_mSign W T.1 T.2.1 x).post (fun r g q => ?_)
  obtain ⟨zv, rfl, q⟩ := q
  by_cases c : tn + 4 ≤ 80
  · rw [if_pos c, if_pos c, if_pos c]
    rcases q with ⟨q1, -⟩ | ⟨-, q2, W⟩
    · exact absurd c q1
    · exact ⟨_, rfl, q2, ⟨_, _, _, _, W, maT_sign ⟨rfl, T.2⟩ c x, Rw, ⟨R, ok, iv⟩, P, Kp, L, H, Sw, rfl⟩⟩
  · rw [if_neg c, if_neg c, if_neg c]
    rcases q with ⟨-, q2, W⟩ | ⟨q1, -⟩
    · exact ⟨_, rfl, q2, ⟨_, _, _, _, W, T, Rw, ⟨R, ok, iv⟩, P, Kp, L, H, Sw, rfl⟩⟩
    · exact absurd q1 c
theorem a_end {K : xK} {B : Nat} {l : Launch} {h0 h : xH} {Y : Nat} {th : Int32} {tn : Nat} {tf : xs} {rk : Int32} {rv : Nat → Int64} {σ : xs} {pn : Nat} {τ : Nat → xs} {ks : Nat → Bool} {κ : Nat → xs} {φ : xs → Int32} {hn : Nat} {hf hg : xs} {wn : Nat} {wf wg : xs} (A : xMa K B l h0 h Y th tn tf rk rv σ pn τ ks κ φ hn hf hg wn wf wg) (x : Int32) : xV K B l 1 mX12_end 0 0 Y [.int x] h (xPi (fun zr g => zr = bI (¬ x < 0 ∧ x ≤ nI tn) ∧ xMa K B l h0 g Y 0 (if ¬ x < 0 ∧ x ≤ nI tn then x.toNatClampNeg else tn) tf rk rv σ pn τ ks κ φ hn hf hg wn wf wg)) := by
  obtain ⟨m, rd, u, v, W, T, Rw, ⟨R, ok, iv⟩, P, Kp, L, H, Sw, hth⟩ := A
  refine (s_mEnd W x).post (fun r g q => ?_)
  obtain ⟨zv, rfl, q2, W⟩ := q
  have e2 := T.1
  have t80 := T.2.1
  rw [e2] at q2 W
  by_cases c : ¬ x < 0 ∧ x ≤ nI tn
  · rw [if_pos c, bI_t c]
    have z : ¬ mIn x 0 (nI tn) = 0 := fun z => by
      rcases mIn_0.mp z with z | z
      · exact c.1 z
      · exact absurd z (Int32.not_lt.mpr c.2)
    rw [mIn_1 z] at q2
    rw [if_neg z] at W
    obtain ⟨j, hj, rfl⟩ := nI_of c.1
    have jn := (nI_leI hj (by omega)).mp c.2
    rw [nI_clamp hj]
    exact ⟨_, rfl, q2, ⟨_, _, _, _, W, ⟨rfl, by omega, fun i hi => T.2.2 i (by omega)⟩, Rw, ⟨R, ok, iv⟩, P, Kp, L, H, Sw, rfl⟩⟩
  · rw [if_neg c, bI_f c]
    have z : mIn x 0 (nI tn) = 0 := mIn_0.mpr (by
      by_cases c1 : x < 0
      · exact Or.inl c1
      · exact Or.inr (Int32.not_le.mp (fun z => c ⟨c1, z⟩)))
    rw [z] at q2
    rw [if_pos z] at W
    exact ⟨_, rfl, q2, ⟨_, _, _, _, W, T, Rw, ⟨R, ok, iv⟩, P, Kp, L, H, Sw, rfl⟩⟩
theorem mbh_mod {x y : Int32} : (¬ mIn x 0 3 = 0 ∧ ¬ mIn y (mLow x) (mHigh x) = 0) ↔ ¬ mbh x y = 0 := by
  constructor
  · rintro ⟨h1, h2⟩
    obtain ⟨a1, a2⟩ := mIn_y h1
    obtain ⟨b1, b2⟩ := mIn_y h2
    rcases pk_ix x (n := 4) (by decide) with z | z | ⟨j, hj, rfl⟩
    · exact absurd z a1
    · exact absurd (Int32.lt_of_lt_of_le (by decide) z) a2
    · rcases (show j = 0 ∨ j = 1 ∨ j = 2 ∨ j = 3 by omega) with rfl | rfl | rfl | rfl
      · rcases pk_ix y (n := 2) (by decide) with z | z | ⟨k, hk, rfl⟩
        · exact absurd z b1
        · exact absurd (Int32.lt_of_lt_of_le (by decide) z) b2
        · rcases (show k = 0 ∨ k = 1 by omega) with rfl | rfl <;> decide
      · intro q
        exact (bI_0.mp q) ⟨b1, b2⟩
      · intro q
        refine (bI_0.mp q) ⟨b1, fun z => b2 (Int32.lt_of_lt_of_le (by decide) z)⟩
      · rcases pk_ix y (n := 2) (by decide) with z | z | ⟨k, hk, rfl⟩
        · exact absurd z b1
        · exact absurd (Int32.lt_of_lt_of_le (by decide) z) b2
        · rcases (show k = 0 ∨ k = 1 by omega) with rfl | rfl <;> decide
  · intro h
    unfold mbh at h
    split at h
    · rename_i c
      have h := Decidable.not_not.mp (fun q => h (bI_0.mpr q))
      rcases c with rfl | rfl <;> rcases h with rfl | rfl <;> decide
    · split at h
      · rename_i c
        subst c
        have h := Decidable.not_not.mp (fun q => h (bI_0.mpr q))
        exact ⟨by decide, fun q => (bI_0.mp q) h⟩
      · split at h
        · rename_i c
          subst c
          have h := Decidable.not_not.mp (fun q => h (bI_0.mpr q))
          refine ⟨by decide, fun q => (bI_0.mp q) ⟨h.1, fun z => h.2 ?_⟩⟩
          have z1 : (4 : Int32) < y := z
          rw [Int32.le_iff_toInt_le, show (5 : Int32).toInt = 5 from rfl]
          rw [Int32.lt_iff_toInt_lt, show (4 : Int32).toInt = 4 from rfl] at z1
          omega
        · exact absurd rfl h
theorem mbh_what {x y : Int32} (h : ¬ mbh x y = 0) : x = 0 ∨ x = 1 ∨ x = 2 ∨ x = 3 := by
  unfold mbh at h
  split at h
  · rename_i c
    rcases c with c | c
    · exact Or.inl c
    · exact Or.inr (Or.inr (Or.inr c))
  · split at h
    · rename_i c
      exact Or.inr (Or.inl c)
    · split at h
      · rename_i c
        exact Or.inr (Or.inr (Or.inl c))
      · exact absurd rfl h
theorem a_heard {K : xK} {B : Nat} {l : Launch} {h0 h : xH} {Y : Nat} {th : Int32} {tn : Nat} {tf : xs} {rk : Int32} {rv : Nat → Int64} {σ : xs} {pn : Nat} {τ : Nat → xs} {ks : Nat → Bool} {κ : Nat → xs} {φ : xs → Int32} {hn : Nat} {hf hg : xs} {wn : Nat} {wf wg : xs} (A : xMa K B l h0 h Y th tn tf rk rv σ pn τ ks κ φ hn hf hg wn wf wg) (x y : Int32) : xV K B l 1 mX12_heard 0 0 Y [.int x, .int y] h (xPi (fun zr g => zr = (if ¬ mbh x y = 0 ∧ hn < 12 then nI (hn + 1) else -1) ∧ xMa K B l h0 g Y 0 tn tf rk rv σ pn τ ks κ φ (if ¬ mbh x y = 0 ∧ hn < 12 then hn + 1 else hn) (if ¬ mbh x y = 0 ∧ hn < 12 then upd hf hn x else hf) (if ¬ mbh x y = 0 ∧ hn < 12 then upd hg hn y else hg) wn wf wg)) := by
  obtain ⟨m, rd, u, v, W, T, Rw, ⟨R, ok, iv⟩, P, Kp, L, H, Sw, hth⟩ := A
  refine (s_mHeard W H.1 H.2.1 x y).post (fun r g q => ?_)
  obtain ⟨zv, rfl, q⟩ := q
  have h12 := H.2.1
  have key : (¬ mIn x 0 3 = 0 ∧ ¬ mIn y (mLow x) (mHigh x) = 0 ∧ ¬ hn = 12) ↔ (¬ mbh x y = 0 ∧ hn < 12) := by
    rw [← mbh_mod]
    constructor
    · rintro ⟨a, b, c⟩
      exact ⟨⟨a, b⟩, by omega⟩
    · rintro ⟨⟨a, b⟩, c⟩
      exact ⟨a, b, by omega⟩
  rw [key] at q
  by_cases c : ¬ mbh x y = 0 ∧ hn < 12
  · rw [if_pos c, if_pos c, if_pos c, if_pos c]
    rcases q with ⟨q1, -⟩ | ⟨-, q2, W⟩
    · exact absurd c q1
    · refine ⟨_, rfl, q2, ⟨_, _, _, _, W, T, Rw, ⟨R, ok, iv⟩, P, Kp, L, ⟨rfl, by omega, fun i hi => ?_⟩, Sw, rfl⟩⟩
      show upd (u 17) hn x i = upd hf hn x i ∧ upd (u 18) hn y i = upd hg hn y i ∧ _
      by_cases e : i = hn
      · subst e
        rw [pk_us, pk_us, pk_us, pk_us]
        exact ⟨rfl, rfl, mbh_what c.1⟩
      · rw [upd_hi _ _ e, upd_hi _ _ e, upd_hi _ _ e, upd_hi _ _ e]
        exact H.2.2 i (by omega)
  · rw [if_neg c, if_neg c, if_neg c, if_neg c]
    rcases q with ⟨-, q2, W⟩ | ⟨q1, -⟩
    · exact ⟨_, rfl, q2, ⟨_, _, _, _, W, T, Rw, ⟨R, ok, iv⟩, P, Kp, L, H, Sw, rfl⟩⟩
    · exact absurd q1 c
theorem a_saw {K : xK} {B : Nat} {l : Launch} {h0 h : xH} {Y : Nat} {th : Int32} {tn : Nat} {tf : xs} {rk : Int32} {rv : Nat → Int64} {σ : xs} {pn : Nat} {τ : Nat → xs} {ks : Nat → Bool} {κ : Nat → xs} {φ : xs → Int32} {hn : Nat} {hf hg : xs} {wn : Nat} {wf wg : xs} (A : xMa K B l h0 h Y th tn tf rk rv σ pn τ ks κ φ hn hf hg wn wf wg) (x y z : Int32) : xV K B l 1 mX12_saw 0 0 Y [.int x, .int y, .int z] h (xPi (fun zr g => zr = (if ((¬ x < 0 ∧ ¬ 30 < x) ∧ (¬ y < 0 ∧ ¬ 30 < y) ∧ ¬ z < 0 ∧ z ≤ 1) ∧ wn < 10 then nI (wn + 1) else -1) ∧ xMa K B l h0 g Y 0 tn tf rk rv σ pn τ ks κ φ hn hf hg (if ((¬ x < 0 ∧ ¬ 30 < x) ∧ (¬ y < 0 ∧ ¬ 30 < y) ∧ ¬ z < 0 ∧ z ≤ 1) ∧ wn < 10 then wn + 1 else wn) (if ((¬ x < 0 ∧ ¬ 30 < x) ∧ (¬ y < 0 ∧ ¬ 30 < y) ∧ ¬ z < 0 ∧ z ≤ 1) ∧ wn < 10 then upd wf wn (x - y) else wf) (if ((¬ x < 0 ∧ ¬ 30 < x) ∧ (¬ y < 0 ∧ ¬ 30 < y) ∧ ¬ z < 0 ∧ z ≤ 1) ∧ wn < 10 then upd wg wn (vp_nar .boolean (bI (z = 1))) else wg))) := by
  obtain ⟨m, rd, u, v, W, T, Rw, ⟨R, ok, iv⟩, P, Kp, L, H, Sw, hth⟩ := A
  refine (s_mSaw W Sw.1 Sw.2.1 x y z).post (fun r g q => ?_)
  obtain ⟨zv, rfl, q⟩ := q
  have h12 := Sw.2.1
  have ky : ∀ {a b c : Int32}, ¬ mIn a b c = 0 ↔ (¬ a < b ∧ ¬ c < a) := fun {a b c} => ⟨mIn_y, fun h q => by
    rcases mIn_0.mp q with z | z
    · exact h.1 z
    · exact h.2 z⟩
  have key : (¬ mIn x 0 30 = 0 ∧ ¬ mIn y 0 30 = 0 ∧ ¬ mIn z 0 1 = 0 ∧ ¬ wn = 10) ↔ (((¬ x < 0 ∧ ¬ 30 < x) ∧ (¬ y < 0 ∧ ¬ 30 < y) ∧ ¬ z < 0 ∧ z ≤ 1) ∧ wn < 10) := by
    rw [ky, ky, ky]
    constructor
    · rintro ⟨a, b, c, d⟩
      exact ⟨⟨a, b, c.1, Int32.not_lt.mp c.2⟩, by omega⟩
    · rintro ⟨⟨a, b, c, d⟩, e⟩
      exact ⟨a, b, ⟨c, Int32.not_lt.mpr d⟩, by omega⟩
  rw [key] at q
  by_cases c : ((¬ x < 0 ∧ ¬ 30 < x) ∧ (¬ y < 0 ∧ ¬ 30 < y) ∧ ¬ z < 0 ∧ z ≤ 1) ∧ wn < 10
  · rw [if_pos c, if_pos c, if_pos c, if_pos c]
    rcases q with ⟨q1, -⟩ | ⟨-, q2, W⟩
    · exact absurd c q1
    · refine ⟨_, rfl, q2, ⟨_, _, _, _, W, T, Rw, ⟨R, ok, iv⟩, P, Kp, L, H, ⟨rfl, by omega, fun i hi => ?_⟩, rfl⟩⟩
      show upd (u 19) wn (x - y) i = upd wf wn (x - y) i ∧ upd (u 20) wn z i = upd wg wn (vp_nar .boolean (bI (z = 1))) i ∧ _
      by_cases e : i = wn
      · subst e
        rw [pk_us, pk_us, pk_us, pk_us]
        rcases pk_ix z (n := 2) (by decide) with zz | zz | ⟨k, hk, rfl⟩
        · exact absurd zz c.1.2.2.1
        · exact absurd (Int32.le_trans zz c.1.2.2.2) (by decide)
        · rcases (show k = 0 ∨ k = 1 by omega) with rfl | rfl
          · exact ⟨rfl, by decide, by decide⟩
          · exact ⟨rfl, by decide, by decide⟩
      · rw [upd_hi _ _ e, upd_hi _ _ e, upd_hi _ _ e, upd_hi _ _ e]
        exact Sw.2.2 i (by omega)
  · rw [if_neg c, if_neg c, if_neg c, if_neg c]
    rcases q with ⟨-, q2, W⟩ | ⟨q1, -⟩
    · exact ⟨_, rfl, q2, ⟨_, _, _, _, W, T, Rw, ⟨R, ok, iv⟩, P, Kp, L, H, Sw, rfl⟩⟩
    · exact absurd q1 c
theorem lwT_cg {f g : xs} {n : Nat} (h : ∀ j, j < n → f j = g j) : lwT f n = lwT g n := by
  unfold lwT
  by_cases e : n = 0
  · rw [if_pos e, if_pos e]
  · rw [if_neg e, if_neg e, h (n - 1) (by omega), h (n / 2) (by omega)]
theorem plN_cg : ∀ (r k : Nat) (f g : xs), (∀ j, j < k → f j = g j) → ∀ j, j < k + r → plN r k f j = plN r k g j := by
  intro r
  induction r with
  | zero => intro k f g h j hj; exact h j hj
  | succ r ih =>
    intro k f g h j hj
    rw [plN_s, plN_s]
    refine ih (k + 1) _ _ (fun i hi => ?_) j (by omega)
    by_cases e : i = k
    · subst e
      rw [pk_us, pk_us, lwT_cg h]
    · rw [upd_hi _ _ e, upd_hi _ _ e]
      exact h i (by omega)
theorem lwT_0 (f : xs) {n : Nat} (h : n ≤ 200) : lwT f n ≤ 0 ↔ lwT f n = 0 := by
  unfold lwT
  split
  · exact ⟨fun _ => rfl, fun _ => by decide⟩
  · split
    · exact ⟨fun q => absurd q (by decide), fun q => absurd q (by decide)⟩
    · split
      · rw [show (0 : Int32) = nI 0 from rfl, nI_leI (by omega) (by decide), nI_eq (by omega) (by decide)]
        omega
      · exact ⟨fun _ => rfl, fun _ => by decide⟩
theorem pl_eq (f g : xs) (N : Nat) : lwT (plN (N + 1) 0 g) N = lwT (plN N 1 (upd f 0 (vp_nar .boolean 0))) N := by
  rw [plN_s]
  refine lwT_cg (fun j hj => plN_cg N 1 _ _ (fun i hi => ?_) j (by omega))
  have : i = 0 := by omega
  subst this
  rw [pk_us, pk_us]
  rfl
theorem a_pails {K : xK} {B : Nat} {l : Launch} {h0 h : xH} {Y : Nat} {th : Int32} {tn : Nat} {tf : xs} {rk : Int32} {rv : Nat → Int64} {σ : xs} {pn : Nat} {τ : Nat → xs} {ks : Nat → Bool} {κ : Nat → xs} {φ : xs → Int32} {hn : Nat} {hf hg : xs} {wn : Nat} {wf wg : xs} (A : xMa K B l h0 h Y th tn tf rk rv σ pn τ ks κ φ hn hf hg wn wf wg) (f : xs) (x : Int32) : xV K B l 1 mX12_pails 0 0 Y [.int x] h (xPi (fun zr g => zr = (plR f rk rv x).1 ∧ xMa K B l h0 g Y 0 tn tf ((plR f rk rv x).2.1) ((plR f rk rv x).2.2) σ pn τ ks κ φ hn hf hg wn wf wg)) := by
  obtain ⟨m, rd, u, v, W, T, Rw, ⟨R, ok, iv⟩, P, Kp, L, H, Sw, hth⟩ := A
  refine (s_mPails W x).post (fun r g q => ?_)
  obtain ⟨zv, rfl, q⟩ := q
  unfold plR
  by_cases c : x < 0 ∨ 200 < x
  · rw [if_pos c]
    rcases q with ⟨-, q2, W⟩ | ⟨N, rfl, hN, -⟩
    · exact ⟨_, rfl, q2, ⟨_, _, _, _, W, T, Rw, ⟨R, ok, iv⟩, P, Kp, L, H, Sw, rfl⟩⟩
    · exfalso
      rcases c with c | c
      · exact nI_pos (by omega) c
      · exact absurd c (nI_nlt (a := 200) (by omega) (by decide))
  · rw [if_neg c]
    rcases q with ⟨q1, -⟩ | ⟨N, rfl, hN, v1, e1, q⟩
    · exact absurd (mIn_0.mp q1) c
    · cases e1
      rw [nI_clamp (by omega)]
      unfold plE
      rw [pl_eq f, lwT_0 _ hN] at q
      rcases q with ⟨q1, q2, W⟩ | ⟨q1, q2, W⟩
      · rw [if_pos q1]
        exact ⟨_, rfl, q2, ⟨_, _, _, _, W, T, maR0, ⟨R, ok, iv⟩, P, Kp, L, H, Sw, rfl⟩⟩
      · rw [if_neg q1]
        exact ⟨_, rfl, q2, ⟨_, _, _, _, W, T, maR1 _, ⟨R, ok, iv⟩, P, Kp, L, H, Sw, rfl⟩⟩
