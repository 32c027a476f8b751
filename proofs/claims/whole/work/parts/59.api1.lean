/-! The model in the class's words: small calls (written by wip/whole/mod18.py) -/
theorem ps10 {j : Nat} (h : j ≤ 9) : ¬ (10 + nI j) < 0 := by
  rw [show (10 : Int32) = nI 10 from rfl, nI_add]
  exact nI_pos (by omega)
theorem grip_in {x : Int32} (c : ¬ (x < 0 ∨ 9 < x)) : ∃ j : Nat, j ≤ 9 ∧ x = nI j := by
  rcases pk_ix x (n := 10) (by decide) with z | z | ⟨j, hj, e⟩
  · exact absurd (Or.inl z) c
  · exact absurd (Or.inr (Int32.lt_of_lt_of_le (by decide) z)) c
  · exact ⟨j, by omega, e⟩
theorem a_grips {K : xK} {B : Nat} {l : Launch} {h0 h : xH} {Y : Nat} {th : Int32} {tn : Nat} {tf : xs} {rk : Int32} {rv : Nat → Int64} {σ : xs} {pn : Nat} {τ : Nat → xs} {ks : Nat → Bool} {κ : Nat → xs} {φ : xs → Int32} {hn : Nat} {hf hg : xs} {wn : Nat} {wf wg : xs} (A : xMa K B l h0 h Y th tn tf rk rv σ pn τ ks κ φ hn hf hg wn wf wg) (x : Int32) : xV K B l 2 mX12_grips 0 0 Y [.int x] h (xPi (fun zr g => zr = (aGrip σ rk rv x).1 ∧ xMa K B l h0 g Y 0 tn tf ((aGrip σ rk rv x).2.2.1) ((aGrip σ rk rv x).2.2.2) ((aGrip σ rk rv x).2.1) (rn_ (aGrip σ rk rv x).1 pn) (rt_ (aGrip σ rk rv x).1 pn τ σ) ks κ φ hn hf hg wn wf wg)) := by
  obtain ⟨m, rd, u, v, W, T, Rw, ⟨R, ok, iv⟩, P, Kp, L, H, Sw, hth⟩ := A
  have hP := P.1
  refine (s_mGrips W P.1 P.2.1 x).post (fun r g q => ?_)
  obtain ⟨zv, rfl, q⟩ := q
  have e := R.1 13 (by omega) (by omega)
  unfold mRG at q
  rw [e] at q
  unfold aGrip
  by_cases c1 : x < 0 ∨ 9 < x
  · rw [if_pos c1]
    rw [if_pos (mIn_0.mpr c1)] at q
    rcases q with ⟨-, q2, W⟩ | ⟨q1, -⟩
    · exact ⟨_, rfl, q2, ⟨_, _, _, _, W, T, Rw, ⟨R, ok, iv⟩, P, Kp, L, H, Sw, rfl⟩⟩
    · exact absurd (by decide) q1
  · rw [if_neg c1]
    rw [if_neg (fun z => c1 (mIn_0.mp z))] at q
    by_cases c2 : x = σ 13
    · rw [if_pos c2]
      rw [if_pos c2.symm] at q
      rcases q with ⟨-, q2, W⟩ | ⟨q1, -⟩
      · exact ⟨_, rfl, q2, ⟨_, _, _, _, W, T, Rw, ⟨R, ok, iv⟩, P, Kp, L, H, Sw, rfl⟩⟩
      · exact absurd (by decide) q1
    · rw [if_neg c2]
      rw [if_neg (fun z => c2 z.symm)] at q
      rcases q with ⟨q1, -⟩ | ⟨-, q2, W⟩
      · exact absurd q1 (by decide)
      · have ps : ¬ (10 + σ 13) < 0 := by obtain ⟨j, hj, ej⟩ := iv.2; rw [ej]; exact ps10 hj
        refine ⟨_, rfl, q2, ?_⟩
        dsimp only
        rw [rn_pos ps, rt_pos ps]
        exact ⟨_, _, _, _, W, T, Rw, ⟨rr_upd R (by decide) x, hOk_upd ok (by decide) _, by obtain ⟨j, hj, rfl⟩ := grip_in c1; exact hIv_grip iv ok hj⟩, maP_rem (maP_eq P) ⟨R, ok, iv⟩, Kp, L, H, Sw, rfl⟩
theorem a_seats {K : xK} {B : Nat} {l : Launch} {h0 h : xH} {Y : Nat} {th : Int32} {tn : Nat} {tf : xs} {rk : Int32} {rv : Nat → Int64} {σ : xs} {pn : Nat} {τ : Nat → xs} {ks : Nat → Bool} {κ : Nat → xs} {φ : xs → Int32} {hn : Nat} {hf hg : xs} {wn : Nat} {wf wg : xs} (A : xMa K B l h0 h Y th tn tf rk rv σ pn τ ks κ φ hn hf hg wn wf wg) (x : Int32) : xV K B l 2 mX12_seats 0 0 Y [.int x] h (xPi (fun zr g => zr = (aSeats σ rk rv x).1 ∧ xMa K B l h0 g Y 0 tn tf ((aSeats σ rk rv x).2.2.1) ((aSeats σ rk rv x).2.2.2) ((aSeats σ rk rv x).2.1) (rn_ (aSeats σ rk rv x).1 pn) (rt_ (aSeats σ rk rv x).1 pn τ σ) ks κ φ hn hf hg wn wf wg)) := by
  obtain ⟨m, rd, u, v, W, T, Rw, ⟨R, ok, iv⟩, P, Kp, L, H, Sw, hth⟩ := A
  have hP := P.1
  refine (s_mSeats W P.1 P.2.1 x).post (fun r g q => ?_)
  obtain ⟨zv, rfl, q⟩ := q
  have e := R.1 12 (by omega) (by omega)
  unfold mRS at q
  rw [e] at q
  unfold aSeats
  by_cases c1 : x < 1 ∨ 3 < x
  · rw [if_pos c1]
    rw [if_pos (mIn_0.mpr c1)] at q
    rcases q with ⟨-, q2, W⟩ | ⟨q1, -⟩
    · exact ⟨_, rfl, q2, ⟨_, _, _, _, W, T, Rw, ⟨R, ok, iv⟩, P, Kp, L, H, Sw, rfl⟩⟩
    · exact absurd (by decide) q1
  · rw [if_neg c1]
    rw [if_neg (fun z => c1 (mIn_0.mp z))] at q
    by_cases c2 : x = σ 12
    · rw [if_pos c2]
      rw [if_pos c2.symm] at q
      rcases q with ⟨-, q2, W⟩ | ⟨q1, -⟩
      · exact ⟨_, rfl, q2, ⟨_, _, _, _, W, T, Rw, ⟨R, ok, iv⟩, P, Kp, L, H, Sw, rfl⟩⟩
      · exact absurd (by decide) q1
    · rw [if_neg c2]
      rw [if_neg (fun z => c2 z.symm)] at q
      rcases q with ⟨q1, -⟩ | ⟨-, q2, W⟩
      · exact absurd q1 (by decide)
      · have ps : ¬ (10 + σ 12) < 0 := by rw [ok.2.1]; exact ps10 (by have := ok.2.2.2; omega)
        refine ⟨_, rfl, q2, ?_⟩
        dsimp only
        rw [rn_pos ps, rt_pos ps]
        exact ⟨_, _, _, _, W, T, Rw, ⟨rr_upd R (by decide) x, hOk_seats ok (fun z => c1 (Or.inl z)) (Int32.not_lt.mp (fun z => c1 (Or.inr z))), hIv_upd iv (by decide) (by decide) ok _⟩, maP_rem (maP_eq P) ⟨R, ok, iv⟩, Kp, L, H, Sw, rfl⟩
theorem pos_sub {a b : Int32} (h1 : ¬ b < 1) (h2 : ¬ a < b) : ¬ a - b < 0 := by
  rcases pk_ix b (n := 2147483647) (by decide) with z | z | ⟨j, hj, rfl⟩
  · exact absurd (Int32.lt_trans z (by decide)) h1
  · obtain ⟨k, hk, rfl⟩ := nI_of (x := a) (fun q => h2 (Int32.lt_of_lt_of_le q (Int32.le_trans (by decide) z)))
    obtain ⟨j, hj, rfl⟩ := nI_of (x := b) (fun q => h1 (Int32.lt_trans q (by decide)))
    have hh : ¬ k < j := fun q => h2 (nI_lt (a := k) (b := j) q (by omega))
    rw [nI_sub (by omega)]
    exact nI_pos (by omega)
  · obtain ⟨k, hk, rfl⟩ := nI_of (x := a) (fun q => h2 (Int32.lt_of_lt_of_le q (nI_pos' (by omega))))
    have hh : ¬ k < j := fun q => h2 (nI_lt (a := k) (b := j) q (by omega))
    rw [nI_sub (by omega)]
    exact nI_pos (by omega)
theorem a_drains {K : xK} {B : Nat} {l : Launch} {h0 h : xH} {Y : Nat} {th : Int32} {tn : Nat} {tf : xs} {rk : Int32} {rv : Nat → Int64} {σ : xs} {pn : Nat} {τ : Nat → xs} {ks : Nat → Bool} {κ : Nat → xs} {φ : xs → Int32} {hn : Nat} {hf hg : xs} {wn : Nat} {wf wg : xs} (A : xMa K B l h0 h Y th tn tf rk rv σ pn τ ks κ φ hn hf hg wn wf wg) (x : Int32) : xV K B l 2 mX12_drains 0 0 Y [.int x] h (xPi (fun zr g => zr = (aOut σ rk rv x).1 ∧ xMa K B l h0 g Y 0 tn tf ((aOut σ rk rv x).2.2.1) ((aOut σ rk rv x).2.2.2) ((aOut σ rk rv x).2.1) (rn_ (aOut σ rk rv x).1 pn) (rt_ (aOut σ rk rv x).1 pn τ σ) ks κ φ hn hf hg wn wf wg)) := by
  obtain ⟨m, rd, u, v, W, T, Rw, ⟨R, ok, iv⟩, P, Kp, L, H, Sw, hth⟩ := A
  have hP := P.1
  refine (s_mDrains W P.1 P.2.1 x).post (fun r g q => ?_)
  obtain ⟨zv, rfl, q⟩ := q
  have e := R.1 14 (by omega) (by omega)
  unfold mRD at q
  rw [e] at q
  unfold aOut
  by_cases c1 : x < 1 ∨ 99 < x
  · rw [if_pos c1]
    rw [if_pos (mIn_0.mpr c1)] at q
    rcases q with ⟨-, q2, W⟩ | ⟨q1, -⟩
    · exact ⟨_, rfl, q2, ⟨_, _, _, _, W, T, Rw, ⟨R, ok, iv⟩, P, Kp, L, H, Sw, rfl⟩⟩
    · exact absurd (by decide) q1
  · rw [if_neg c1]
    rw [if_neg (fun z => c1 (mIn_0.mp z))] at q
    by_cases c2 : σ 14 < x
    · rw [if_pos c2]
      rw [if_neg (Int32.not_le.mpr c2)] at q
      rcases q with ⟨-, q2, W⟩ | ⟨q1, -⟩
      · exact ⟨_, rfl, q2, ⟨_, _, _, _, W, T, Rw, ⟨R, ok, iv⟩, P, Kp, L, H, Sw, rfl⟩⟩
      · exact absurd (by decide) q1
    · rw [if_neg c2]
      rw [if_pos (Int32.not_lt.mp c2)] at q
      rcases q with ⟨q1, -⟩ | ⟨-, q2, W⟩
      · exact absurd q1 (by decide)
      · have ps : ¬ (σ 14 - x) < 0 := pos_sub (fun z => c1 (Or.inl z)) c2
        refine ⟨_, rfl, q2, ?_⟩
        dsimp only
        rw [rn_pos ps, rt_pos ps]
        exact ⟨_, _, _, _, W, T, Rw, ⟨rr_upd R (by decide) _, hOk_upd ok (by decide) _, hIv_upd iv (by decide) (by decide) ok _⟩, maP_rem (maP_eq P) ⟨R, ok, iv⟩, Kp, L, H, Sw, rfl⟩
