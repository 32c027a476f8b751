/-! The model in the class's words: parties that go, what is kept and told (written by wip/whole/mod19.py) -/
theorem mPar_iff {σ w : xs} (R : rr σ w) (ok : hOk σ) {x y : Int32} : ¬ mPar w x y = 0 ↔ hHas σ x y := by
  constructor
  · intro h
    obtain ⟨s, k, hs, hk, rfl, rfl⟩ := mPar_sk (rr_ok R ok) h
    rw [rr_ln R hs] at hk
    exact (hWat_at ok hs hk).1
  · intro h
    obtain ⟨s, k, hs, hk, rfl, rfl⟩ := hHas_at ok h
    have e := (rr_ok R ok).1 s hs
    rw [rr_ln R hs] at e
    unfold mPar
    have h1 : ¬ mIn (nI s) 0 1 = 0 := fun q => by
      rcases mIn_0.mp q with z | z
      · exact nI_pos (by omega) z
      · exact absurd z (nI_nlt (a := 1) (by omega) (by decide))
    rw [if_neg h1, nI_clamp (by omega), e.1, show nI (ln σ s) - 1 = nI (ln σ s - 1) from nI_sub (a := ln σ s) (b := 1) (by omega)]
    intro q
    rcases mIn_0.mp q with z | z
    · exact nI_pos (by omega) z
    · exact absurd z (nI_nlt (by omega) (by omega))
theorem hWeigh_at {σ : xs} (ok : hOk σ) {s k : Nat} (hs : s < 2) (hk : k < ln σ s) (x : Int32) : hWeigh σ (nI s) (nI k) x = upd σ (5 * s + k) x := by
  have := (ok.1 s hs).2
  unfold hWeigh
  rw [if_pos (hWat_at ok hs hk).1, (xix_sk hs (by omega)).2]
theorem hExch_at {σ : xs} (ok : hOk σ) {s i j : Nat} (hs : s < 2) (hi : i < ln σ s) (hj : j < ln σ s) : hExch σ (nI s) (nI i) (nI j) = upd (upd σ (5 * s + i) (σ (5 * s + j))) (5 * s + j) (σ (5 * s + i)) := by
  have := (ok.1 s hs).2
  unfold hExch
  rw [(hWat_at ok hs hi).2, (hWat_at ok hs hj).2, hWeigh_at ok hs hi, hWeigh_at (hOk_up0 ok (by omega) _) hs (by rw [ln_upd _ (by omega)]; exact hj)]
theorem rr_exch {σ w : xs} (R : rr σ w) (ok : hOk σ) {s i j : Nat} (hs : s < 2) (hi : i < ln σ s) (hj : j < ln σ s) : rr (hExch σ (nI s) (nI i) (nI j)) (upd (upd w (5 * s + i) (w (5 * s + j))) (5 * s + j) (w (5 * s + i))) := by
  have := (ok.1 s hs).2
  rw [hExch_at ok hs hi hj, R.2 s hs i hi, R.2 s hs j hj]
  exact rr_up0 (rr_up0 R (by omega) _) (by omega) _
theorem hIv_exch {σ : xs} (iv : hIv σ) (ok : hOk σ) {s i j : Nat} (hs : s < 2) (hi : i < ln σ s) (hj : j < ln σ s) : hIv (hExch σ (nI s) (nI i) (nI j)) := by
  have := (ok.1 s hs).2
  rw [hExch_at ok hs hi hj]
  exact hIv_up0 (hIv_up0 iv (by omega) (iv.1 s hs j hj)) (by omega) (iv.1 s hs i hi)
theorem w19_pos {x : Int32} (h : w19 x) : ¬ x < 0 := by
  obtain ⟨a, h1, h2, rfl⟩ := h
  exact nI_pos (by omega)
theorem a_leaves {K : xK} {B : Nat} {l : Launch} {h0 h : xH} {Y : Nat} {th : Int32} {tn : Nat} {tf : xs} {rk : Int32} {rv : Nat → Int64} {σ : xs} {pn : Nat} {τ : Nat → xs} {ks : Nat → Bool} {κ : Nat → xs} {φ : xs → Int32} {hn : Nat} {hf hg : xs} {wn : Nat} {wf wg : xs} (A : xMa K B l h0 h Y th tn tf rk rv σ pn τ ks κ φ hn hf hg wn wf wg) (x y : Int32) : xV K B l 2 mX12_leaves 0 0 Y [.int x, .int y] h (xPi (fun zr g => zr = (aAway σ rk rv x y).1 ∧ xMa K B l h0 g Y 0 tn tf ((aAway σ rk rv x y).2.2.1) ((aAway σ rk rv x y).2.2.2) ((aAway σ rk rv x y).2.1) (rn_ (aAway σ rk rv x y).1 pn) (rt_ (aAway σ rk rv x y).1 pn τ σ) ks κ φ hn hf hg wn wf wg)) := by
  obtain ⟨m, rd, u, v, W, T, Rw, ⟨R, ok, iv⟩, P, Kp, L, H, Sw, hth⟩ := A
  refine (s_mLeaves W P.1 P.2.1 (rr_ok R ok) x y).post (fun r g q => ?_)
  obtain ⟨zv, rfl, q⟩ := q
  unfold aAway
  by_cases c1 : hHas σ x y
  · rw [if_pos c1]
    rcases q with ⟨q1, -⟩ | ⟨-, q2, W⟩
    · exact absurd q1 ((mPar_iff R ok).mpr c1)
    · obtain ⟨s, k, hs, hk, rfl, rfl⟩ := hHas_at ok c1
      rw [nI_clamp (by omega)] at q2 W ⊢
      have Rt := rr_take R ok hs ((1 : Int32) <<< (nI k &&& 31))
      have ot := hOk_take ok hs ((1 : Int32) <<< (nI k &&& 31))
      have e := ot.1 s hs
      have ps : ¬ hWaits (hTake σ s ((1 : Int32) <<< (nI k &&& 31))) (nI s) < 0 := by
        rw [hWaits_s hs, e.1]
        exact nI_pos (by omega)
      refine ⟨_, rfl, ?_, ?_⟩
      · rw [q2, hWaits_s hs]
        exact Rt.1 _ (by omega) (by omega)
      · dsimp only
        rw [rn_pos ps, rt_pos ps]
        exact ⟨_, _, _, _, W, T, Rw, ⟨Rt, ot, hIv_take iv ok hs _⟩, maP_rem (maP_eq P) ⟨R, ok, iv⟩, Kp, L, H, Sw, rfl⟩
  · rw [if_neg c1]
    rcases q with ⟨-, q2, W⟩ | ⟨q1, -⟩
    · exact ⟨_, rfl, q2, ⟨_, _, _, _, W, T, Rw, ⟨R, ok, iv⟩, P, Kp, L, H, Sw, rfl⟩⟩
    · exact absurd ((mPar_iff R ok).mp q1) c1
theorem a_swaps {K : xK} {B : Nat} {l : Launch} {h0 h : xH} {Y : Nat} {th : Int32} {tn : Nat} {tf : xs} {rk : Int32} {rv : Nat → Int64} {σ : xs} {pn : Nat} {τ : Nat → xs} {ks : Nat → Bool} {κ : Nat → xs} {φ : xs → Int32} {hn : Nat} {hf hg : xs} {wn : Nat} {wf wg : xs} (A : xMa K B l h0 h Y th tn tf rk rv σ pn τ ks κ φ hn hf hg wn wf wg) (x y : Int32) : xV K B l 3 mX12_swaps 0 0 Y [.int x, .int y] h (xPi (fun zr g => zr = (aSwap σ rk rv x y).1 ∧ xMa K B l h0 g Y 0 tn tf ((aSwap σ rk rv x y).2.2.1) ((aSwap σ rk rv x y).2.2.2) ((aSwap σ rk rv x y).2.1) (rn_ (aSwap σ rk rv x y).1 pn) (rt_ (aSwap σ rk rv x y).1 pn τ σ) ks κ φ hn hf hg wn wf wg)) := by
  obtain ⟨m, rd, u, v, W, T, Rw, ⟨R, ok, iv⟩, P, Kp, L, H, Sw, hth⟩ := A
  refine (s_mSwaps W P.1 P.2.1 (rr_ok R ok) x y).post (fun r g q => ?_)
  obtain ⟨zv, rfl, q⟩ := q
  unfold aSwap
  unfold mRW at q
  by_cases c1 : hHas σ x y
  · rw [if_neg (fun z => z c1)]
    rw [if_neg ((mPar_iff R ok).mpr c1)] at q
    obtain ⟨s, k, hs, hk, rfl, rfl⟩ := hHas_at ok c1
    have e := ok.1 s hs
    rw [nI_clamp (n := s) (by omega), nI_clamp (n := k) (by omega), R.1 (10 + s) (by omega) (by omega), e.1] at q
    rw [hWaits_s hs, e.1, nI_1 k] at *
    by_cases c2 : k + 1 < ln σ s
    · rw [if_neg (fun z => by have := (nI_eq (by omega) (by omega)).mp z; omega)] at q
      rw [if_pos (nI_lt c2 (by omega))]
      have Rt := rr_exch R ok hs hk c2
      have ot : hOk (hExch σ (nI s) (nI k) (nI (k + 1))) := hOk_exch ok _ _ _
      have it := hIv_exch iv ok hs hk c2
      have ea : hWat (hExch σ (nI s) (nI k) (nI (k + 1))) (nI s) (nI k) = σ (5 * s + (k + 1)) := by
        have l : ln (hExch σ (nI s) (nI k) (nI (k + 1))) s = ln σ s := by
          rw [hExch_at ok hs hk c2, ln_upd _ (by omega), ln_upd _ (by omega)]
        rw [(hWat_at ot hs (by rw [l]; exact hk)).2, hExch_at ok hs hk c2, upd_hi _ _ (by omega), pk_us]
      rcases q with ⟨q1, -⟩ | ⟨-, q2, W⟩
      · exact absurd q1 (by decide)
      · have ps : ¬ hWat (hExch σ (nI s) (nI k) (nI (k + 1))) (nI s) (nI k) < 0 := by
          rw [ea]
          exact w19_pos (iv.1 s hs _ c2)
        refine ⟨_, rfl, ?_, ?_⟩
        · dsimp only
          rw [q2, ea]
          exact R.2 s hs _ c2
        · dsimp only
          rw [rn_pos ps, rt_pos ps]
          exact ⟨_, _, _, _, W, T, Rw, ⟨Rt, ot, it⟩, maP_rem (maP_eq P) ⟨R, ok, iv⟩, Kp, L, H, Sw, rfl⟩
    · rw [if_pos (by congr 1; omega)] at q
      rw [if_neg (nI_nlt (by omega) (by omega))]
      rcases q with ⟨-, q2, W⟩ | ⟨q1, -⟩
      · exact ⟨_, rfl, q2, ⟨_, _, _, _, W, T, Rw, ⟨R, ok, iv⟩, P, Kp, L, H, Sw, rfl⟩⟩
      · exact absurd (by decide) q1
  · rw [if_pos c1]
    rw [if_pos (Decidable.not_not.mp (fun z => c1 ((mPar_iff R ok).mp z)))] at q
    rcases q with ⟨-, q2, W⟩ | ⟨q1, -⟩
    · exact ⟨_, rfl, q2, ⟨_, _, _, _, W, T, Rw, ⟨R, ok, iv⟩, P, Kp, L, H, Sw, rfl⟩⟩
    · exact absurd (by decide) q1
theorem a_undo {K : xK} {B : Nat} {l : Launch} {h0 h : xH} {Y : Nat} {th : Int32} {tn : Nat} {tf : xs} {rk : Int32} {rv : Nat → Int64} {σ : xs} {pn : Nat} {τ : Nat → xs} {ks : Nat → Bool} {κ : Nat → xs} {φ : xs → Int32} {hn : Nat} {hf hg : xs} {wn : Nat} {wf wg : xs} (A : xMa K B l h0 h Y th tn tf rk rv σ pn τ ks κ φ hn hf hg wn wf wg)  : xV K B l 0 mX12_undo 0 0 Y [] h (xPi (fun zr g => zr = (if 0 < pn then nI (pn - 1) else -1) ∧ xMa K B l h0 g Y 0 tn tf rk rv (if 0 < pn then τ (pn - 1) else σ) (pn - 1) τ ks κ φ hn hf hg wn wf wg)) := by
  obtain ⟨m, rd, u, v, W, T, Rw, ⟨R, ok, iv⟩, P, Kp, L, H, Sw, hth⟩ := A
  refine (s_mUndo W P.1 P.2.1).post (fun r g q => ?_)
  obtain ⟨zv, rfl, q⟩ := q
  by_cases c1 : 0 < pn
  · rw [if_pos c1, if_pos c1]
    rcases q with ⟨q1, -⟩ | ⟨-, q2, W⟩
    · omega
    · obtain ⟨r1, o1, i1⟩ := P.2.2 (pn - 1) (by omega)
      have Rt : rr (τ (pn - 1)) (unK (u 1) (u 9) (19 * (pn - 1)) 19) := rr_cg o1 r1 (fun k hk => by
        unfold unK
        rw [if_pos hk])
      have h12 := P.2.1
      exact ⟨_, rfl, q2, ⟨_, _, _, _, W, T, Rw, ⟨Rt, o1, i1⟩, ⟨rfl, by omega, fun i hi => P.2.2 i (by omega)⟩, Kp, L, H, Sw, rfl⟩⟩
  · rw [if_neg c1, if_neg c1]
    have e0 : pn = 0 := by omega
    subst e0
    rcases q with ⟨-, q2, W⟩ | ⟨q1, -⟩
    · exact ⟨_, rfl, q2, ⟨_, _, _, _, W, T, Rw, ⟨R, ok, iv⟩, P, Kp, L, H, Sw, rfl⟩⟩
    · omega
theorem a_party {K : xK} {B : Nat} {l : Launch} {h0 h : xH} {Y : Nat} {th : Int32} {tn : Nat} {tf : xs} {rk : Int32} {rv : Nat → Int64} {σ : xs} {pn : Nat} {τ : Nat → xs} {ks : Nat → Bool} {κ : Nat → xs} {φ : xs → Int32} {hn : Nat} {hf hg : xs} {wn : Nat} {wf wg : xs} (A : xMa K B l h0 h Y th tn tf rk rv σ pn τ ks κ φ hn hf hg wn wf wg) (x y : Int32) : xV K B l 2 mX12_party 0 0 Y [.int x, .int y] h (xPi (fun zr g => (hHas σ x y ∧ zr = hWat σ x y ∧ xMa K B l h0 g Y 0 tn tf rk rv σ pn τ ks κ φ hn hf hg wn wf wg) ∨ (¬ hHas σ x y ∧ xMa K B l h0 g Y 1 tn tf rk rv σ pn τ ks κ φ hn hf hg wn wf wg))) := by
  obtain ⟨m, rd, u, v, W, T, Rw, ⟨R, ok, iv⟩, P, Kp, L, H, Sw, hth⟩ := A
  refine (s_mParty W (rr_ok R ok) x y).post (fun r g q => ?_)
  obtain ⟨zv, rfl, q⟩ := q
  by_cases c1 : hHas σ x y
  · rcases q with ⟨q1, -⟩ | ⟨-, q2, W⟩
    · exact absurd q1 ((mPar_iff R ok).mpr c1)
    · obtain ⟨s, k, hs, hk, rfl, rfl⟩ := hHas_at ok c1
      have h5 := (ok.1 s hs).2
      rw [nI_clamp (n := s) (by omega), nI_clamp (n := k) (by omega)] at q2
      refine ⟨_, rfl, Or.inl ⟨c1, ?_, ⟨_, _, _, _, W, T, Rw, ⟨R, ok, iv⟩, P, Kp, L, H, Sw, rfl⟩⟩⟩
      rw [(hWat_at ok hs hk).2, q2]
      exact R.2 s hs k hk
  · rcases q with ⟨-, q2, W⟩ | ⟨q1, -⟩
    · exact ⟨_, rfl, Or.inr ⟨c1, ⟨_, _, _, _, W, T, Rw, ⟨R, ok, iv⟩, P, Kp, L, H, Sw, rfl⟩⟩⟩
    · exact absurd ((mPar_iff R ok).mp q1) c1
theorem a_row {K : xK} {B : Nat} {l : Launch} {h0 h : xH} {Y : Nat} {th : Int32} {tn : Nat} {tf : xs} {rk : Int32} {rv : Nat → Int64} {σ : xs} {pn : Nat} {τ : Nat → xs} {ks : Nat → Bool} {κ : Nat → xs} {φ : xs → Int32} {hn : Nat} {hf hg : xs} {wn : Nat} {wf wg : xs} (A : xMa K B l h0 h Y th tn tf rk rv σ pn τ ks κ φ hn hf hg wn wf wg) (x : Int32) : xV K B l 1 mX12_row 0 0 Y [.int x] h (xPl (fun zr g => (nuHas rk x ∧ zr = rv x.toNatClampNeg ∧ xMa K B l h0 g Y 0 tn tf rk rv σ pn τ ks κ φ hn hf hg wn wf wg) ∨ (¬ nuHas rk x ∧ xMa K B l h0 g Y 1 tn tf rk rv σ pn τ ks κ φ hn hf hg wn wf wg))) := by
  obtain ⟨m, rd, u, v, W, T, Rw, ⟨R, ok, iv⟩, P, Kp, L, H, Sw, hth⟩ := A
  obtain ⟨n, n4, rfl, e4, hv⟩ := id Rw
  refine (s_mRow W e4 (by omega) x).post (fun r g q => ?_)
  obtain ⟨zv, rfl, q⟩ := q
  have key : ¬ mIn x 0 (nI n - 1) = 0 → ∃ j, j < n ∧ x = nI j := by
    intro h
    have h1 : ¬ x < 0 := fun z => h (mIn_0.mpr (Or.inl z))
    have h2 : ¬ nI n - 1 < x := fun z => h (mIn_0.mpr (Or.inr z))
    obtain ⟨j, hj, rfl⟩ := nI_of h1
    refine ⟨j, ?_, rfl⟩
    rcases Nat.eq_zero_or_pos n with z | z
    · subst z
      exact absurd (Int32.lt_of_lt_of_le (by decide) (nI_pos' hj)) h2
    · rw [show nI n - 1 = nI (n - 1) from nI_sub (a := n) (b := 1) z] at h2
      have hh : ¬ n - 1 < j := fun z => h2 (nI_lt (a := n - 1) (b := j) z hj)
      omega
  by_cases c1 : nuHas (nI n) x
  · obtain ⟨j, hj, rfl⟩ := nI_of c1.1
    have jn : j < n := Nat.lt_of_not_le (fun z => c1.2.1 (nI_le z hj))
    rcases q with ⟨q1, -⟩ | ⟨-, q2, W⟩
    · exfalso
      rcases mIn_0.mp q1 with z | z
      · exact c1.1 z
      · rw [show nI n - 1 = nI (n - 1) from nI_sub (a := n) (b := 1) (by omega)] at z
        exact absurd z (nI_nlt (by omega) (by omega))
    · rw [nI_clamp hj] at q2
      refine ⟨_, rfl, Or.inl ⟨c1, ?_, ⟨_, _, _, _, W, T, Rw, ⟨R, ok, iv⟩, P, Kp, L, H, Sw, rfl⟩⟩⟩
      rw [q2, nI_clamp hj]
      exact hv j jn
  · rcases q with ⟨-, q2, W⟩ | ⟨q1, -⟩
    · exact ⟨_, rfl, Or.inr ⟨c1, ⟨_, _, _, _, W, T, Rw, ⟨R, ok, iv⟩, P, Kp, L, H, Sw, rfl⟩⟩⟩
    · obtain ⟨j, hj, rfl⟩ := key q1
      exact absurd ⟨nI_pos (by omega), nI_ge hj (by omega), nI_ge (b := 4) (by omega) (by decide)⟩ c1
theorem in2 {x : Int32} : mIn x 0 1 = 0 ↔ ¬ (¬ x < 0 ∧ x < 2) := by
  rw [mIn_0]
  have e : (1 : Int32) < x ↔ ¬ x < 2 := by
    rw [Int32.lt_iff_toInt_lt, Int32.lt_iff_toInt_lt, show (1 : Int32).toInt = 1 from rfl, show (2 : Int32).toInt = 2 from rfl]
    omega
  rw [e]
  constructor
  · intro h q
    rcases h with h | h
    · exact q.1 h
    · exact h q.2
  · intro h
    by_cases c : x < 0
    · exact Or.inl c
    · exact Or.inr (fun z => h ⟨c, z⟩)
theorem in2_at {x : Int32} (h : ¬ x < 0 ∧ x < 2) : ∃ s, s < 2 ∧ x = nI s := by
  rcases pk_ix x (n := 2) (by decide) with z | z | ⟨s, hs, e⟩
  · exact absurd z h.1
  · exact absurd h.2 (Int32.not_lt.mpr z)
  · exact ⟨s, hs, e⟩
theorem a_keep {K : xK} {B : Nat} {l : Launch} {h0 h : xH} {Y : Nat} {th : Int32} {tn : Nat} {tf : xs} {rk : Int32} {rv : Nat → Int64} {σ : xs} {pn : Nat} {τ : Nat → xs} {ks : Nat → Bool} {κ : Nat → xs} {φ : xs → Int32} {hn : Nat} {hf hg : xs} {wn : Nat} {wf wg : xs} (A : xMa K B l h0 h Y th tn tf rk rv σ pn τ ks κ φ hn hf hg wn wf wg) (x : Int32) : xV K B l 1 mX12_keep 0 0 Y [.int x] h (xPi (fun zr g => zr = bI (¬ x < 0 ∧ x < 2) ∧ xMa K B l h0 g Y 0 tn tf rk rv σ pn τ (if ¬ x < 0 ∧ x < 2 then kU ks x.toNatClampNeg else ks) (if ¬ x < 0 ∧ x < 2 then kX κ x.toNatClampNeg σ else κ) φ hn hf hg wn wf wg)) := by
  obtain ⟨m, rd, u, v, W, T, Rw, ⟨R, ok, iv⟩, P, Kp, L, H, Sw, hth⟩ := A
  refine (s_mKeep W x).post (fun r g q => ?_)
  obtain ⟨zv, rfl, q⟩ := q
  by_cases c1 : ¬ x < 0 ∧ x < 2
  · rw [if_pos c1, if_pos c1, bI_t c1]
    rcases q with ⟨q1, -⟩ | ⟨-, q2, W⟩
    · exact absurd c1 (in2.mp q1)
    · obtain ⟨s, hs, rfl⟩ := in2_at c1
      rw [nI_clamp (by omega)] at W ⊢
      refine ⟨_, rfl, q2, ⟨_, _, _, _, W, T, Rw, ⟨R, ok, iv⟩, P, ?_, L, H, Sw, rfl⟩⟩
      intro i hi
      show upd (u 23) s (vp_nar .boolean 1) i = (if (if i = s then true else ks i) = true then 1 else 0) ∧ ((if i = s then true else ks i) = true → maN (fun k => lyK (u 22) (u 1) (19 * s) 19 (19 * i + k)) (if i = s then σ else κ i))
      by_cases e : i = s
      · subst e
        rw [if_pos rfl, if_pos rfl, if_pos rfl, pk_us]
        refine ⟨rfl, fun _ => ⟨rr_cg ok R (fun k hk => ?_), ok, iv⟩⟩
        show lyK (u 22) (u 1) (19 * i) 19 (19 * i + k) = u 1 k
        unfold lyK
        rw [if_pos (by omega), Nat.add_sub_cancel_left]
      · rw [if_neg e, if_neg e, upd_hi _ _ e]
        refine ⟨(Kp i hi).1, fun z => ?_⟩
        obtain ⟨r1, o1, i1⟩ := (Kp i hi).2 z
        refine ⟨rr_cg o1 r1 (fun k hk => ?_), o1, i1⟩
        show lyK (u 22) (u 1) (19 * s) 19 (19 * i + k) = u 22 (19 * i + k)
        unfold lyK
        rw [if_neg (by omega)]
  · rw [if_neg c1, if_neg c1, bI_f c1]
    rcases q with ⟨-, q2, W⟩ | ⟨q1, -⟩
    · exact ⟨_, rfl, q2, ⟨_, _, _, _, W, T, Rw, ⟨R, ok, iv⟩, P, Kp, L, H, Sw, rfl⟩⟩
    · exact absurd (in2.mpr c1) q1
theorem a_again {K : xK} {B : Nat} {l : Launch} {h0 h : xH} {Y : Nat} {th : Int32} {tn : Nat} {tf : xs} {rk : Int32} {rv : Nat → Int64} {σ : xs} {pn : Nat} {τ : Nat → xs} {ks : Nat → Bool} {κ : Nat → xs} {φ : xs → Int32} {hn : Nat} {hf hg : xs} {wn : Nat} {wf wg : xs} (A : xMa K B l h0 h Y th tn tf rk rv σ pn τ ks κ φ hn hf hg wn wf wg) (x : Int32) : xV K B l 1 mX12_again 0 0 Y [.int x] h (xPi (fun zr g => zr = bI ((¬ x < 0 ∧ x < 2) ∧ ks x.toNatClampNeg = true) ∧ xMa K B l h0 g Y 0 tn tf rk rv (if (¬ x < 0 ∧ x < 2) ∧ ks x.toNatClampNeg = true then κ x.toNatClampNeg else σ) (if (¬ x < 0 ∧ x < 2) ∧ ks x.toNatClampNeg = true then 0 else pn) τ ks κ φ hn hf hg wn wf wg)) := by
  obtain ⟨m, rd, u, v, W, T, Rw, ⟨R, ok, iv⟩, P, Kp, L, H, Sw, hth⟩ := A
  refine (s_mAgain W x).post (fun r g q => ?_)
  obtain ⟨zv, rfl, q⟩ := q
  by_cases c1 : (¬ x < 0 ∧ x < 2) ∧ ks x.toNatClampNeg = true
  · rw [if_pos c1, if_pos c1, bI_t c1]
    obtain ⟨s, hs, rfl⟩ := in2_at c1.1
    rw [nI_clamp (by omega)] at *
    obtain ⟨k1, k2⟩ := Kp s hs
    rw [if_pos c1.2] at k1
    rcases q with ⟨q1, -⟩ | ⟨-, q2, W⟩
    · exfalso
      rcases q1 with z | z
      · exact absurd c1.1 (in2.mp z)
      · rw [k1] at z
        exact absurd z (by decide)
    · obtain ⟨r1, o1, i1⟩ := k2 c1.2
      have Rt : rr (κ s) (unK (u 1) (u 22) (19 * s) 19) := rr_cg o1 r1 (fun k hk => by
        unfold unK
        rw [if_pos hk])
      exact ⟨_, rfl, q2, ⟨_, _, _, _, W, T, Rw, ⟨Rt, o1, i1⟩, ⟨rfl, by omega, fun i hi => absurd hi (by omega)⟩, Kp, L, H, Sw, rfl⟩⟩
  · rw [if_neg c1, if_neg c1, bI_f c1]
    rcases q with ⟨-, q2, W⟩ | ⟨q1, -⟩
    · exact ⟨_, rfl, q2, ⟨_, _, _, _, W, T, Rw, ⟨R, ok, iv⟩, P, Kp, L, H, Sw, rfl⟩⟩
    · exfalso
      have c2 : ¬ x < 0 ∧ x < 2 := Decidable.not_not.mp (fun z => q1 (Or.inl (in2.mpr z)))
      obtain ⟨s, hs, rfl⟩ := in2_at c2
      rw [nI_clamp (by omega)] at *
      have k1 := (Kp s hs).1
      rw [if_neg (fun z => c1 ⟨c2, z⟩)] at k1
      exact q1 (Or.inr k1)
theorem a_forget {K : xK} {B : Nat} {l : Launch} {h0 h : xH} {Y : Nat} {th : Int32} {tn : Nat} {tf : xs} {rk : Int32} {rv : Nat → Int64} {σ : xs} {pn : Nat} {τ : Nat → xs} {ks : Nat → Bool} {κ : Nat → xs} {φ : xs → Int32} {hn : Nat} {hf hg : xs} {wn : Nat} {wf wg : xs} (A : xMa K B l h0 h Y th tn tf rk rv σ pn τ ks κ φ hn hf hg wn wf wg)  : xV K B l 0 mX12_forget 0 0 Y [] h (xPi (fun zr g => zr = nI hn ∧ xMa K B l h0 g Y 0 tn tf rk rv σ pn τ ks κ φ 0 hf hg wn wf wg)) := by
  obtain ⟨m, rd, u, v, W, T, Rw, ⟨R, ok, iv⟩, P, Kp, L, H, Sw, hth⟩ := A
  refine (s_mForget W).post (fun r g q => ?_)
  obtain ⟨zv, rfl, q2, W⟩ := q
  exact ⟨_, rfl, q2.trans H.1, ⟨_, _, _, _, W, T, Rw, ⟨R, ok, iv⟩, P, Kp, L, ⟨rfl, by omega, fun i hi => absurd hi (by omega)⟩, Sw, rfl⟩⟩
theorem a_denies {K : xK} {B : Nat} {l : Launch} {h0 h : xH} {Y : Nat} {th : Int32} {tn : Nat} {tf : xs} {rk : Int32} {rv : Nat → Int64} {σ : xs} {pn : Nat} {τ : Nat → xs} {ks : Nat → Bool} {κ : Nat → xs} {φ : xs → Int32} {hn : Nat} {hf hg : xs} {wn : Nat} {wf wg : xs} (A : xMa K B l h0 h Y th tn tf rk rv σ pn τ ks κ φ hn hf hg wn wf wg)  : xV K B l 0 mX12_denies 0 0 Y [] h (xPi (fun zr g => zr = nI wn ∧ xMa K B l h0 g Y 0 tn tf rk rv σ pn τ ks κ φ hn hf hg 0 wf wg)) := by
  obtain ⟨m, rd, u, v, W, T, Rw, ⟨R, ok, iv⟩, P, Kp, L, H, Sw, hth⟩ := A
  refine (s_mDenies W).post (fun r g q => ?_)
  obtain ⟨zv, rfl, q2, W⟩ := q
  exact ⟨_, rfl, q2.trans Sw.1, ⟨_, _, _, _, W, T, Rw, ⟨R, ok, iv⟩, P, Kp, L, H, ⟨rfl, by omega, fun i hi => absurd hi (by omega)⟩, rfl⟩⟩
theorem a_needs {K : xK} {B : Nat} {l : Launch} {h0 h : xH} {Y : Nat} {th : Int32} {tn : Nat} {tf : xs} {rk : Int32} {rv : Nat → Int64} {σ : xs} {pn : Nat} {τ : Nat → xs} {ks : Nat → Bool} {κ : Nat → xs} {φ : xs → Int32} {hn : Nat} {hf hg : xs} {wn : Nat} {wf wg : xs} (A : xMa K B l h0 h Y th tn tf rk rv σ pn τ ks κ φ hn hf hg wn wf wg)  : xV K B l 4 mX12_needs 0 0 Y [] h (xPi (fun zr g => zr = (if σ 10 + σ 11 = 0 then -2 else hWater σ (hNext σ 0) (hNext σ 1)) ∧ xMa K B l h0 g Y 0 tn tf (if σ 10 + σ 11 = 0 then rk else 2) (if σ 10 + σ 11 = 0 then rv else tl2 rv (wt σ 0 (hNext σ 0)) (wt σ 1 (hNext σ 1))) σ pn τ ks κ φ hn hf hg wn wf wg)) := by
  obtain ⟨m, rd, u, v, W, T, Rw, ⟨R, ok, iv⟩, P, Kp, L, H, Sw, hth⟩ := A
  refine (s_mNeeds W (rr_ok R ok)).post (fun r g q => ?_)
  obtain ⟨zv, rfl, q⟩ := q
  rw [R.1 10 (by omega) (by omega), R.1 11 (by omega) (by omega), rr_nw R, rr_wt R (by decide), rr_wt R (by decide), rr_next R, rr_next R] at q
  by_cases c : σ 10 + σ 11 = 0
  · rw [if_pos c, if_pos c, if_pos c]
    rcases q with ⟨-, q2, W⟩ | ⟨q1, -⟩
    · exact ⟨_, rfl, q2, ⟨_, _, _, _, W, T, Rw, ⟨R, ok, iv⟩, P, Kp, L, H, Sw, rfl⟩⟩
    · exact absurd c q1
  · rw [if_neg c, if_neg c, if_neg c]
    rcases q with ⟨q1, -⟩ | ⟨-, q2, W⟩
    · exact absurd q1 c
    · exact ⟨_, rfl, q2, ⟨_, _, _, _, W, T, maR2 _ _, ⟨R, ok, iv⟩, P, Kp, L, H, Sw, rfl⟩⟩
theorem a_thrown {K : xK} {B : Nat} {l : Launch} {h0 h : xH} {Y : Nat} {th : Int32} {tn : Nat} {tf : xs} {rk : Int32} {rv : Nat → Int64} {σ : xs} {pn : Nat} {τ : Nat → xs} {ks : Nat → Bool} {κ : Nat → xs} {φ : xs → Int32} {hn : Nat} {hf hg : xs} {wn : Nat} {wf wg : xs} (A : xMa K B l h0 h Y th tn tf rk rv σ pn τ ks κ φ hn hf hg wn wf wg)  : xV K B l 0 mX12_thrown 0 0 Y [] h (xPi (fun zr g => zr = th ∧ xMa K B l h0 g Y th tn tf rk rv σ pn τ ks κ φ hn hf hg wn wf wg)) := by
  obtain ⟨m, rd, u, v, W, T, Rw, ⟨R, ok, iv⟩, P, Kp, L, H, Sw, hth⟩ := A
  refine (s_mThrown W).post (fun r g q => ?_)
  obtain ⟨zv, rfl, q2, W⟩ := q
  exact ⟨_, rfl, q2.trans hth, ⟨_, _, _, _, W, T, Rw, ⟨R, ok, iv⟩, P, Kp, L, H, Sw, hth⟩⟩
