/-! The model: an act of a day (written by wip/whole/mod38.py) -/
theorem xMz22_of {K : xK} {h0 h : xH} {Y : Nat} {m : Nat → Int32} {ru ot : Nat} {u : Nat → Nat → Int32} {v : Nat → Int64} (S : xMz K h0 h Y m ru ot u v) : xMz22 K h0 h Y m ru ot u v := ⟨m 22, by rw [upd_same]; exact S⟩
theorem mRG_rr {σ w : xs} (R : rr σ w) (x : Int32) : mRG w x = mRG σ x := by
  unfold mRG
  rw [R.1 13 (by omega) (by omega)]
theorem mRS_rr {σ w : xs} (R : rr σ w) (x : Int32) : mRS w x = mRS σ x := by
  unfold mRS
  rw [R.1 12 (by omega) (by omega)]
theorem mRD_rr {σ w : xs} (R : rr σ w) (x : Int32) : mRD w x = mRD σ x := by
  unfold mRD
  rw [R.1 14 (by omega) (by omega)]
theorem gripN {σ : xs} {rk : Int32} {rv : Nat → Int64} {x : Int32} (h : mRG σ x < 0) : (aGrip σ rk rv x).1 < 0 := by
  unfold aGrip
  unfold mRG at h
  by_cases c : x < 0 ∨ 9 < x
  · rw [if_pos c]
    show (-1 : Int32) < 0
    decide
  · rw [if_neg (fun q => c (mIn_0.mp q))] at h
    by_cases d : x = σ 13
    · rw [if_neg c, if_pos d]
      show (-2 : Int32) < 0
      decide
    · rw [if_neg (fun q => d q.symm)] at h
      exact absurd h (by decide)
theorem gripY {σ : xs} {rk : Int32} {rv : Nat → Int64} {x : Int32} (h : ¬ mRG σ x < 0) : aGrip σ rk rv x = (10 + σ 13, upd σ 13 x, rk, rv) ∧ ∃ j : Nat, j ≤ 9 ∧ x = nI j := by
  unfold aGrip
  unfold mRG at h
  by_cases c : x < 0 ∨ 9 < x
  · rw [if_pos (mIn_0.mpr c)] at h
    exact absurd (by decide) h
  · by_cases d : x = σ 13
    · rw [if_neg (fun q => c (mIn_0.mp q)), if_pos d.symm] at h
      exact absurd (by decide) h
    · rw [if_neg c, if_neg d]
      exact ⟨rfl, grip_in c⟩
theorem seatN {σ : xs} {rk : Int32} {rv : Nat → Int64} {x : Int32} (h : mRS σ x < 0) : (aSeats σ rk rv x).1 < 0 := by
  unfold aSeats
  unfold mRS at h
  by_cases c : x < 1 ∨ 3 < x
  · rw [if_pos c]
    show (-1 : Int32) < 0
    decide
  · rw [if_neg (fun q => c (mIn_0.mp q))] at h
    by_cases d : x = σ 12
    · rw [if_neg c, if_pos d]
      show (-2 : Int32) < 0
      decide
    · rw [if_neg (fun q => d q.symm)] at h
      exact absurd h (by decide)
theorem seatY {σ : xs} {rk : Int32} {rv : Nat → Int64} {x : Int32} (h : ¬ mRS σ x < 0) : aSeats σ rk rv x = (10 + σ 12, upd σ 12 x, rk, rv) ∧ ¬ x < 1 ∧ x ≤ 3 := by
  unfold aSeats
  unfold mRS at h
  by_cases c : x < 1 ∨ 3 < x
  · rw [if_pos (mIn_0.mpr c)] at h
    exact absurd (by decide) h
  · by_cases d : x = σ 12
    · rw [if_neg (fun q => c (mIn_0.mp q)), if_pos d.symm] at h
      exact absurd (by decide) h
    · rw [if_neg c, if_neg d]
      exact ⟨rfl, fun q => c (Or.inl q), Int32.not_lt.mp (fun q => c (Or.inr q))⟩
theorem outN {σ : xs} {rk : Int32} {rv : Nat → Int64} {x : Int32} (h : mRD σ x < 0) : (aOut σ rk rv x).1 < 0 := by
  unfold aOut
  unfold mRD at h
  by_cases c : x < 1 ∨ 99 < x
  · rw [if_pos c]
    show (-1 : Int32) < 0
    decide
  · rw [if_neg (fun q => c (mIn_0.mp q))] at h
    by_cases d : σ 14 < x
    · rw [if_neg c, if_pos d]
      show (-2 : Int32) < 0
      decide
    · rw [if_pos (Int32.not_lt.mp d)] at h
      exact absurd h (by decide)
theorem outY {σ : xs} {rk : Int32} {rv : Nat → Int64} {x : Int32} (h : ¬ mRD σ x < 0) : aOut σ rk rv x = (σ 14 - x, upd σ 14 (σ 14 - x), rk, rv) ∧ ¬ σ 14 - x < 0 := by
  unfold aOut
  unfold mRD at h
  by_cases c : x < 1 ∨ 99 < x
  · rw [if_pos (mIn_0.mpr c)] at h
    exact absurd (by decide) h
  · by_cases d : σ 14 < x
    · rw [if_neg (fun q => c (mIn_0.mp q)), if_neg (Int32.not_le.mpr d)] at h
      exact absurd (by decide) h
    · rw [if_neg c, if_neg d]
      exact ⟨rfl, pos_sub (fun q => c (Or.inl q)) d⟩
theorem swapN {σ w : xs} (R : rr σ w) (ok : hOk σ) {rk : Int32} {rv : Nat → Int64} {x y : Int32} (h : mRW w x y < 0) : (aSwap σ rk rv x y).1 < 0 := by
  unfold aSwap
  by_cases c : hHas σ x y
  · rw [if_neg (fun q => q c)]
    unfold mRW at h
    rw [if_neg ((mPar_iff R ok).mpr c)] at h
    obtain ⟨s, k, hs, hk, rfl, rfl⟩ := hHas_at ok c
    have e := ok.1 s hs
    rw [nI_clamp (by omega), R.1 (10 + s) (by omega) (by omega), e.1, nI_1] at h
    rw [hWaits_s hs, e.1, nI_1]
    by_cases d : k + 1 < ln σ s
    · rw [if_neg (fun q => by have := (nI_eq (by omega) (by omega)).mp q; omega)] at h
      exact absurd h (by decide)
    · rw [if_neg (nI_nlt (by omega) (by omega))]
      show (-2 : Int32) < 0
      decide
  · rw [if_pos c]
    show (-1 : Int32) < 0
    decide
theorem swapY {σ w : xs} (R : rr σ w) (ok : hOk σ) (iv : hIv σ) {rk : Int32} {rv : Nat → Int64} {x y : Int32} (h : ¬ mRW w x y < 0) : ∃ s k : Nat, s < 2 ∧ k + 1 < ln σ s ∧ x = nI s ∧ y = nI k ∧ (aSwap σ rk rv x y).2.1 = hExch σ (nI s) (nI k) (nI (k + 1)) ∧ ¬ (aSwap σ rk rv x y).1 < 0 := by
  unfold mRW at h
  by_cases c : hHas σ x y
  · rw [if_neg ((mPar_iff R ok).mpr c)] at h
    obtain ⟨s, k, hs, hk, rfl, rfl⟩ := hHas_at ok c
    have e := ok.1 s hs
    rw [nI_clamp (by omega), R.1 (10 + s) (by omega) (by omega), e.1, nI_1] at h
    by_cases d : k + 1 < ln σ s
    · refine ⟨s, k, hs, d, rfl, rfl, ?_⟩
      have ea : hWat (hExch σ (nI s) (nI k) (nI (k + 1))) (nI s) (nI k) = σ (5 * s + (k + 1)) := by
        have l : ln (hExch σ (nI s) (nI k) (nI (k + 1))) s = ln σ s := by
          rw [hExch_at ok hs hk d, ln_upd _ (by omega), ln_upd _ (by omega)]
        rw [(hWat_at (hOk_exch ok _ _ _) hs (by rw [l]; exact hk)).2, hExch_at ok hs hk d, upd_hi _ _ (by omega), pk_us]
      unfold aSwap
      rw [if_neg (fun q => q c), hWaits_s hs, e.1, nI_1, if_pos (nI_lt d (by omega))]
      refine ⟨rfl, ?_⟩
      show ¬ hWat (hExch σ (nI s) (nI k) (nI (k + 1))) (nI s) (nI k) < 0
      rw [ea]
      exact w19_pos (iv.1 s hs _ d)
    · rw [if_pos (by congr 1; omega)] at h
      exact absurd (by decide) h
  · rw [if_pos (Decidable.not_not.mp (fun z => c ((mPar_iff R ok).mp z)))] at h
    exact absurd (by decide) h
theorem gwN {φ : xs → Int32} {σ : xs} (ok : hOk σ) {rk : Int32} {rv : Nat → Int64} (h : (if σ 10 + σ 11 = 0 then (-2 : Int32) else if hWater σ (hNext σ 0) (hNext σ 1) ≤ σ 14 then 0 else -3) < 0) : (gw φ σ rk rv (hNext σ 0) (hNext σ 1)).1 < 0 := by
  unfold gw
  by_cases c : σ 10 + σ 11 = 0
  · rw [if_pos ((nob_next ok).mpr c)]
    show (-2 : Int32) < 0
    decide
  · rw [if_neg (fun q => c ((nob_next ok).mp q))]
    rw [if_neg c] at h
    by_cases d : hWater σ (hNext σ 0) (hNext σ 1) ≤ σ 14
    · rw [if_pos d] at h
      exact absurd h (by decide)
    · rw [if_pos (Int32.not_le.mp d)]
      show (-3 : Int32) < 0
      decide
theorem gwY {φ : xs → Int32} {σ : xs} (ok : hOk σ) {rk : Int32} {rv : Nat → Int64} (h : ¬ (if σ 10 + σ 11 = 0 then (-2 : Int32) else if hWater σ (hNext σ 0) (hNext σ 1) ≤ σ 14 then 0 else -3) < 0) : ¬ (gw φ σ rk rv (hNext σ 0) (hNext σ 1)).1 < 0 ∧ (gw φ σ rk rv (hNext σ 0) (hNext σ 1)).2.1 = hPass (hTravel σ (hNext σ 0) (hNext σ 1)) (φ (hTravel σ (hNext σ 0) (hNext σ 1))) := by
  unfold gw
  by_cases c : σ 10 + σ 11 = 0
  · rw [if_pos c] at h
    exact absurd (by decide) h
  · rw [if_neg (fun q => c ((nob_next ok).mp q))]
    rw [if_neg c] at h
    by_cases d : hWater σ (hNext σ 0) (hNext σ 1) ≤ σ 14
    · rw [if_neg (Int32.not_lt.mpr d)]
      exact ⟨bc_pos _ _, rfl⟩
    · rw [if_neg d] at h
      exact absurd (by decide) h
set_option maxRecDepth 20000 in
theorem s_mAct {K : xK} {B : Nat} {l : Launch} {h0 h : xH} {Y : Nat} {m : Nat → Int32} {rd : Value} {ru ot : Nat} {u : Nat → Nat → Int32} {v : Nat → Int64} {w σ : xs} {φ : xs → Int32} (W : xMw K h0 h Y m rd ru ot (uu u 1 w) v) (S : mSp K B l Y ru (m 15) (u 6) (u 7) φ) (ok : hOk σ) (iv : hIv σ) (R : rr σ w) (rk : Int32) (rv : Nat → Int64) {c a b : Int32} (hc : c = 42 ∨ c = 103 ∨ c = 108 ∨ c = 110 ∨ c = 115 ∨ c = 120 ∨ c = 111) (ha : c = 110 → ∃ A : Nat, A ≤ 9 ∧ a = nI A) : xV K B l 206 mX12_act 0 0 (Y) [.int c, .int a, .int b] h (xPi (fun zr g => ((acF φ σ rk rv c a b).1 < 0 ∧ zr = 0 ∧ xMz22 K h0 g Y m ru ot (uu u 1 w) v) ∨ (¬ (acF φ σ rk rv c a b).1 < 0 ∧ zr = 1 ∧ ∃ w9, rr (acF φ σ rk rv c a b).2.1 w9 ∧ hOk (acF φ σ rk rv c a b).2.1 ∧ hIv (acF φ σ rk rv c a b).2.1 ∧ xMz22 K h0 g Y m ru ot (uu u 1 w9) v))) := by
  refine ⟨⟨_, _, _, _, W.o, rfl⟩, qX12_act, ?_⟩
  refine xS.intro RX12 false ⟨rfl, rfl, by decide, by decide, Nat.le_of_ble_eq_true rfl⟩ (ls := [some (.ref Y), some (.int c), some (.int a), some (.int b)]) rfl ?_
  refine xr_il1 dX12_act_0 ?_
  rcases hc with rfl | rfl | rfl | rfl | rfl | rfl | rfl
  · skip
    refine xr_lookup (tgt := 60) dX12_act_1 (by decide) rfl (by decide) ?_
    refine xr_al0 dX12_act_60 ?_
    refine xr_get W.o fX12_9 rfl dX12_act_61 ?_
    refine xr_Si1 (s_mRefuses W.a1 (rr_ok R ok)) kX12_257 (by decide) (Nat.le_of_ble_eq_true rfl) (Nat.zero_add _) (Nat.zero_add _) dX12_act_64 ?_
    refine xr_eqi (mRef_rr R) ?_
    refine xr_ifge (tgt := 72) dX12_act_67 (by decide) (fun zc67 => ?_) (fun zc67 => ?_)
    · skip
      refine xr_al0 dX12_act_72 ?_
      refine xr_al0 dX12_act_73 ?_
      refine xr_get W.o fX12_9 rfl dX12_act_74 ?_
      refine xr_Vpi1 (s_mGoNext (Or.inl rfl) W S ok R) kX12_250 (by decide) (Nat.le_of_ble_eq_true rfl) (Nat.zero_add _) (Nat.zero_add _) dX12_act_77 (fun zv77 zh1 zq1 => ?_)
      obtain ⟨rfl, w9, R9, q9⟩ := zq1
      refine xr_pop dX12_act_80 rfl ?_
      refine xr_ic1 dX12_act_81 ?_
      refine xr_zret dX12_act_82 rfl (by first | rfl | decide | assumption) ?_
      obtain ⟨y1, y2⟩ := gwY (φ := φ) ok (rk := rk) (rv := rv) (Int32.not_lt.mpr zc67)
      refine ⟨_, rfl, Or.inr ⟨y1, rfl, w9, ?_⟩⟩
      show rr (gw φ σ rk rv (hNext σ 0) (hNext σ 1)).2.1 w9 ∧ hOk (gw φ σ rk rv (hNext σ 0) (hNext σ 1)).2.1 ∧ hIv (gw φ σ rk rv (hNext σ 0) (hNext σ 1)).2.1 ∧ _
      rw [y2]
      exact ⟨R9, hOk_pass (hOk_travel ok _ _) _, hIv_pass (hIv_travel iv ok _ _) (hOk_travel ok _ _) _, xMz22_of q9⟩
    · skip
      refine xr_ic0 dX12_act_70 ?_
      refine xr_zret dX12_act_71 rfl (by first | rfl | decide | assumption) ?_
      exact ⟨_, rfl, Or.inl ⟨gwN ok (Int32.not_le.mp zc67), rfl, xMz22_of (xMz_of W)⟩⟩
  · skip
    refine xr_lookup (tgt := 95) dX12_act_1 (by decide) rfl (by decide) ?_
    refine xr_al0 dX12_act_95 ?_
    refine xr_il2 dX12_act_96 ?_
    refine xr_Vpi1 (s_mRG W _) kX12_279 (by decide) (Nat.le_of_ble_eq_true rfl) (Nat.zero_add _) (Nat.zero_add _) dX12_act_97 (fun zv97 zh1 zq1 => ?_)
    obtain ⟨rfl, W⟩ := zq1
    refine xr_eqi (mRG_rr R _) ?_
    refine xr_ifge (tgt := 105) dX12_act_100 (by decide) (fun zc100 => ?_) (fun zc100 => ?_)
    · skip
      refine xr_al0 dX12_act_105 ?_
      refine xr_get W.o fX12_9 rfl dX12_act_106 ?_
      refine xr_bipush (v := 13) dX12_act_109 (by decide) ?_
      refine xr_il2 dX12_act_111 ?_
      refine xr_iast W.a1 (xix_lit (j := 13) (by decide)) dX12_act_112 ?_
      refine xT.nm (fun zh2 zg2 => ?_)
      have W := uu1 (W.p1 zg2)
      refine xr_ic1 dX12_act_113 ?_
      refine xr_zret dX12_act_114 rfl (by first | rfl | decide | assumption) ?_
      obtain ⟨y1, j, hj, rfl⟩ := gripY (rk := rk) (rv := rv) (Int32.not_lt.mpr zc100)
      have ps : ¬ (10 + σ 13) < 0 := by obtain ⟨i, hi, ei⟩ := iv.2; rw [ei]; exact ps10 hi
      refine ⟨_, rfl, Or.inr ⟨?_, rfl, _, ?_, ?_, ?_, xMz22_of (xMz_of W)⟩⟩
      · show ¬ (aGrip σ rk rv (nI j)).1 < 0
        rw [y1]
        exact ps
      · show rr (aGrip σ rk rv (nI j)).2.1 _
        rw [y1]
        exact rr_upd R (by decide) _
      · show hOk (aGrip σ rk rv (nI j)).2.1
        rw [y1]
        exact hOk_upd ok (by decide) _
      · show hIv (aGrip σ rk rv (nI j)).2.1
        rw [y1]
        exact hIv_grip iv ok hj
    · skip
      refine xr_ic0 dX12_act_103 ?_
      refine xr_zret dX12_act_104 rfl (by first | rfl | decide | assumption) ?_
      exact ⟨_, rfl, Or.inl ⟨gripN (Int32.not_le.mp zc100), rfl, xMz22_of (xMz_of W)⟩⟩
  · skip
    refine xr_lookup (tgt := 135) dX12_act_1 (by decide) rfl (by decide) ?_
    refine xr_al0 dX12_act_135 ?_
    refine xr_il2 dX12_act_136 ?_
    refine xr_il3 dX12_act_137 ?_
    refine xr_Vpi2 (s_mPar W _ _) kX12_204 (by decide) (Nat.le_of_ble_eq_true rfl) (Nat.zero_add _) (Nat.zero_add _) dX12_act_138 (fun zv138 zh1 zq1 => ?_)
    obtain ⟨rfl, W⟩ := zq1
    refine xr_ifne (tgt := 146) dX12_act_141 (by decide) (fun zc141 => ?_) (fun zc141 => ?_)
    · skip
      have c1 := (mPar_iff R ok).mp zc141
      obtain ⟨s, k, hs, hk, rfl, rfl⟩ := hHas_at ok c1
      refine xr_al0 dX12_act_146 ?_
      refine xr_get W.o fX12_9 rfl dX12_act_147 ?_
      refine xr_il2 dX12_act_150 ?_
      refine xr_ic1 dX12_act_151 ?_
      refine xr_il3 dX12_act_152 ?_
      refine xr_ishl dX12_act_153 ?_
      refine xr_Sv3 (s_mOut W.a1 (rr_ok R ok) hs _) kX12_221 (by decide) (Nat.le_of_ble_eq_true rfl) (Nat.zero_add _) (Nat.zero_add _) dX12_act_154 ?_
      refine xT.nm (fun zh2 zg2 => ?_)
      have W := uu1 (W.p1 zg2)
      refine xr_ic1 dX12_act_157 ?_
      refine xr_zret dX12_act_158 rfl (by first | rfl | decide | assumption) ?_
      have e : aAway σ rk rv (nI s) (nI k) = (hWaits (hTake σ s ((1 : Int32) <<< (nI k &&& 31))) (nI s), hTake σ s ((1 : Int32) <<< (nI k &&& 31)), rk, rv) := by
        unfold aAway
        rw [if_pos c1, nI_clamp (by omega)]
      have ot' := hOk_take ok hs ((1 : Int32) <<< (nI k &&& 31))
      have ps : ¬ hWaits (hTake σ s ((1 : Int32) <<< (nI k &&& 31))) (nI s) < 0 := by
        rw [hWaits_s hs, (ot'.1 s hs).1]
        exact nI_pos (by have := (ot'.1 s hs).2; omega)
      refine ⟨_, rfl, Or.inr ⟨?_, rfl, _, ?_, ?_, ?_, xMz22_of (xMz_of W)⟩⟩
      · show ¬ (aAway σ rk rv (nI s) (nI k)).1 < 0
        rw [e]
        exact ps
      · show rr (aAway σ rk rv (nI s) (nI k)).2.1 _
        rw [e]
        exact rr_take R ok hs _
      · show hOk (aAway σ rk rv (nI s) (nI k)).2.1
        rw [e]
        exact ot'
      · show hIv (aAway σ rk rv (nI s) (nI k)).2.1
        rw [e]
        exact hIv_take iv ok hs _
    · skip
      refine xr_ic0 dX12_act_144 ?_
      refine xr_zret dX12_act_145 rfl (by first | rfl | decide | assumption) ?_
      exact ⟨_, rfl, Or.inl ⟨by show (aAway σ rk rv a b).1 < 0; unfold aAway; rw [if_neg (fun q => (mPar_iff R ok).mpr q zc141)]; show (-1 : Int32) < 0; decide, rfl, xMz22_of (xMz_of W)⟩⟩
  · skip
    refine xr_lookup (tgt := 83) dX12_act_1 (by decide) rfl (by decide) ?_
    obtain ⟨N, hN, rfl⟩ := ha rfl
    refine xr_al0 dX12_act_83 ?_
    refine xr_al0 dX12_act_84 ?_
    refine xr_get W.o fX12_9 rfl dX12_act_85 ?_
    refine xr_il2 dX12_act_88 ?_
    refine xr_Vpi2 (s_mRuns0 (Or.inl rfl) W S ok R (N := N) (by omega)) kX12_276 (by decide) (Nat.le_of_ble_eq_true rfl) (Nat.zero_add _) (Nat.zero_add _) dX12_act_89 (fun zv89 zh1 zq1 => ?_)
    obtain ⟨rfl, w9, R9, q9⟩ := zq1
    refine xr_pop dX12_act_92 rfl ?_
    refine xr_ic1 dX12_act_93 ?_
    refine xr_zret dX12_act_94 rfl (by first | rfl | decide | assumption) ?_
    have e : aRuns φ σ rk rv (nI N) = ((rfN φ N 0 0 σ).1, (rfN φ N 0 0 σ).2.2, 2, tl2 rv (rfN φ N 0 0 σ).2.1 ((rfN φ N 0 0 σ).2.2 14)) := by
      unfold aRuns
      rw [if_neg (fun q => q.elim (nI_pos (by omega)) (nI_nlt (a := 60) (by omega) (by decide))), nI_clamp (by omega)]
    obtain ⟨cc, hcc, ec⟩ := rfN_1 φ N 0 0 σ
    have ec : (rfN φ N 0 0 σ).1 = nI cc := ec
    refine ⟨_, rfl, Or.inr ⟨?_, rfl, w9, ?_⟩⟩
    · show ¬ (aRuns φ σ rk rv (nI N)).1 < 0
      rw [e]
      show ¬ (rfN φ N 0 0 σ).1 < 0
      rw [ec]
      exact nI_pos (by omega)
    · show rr (aRuns φ σ rk rv (nI N)).2.1 w9 ∧ hOk (aRuns φ σ rk rv (nI N)).2.1 ∧ hIv (aRuns φ σ rk rv (nI N)).2.1 ∧ _
      rw [e]
      refine ⟨R9, ?_, ?_, ⟨_, q9⟩⟩
      · rw [rfN_it]
        exact hOk_it φ N ok
      · rw [rfN_it]
        exact hIv_it φ N ok iv
  · skip
    refine xr_lookup (tgt := 115) dX12_act_1 (by decide) rfl (by decide) ?_
    refine xr_al0 dX12_act_115 ?_
    refine xr_il2 dX12_act_116 ?_
    refine xr_Vpi1 (s_mRS W _) kX12_282 (by decide) (Nat.le_of_ble_eq_true rfl) (Nat.zero_add _) (Nat.zero_add _) dX12_act_117 (fun zv117 zh1 zq1 => ?_)
    obtain ⟨rfl, W⟩ := zq1
    refine xr_eqi (mRS_rr R _) ?_
    refine xr_ifge (tgt := 125) dX12_act_120 (by decide) (fun zc120 => ?_) (fun zc120 => ?_)
    · skip
      refine xr_al0 dX12_act_125 ?_
      refine xr_get W.o fX12_9 rfl dX12_act_126 ?_
      refine xr_bipush (v := 12) dX12_act_129 (by decide) ?_
      refine xr_il2 dX12_act_131 ?_
      refine xr_iast W.a1 (xix_lit (j := 12) (by decide)) dX12_act_132 ?_
      refine xT.nm (fun zh2 zg2 => ?_)
      have W := uu1 (W.p1 zg2)
      refine xr_ic1 dX12_act_133 ?_
      refine xr_zret dX12_act_134 rfl (by first | rfl | decide | assumption) ?_
      obtain ⟨y1, y2⟩ := seatY (rk := rk) (rv := rv) (Int32.not_lt.mpr zc120)
      have ps : ¬ (10 + σ 12) < 0 := by rw [ok.2.1]; exact ps10 (by have := ok.2.2.2; omega)
      refine ⟨_, rfl, Or.inr ⟨?_, rfl, _, ?_, ?_, ?_, xMz22_of (xMz_of W)⟩⟩
      · show ¬ (aSeats σ rk rv a).1 < 0
        rw [y1]
        exact ps
      · show rr (aSeats σ rk rv a).2.1 _
        rw [y1]
        exact rr_upd R (by decide) _
      · show hOk (aSeats σ rk rv a).2.1
        rw [y1]
        exact hOk_seats ok y2.1 y2.2
      · show hIv (aSeats σ rk rv a).2.1
        rw [y1]
        exact hIv_upd iv (by decide) (by decide) ok _
    · skip
      refine xr_ic0 dX12_act_123 ?_
      refine xr_zret dX12_act_124 rfl (by first | rfl | decide | assumption) ?_
      exact ⟨_, rfl, Or.inl ⟨seatN (Int32.not_le.mp zc120), rfl, xMz22_of (xMz_of W)⟩⟩
  · skip
    refine xr_lookup (tgt := 159) dX12_act_1 (by decide) rfl (by decide) ?_
    refine xr_al0 dX12_act_159 ?_
    refine xr_il2 dX12_act_160 ?_
    refine xr_il3 dX12_act_161 ?_
    refine xr_Vpi2 (s_mRW W _ _) kX12_285 (by decide) (Nat.le_of_ble_eq_true rfl) (Nat.zero_add _) (Nat.zero_add _) dX12_act_162 (fun zv162 zh1 zq1 => ?_)
    obtain ⟨rfl, W⟩ := zq1
    refine xr_ifge (tgt := 170) dX12_act_165 (by decide) (fun zc165 => ?_) (fun zc165 => ?_)
    · skip
      obtain ⟨s, k, hs, hk, rfl, rfl, y1, y2⟩ := swapY R ok iv (rk := rk) (rv := rv) (Int32.not_lt.mpr zc165)
      have h5' := (ok.1 s hs).2
      refine xr_al0 dX12_act_170 ?_
      refine xr_get W.o fX12_9 rfl dX12_act_171 ?_
      refine xr_ic5 dX12_act_174 ?_
      refine xr_il2 dX12_act_175 ?_
      refine xr_imul dX12_act_176 ?_
      refine xr_eqi (y := nI (5 * s)) (pk_mul 5 s) ?_
      refine xr_il3 dX12_act_177 ?_
      refine xr_iadd dX12_act_178 ?_
      refine xr_eqi (y := nI (5 * s + k)) (nI_add _ _) ?_
      refine xr_ic5 dX12_act_179 ?_
      refine xr_il2 dX12_act_180 ?_
      refine xr_imul dX12_act_181 ?_
      refine xr_eqi (y := nI (5 * s)) (pk_mul 5 s) ?_
      refine xr_il3 dX12_act_182 ?_
      refine xr_iadd dX12_act_183 ?_
      refine xr_eqi (y := nI (5 * s + k)) (nI_add _ _) ?_
      refine xr_ic1 dX12_act_184 ?_
      refine xr_iadd dX12_act_185 ?_
      refine xr_eqi (y := nI (5 * s + (k + 1))) (nI_1 _) ?_
      refine xr_Sv3 (s_mChange W.a1 (i := 5 * s + k) (j := 5 * s + (k + 1)) (by omega) (by omega)) kX12_288 (by decide) (Nat.le_of_ble_eq_true rfl) (Nat.zero_add _) (Nat.zero_add _) dX12_act_186 ?_
      refine xT.nm (fun zh2 zg2 => ?_)
      have W := uu1 (W.p1 zg2)
      refine xr_ic1 dX12_act_189 ?_
      refine xr_zret dX12_act_190 rfl (by first | rfl | decide | assumption) ?_
      refine ⟨_, rfl, Or.inr ⟨y2, rfl, _, ?_, ?_, ?_, xMz22_of (xMz_of W)⟩⟩
      · show rr (aSwap σ rk rv (nI s) (nI k)).2.1 _
        rw [y1]
        exact rr_exch R ok hs (by omega) hk
      · show hOk (aSwap σ rk rv (nI s) (nI k)).2.1
        rw [y1]
        exact hOk_exch ok _ _ _
      · show hIv (aSwap σ rk rv (nI s) (nI k)).2.1
        rw [y1]
        exact hIv_exch iv ok hs (by omega) hk
    · skip
      refine xr_ic0 dX12_act_168 ?_
      refine xr_zret dX12_act_169 rfl (by first | rfl | decide | assumption) ?_
      exact ⟨_, rfl, Or.inl ⟨swapN R ok (Int32.not_le.mp zc165), rfl, xMz22_of (xMz_of W)⟩⟩
  · skip
    refine xr_lookup (off := 190) (tgt := 191) dX12_act_1 (by decide) rfl (by decide) ?_
    refine xr_al0 dX12_act_191 ?_
    refine xr_bipush (v := 10) dX12_act_192 (by decide) ?_
    refine xr_il2 dX12_act_194 ?_
    refine xr_imul dX12_act_195 ?_
    refine xr_il3 dX12_act_196 ?_
    refine xr_iadd dX12_act_197 ?_
    refine xr_Vpi1 (s_mRD W _) kX12_291 (by decide) (Nat.le_of_ble_eq_true rfl) (Nat.zero_add _) (Nat.zero_add _) dX12_act_198 (fun zv198 zh1 zq1 => ?_)
    obtain ⟨rfl, W⟩ := zq1
    refine xr_eqi (mRD_rr R _) ?_
    refine xr_ifge (tgt := 206) dX12_act_201 (by decide) (fun zc201 => ?_) (fun zc201 => ?_)
    · skip
      refine xr_al0 dX12_act_206 ?_
      refine xr_get W.o fX12_9 rfl dX12_act_207 ?_
      refine xr_bipush (v := 14) dX12_act_210 (by decide) ?_
      refine xr_dup2 dX12_act_212 rfl rfl ?_
      refine xr_iald W.a1 (xix_lit (j := 14) (by decide)) dX12_act_213 ?_
      refine xr_eqi (y := σ 14) (R.1 14 (by omega) (by omega)) ?_
      refine xr_bipush (v := 10) dX12_act_214 (by decide) ?_
      refine xr_il2 dX12_act_216 ?_
      refine xr_imul dX12_act_217 ?_
      refine xr_il3 dX12_act_218 ?_
      refine xr_iadd dX12_act_219 ?_
      refine xr_isub dX12_act_220 ?_
      refine xr_iast W.a1 (xix_lit (j := 14) (by decide)) dX12_act_221 ?_
      refine xT.nm (fun zh2 zg2 => ?_)
      have W := uu1 (W.p1 zg2)
      refine xr_ic1 dX12_act_222 ?_
      refine xr_zret dX12_act_223 rfl (by first | rfl | decide | assumption) ?_
      obtain ⟨y1, ps⟩ := outY (rk := rk) (rv := rv) (Int32.not_lt.mpr zc201)
      refine ⟨_, rfl, Or.inr ⟨?_, rfl, _, ?_, ?_, ?_, xMz22_of (xMz_of W)⟩⟩
      · show ¬ (aOut σ rk rv (10 * a + b)).1 < 0
        rw [y1]
        exact ps
      · show rr (aOut σ rk rv (10 * a + b)).2.1 _
        rw [y1]
        exact rr_upd R (by decide) _
      · show hOk (aOut σ rk rv (10 * a + b)).2.1
        rw [y1]
        exact hOk_upd ok (by decide) _
      · show hIv (aOut σ rk rv (10 * a + b)).2.1
        rw [y1]
        exact hIv_upd iv (by decide) (by decide) ok _
    · skip
      refine xr_ic0 dX12_act_204 ?_
      refine xr_zret dX12_act_205 rfl (by first | rfl | decide | assumption) ?_
      exact ⟨_, rfl, Or.inl ⟨outN (Int32.not_le.mp zc201), rfl, xMz22_of (xMz_of W)⟩⟩
