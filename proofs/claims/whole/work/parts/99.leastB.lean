/-! The model in the class's words: least, freely (written by wip/whole/mod57.py) -/
def lsU (u : Nat → Nat → Int32) (f6 f5 f4 : xs) : Nat → Nat → Int32 := uu (uu (uu u 16 f6) 15 f5) 14 f4
theorem lsU_n (u : Nat → Nat → Int32) (f6 f5 f4 g5 g4 : xs) : uu (uu (lsU u f6 f5 f4) 15 g5) 14 g4 = lsU u f6 g5 g4 := by
  unfold lsU
  rw [uu_cm (uu (uu u 16 f6) 15 f5) f4 g5 (show 14 ≠ 15 by decide), uu_uu, uu_uu]
theorem lsU_i (u : Nat → Nat → Int32) (f6 f4 : xs) : uu (uu u 16 f6) 14 f4 = lsU u f6 (u 15) f4 := by
  unfold lsU
  have e : uu (uu u 16 f6) 15 (u 15) = uu u 16 f6 := uu_id (uu u 16 f6) 15
  rw [e]
theorem rr_aN {σ μ : xs} (R : rr σ μ) {s : Nat} (hs : s < 2) : aN μ s = aN σ s := by
  unfold aN
  rw [rr_ln R hs]
theorem rr_wg {σ μ : xs} (R : rr σ μ) {i : Nat} (hi : i < 64) : wgV μ i = wgV σ i := by
  unfold wgV
  rw [rr_wt R (by omega), R.1 12 (by omega) (by omega)]
theorem ls_wh {σ : xs} (ok : hOk σ) : aN σ 0 + 32 * aN σ 1 < 1024 := by
  have h0 := (hAll_n ok (s := 0) (by decide)).2
  have h1 := (hAll_n ok (s := 1) (by decide)).2
  omega
set_option maxRecDepth 20000 in
theorem lp_mLst {K : xK} {B : Nat} {l : Launch} {h0 : xH} {Y : Nat} {m : xs} {u : Nat → Nat → Int32} {v : Nat → Int64} {tn : Nat} {tf : xs} {rk : Int32} {rv : Nat → Int64} {σ : xs} {pn : Nat} {τ : Nat → xs} {ks : Nat → Bool} {κ : Nat → xs} {φ : xs → Int32} {hn : Nat} {hf hg : xs} {wn : Nat} {wf wg : xs} (C : maC K B l Y m u v tn tf rk rv σ pn τ ks κ φ hn hf hg wn wf wg) (h5 : m 5 = 0) {rd : Value} {N : Nat} (h5N : N ≤ 5) : ∀ (r k : Nat) {h : xH} {z : Int32 × Int32 × Int32} {f6 f5 f4 : xs} (h4 : fwT σ false (k - 1) f4) (h6 : ∀ i, i < 64 → f6 i = wgV σ i) (W : xMw K h0 h Y (fz m z) rd (Y + 6) (Y + 7) (lsU u f6 f5 f4) v), 1 ≤ k → k + r = N → xT K B l 206 RX12 false cX12_least 3 (some .int) 0 0 0 0 (xPi (fun zr g => zr = (leF rk rv (bst (cnT σ false (N - 1)) 1024)).1 ∧ xMa K B l h0 g Y 0 tn tf ((leF rk rv (bst (cnT σ false (N - 1)) 1024)).2.1) ((leF rk rv (bst (cnT σ false (N - 1)) 1024)).2.2) σ pn τ ks κ φ hn hf hg wn wf wg)) 22 [some (.ref Y), some (.int (nI N)), some (.int (nI k))] [] h := by
  obtain ⟨T, Rw, ⟨R, ok, iv⟩, P, Kp, L, H, Sw⟩ := id C
  intro r
  induction r with
  | zero =>
    intro k h z f6 f5 f4 h4 h6 W h1 hk
    have kN : k = N := by omega
    rw [kN] at h4 ⊢
    refine xr_il2 dX12_least_22 ?_
    refine xr_il1 dX12_least_23 ?_
    refine xr_icmpge (tgt := 38) dX12_least_24 (by decide) (fun zc24 => ?_) (fun zc24 => ?_)
    · skip
      refine xr_al0 dX12_least_38 ?_
      refine xr_al0 dX12_least_39 ?_
      refine xr_Vpi0 (s_mWhole W (rr_ok R ok)) kX12_310 (by decide) (Nat.le_of_ble_eq_true rfl) (Nat.zero_add _) (Nat.zero_add _) dX12_least_40 (fun zv40 zh1 zq1 => ?_)
      obtain ⟨rfl, W⟩ := zq1
      refine xr_eqi (y := nI (aN σ 0 + 32 * aN σ 1)) (by show nI (aN (u 1) 0 + 32 * aN (u 1) 1) = _; rw [rr_aN R (by decide), rr_aN R (by decide)]) ?_
      refine xr_ic0 dX12_least_43 ?_
      refine xr_Vpi2 (s_mLeast W (x := aN σ 0 + 32 * aN σ 1) (ls_wh ok) 0) kX12_313 (by decide) (Nat.le_of_ble_eq_true rfl) (Nat.zero_add _) (Nat.zero_add _) dX12_least_44 (fun zv44 zh2 zq2 => ?_)
      obtain ⟨rfl, W⟩ := zq2
      have hz : loR (lsU u f6 f5 f4) (fz m z) 0 (nI (aN σ 0 + 32 * aN σ 1)) = e3 1000000 (fz m z 27) (fz m z 28) (bst (cnT σ false (N - 1)) 1024) := loR_is iv ok (fr := false) (by simp) (by omega) h4 h6 (R.1 13 (by omega) (by omega))
      refine xr_eqi (y := (e3 1000000 (fz m z 27) (fz m z 28) (bst (cnT σ false (N - 1)) 1024)).1) (congrArg (fun z => z.1) hz) ?_
      refine xr_is2 dX12_least_47 (by decide) rfl ?_
      refine xr_il2 dX12_least_48 ?_
      refine xr_ldcw nX12_300 dX12_least_49 ?_
      refine xr_icmplt (tgt := 60) dX12_least_52 (by decide) (fun zc52 => ?_) (fun zc52 => ?_)
      · skip
        refine xr_al0 dX12_least_60 ?_
        refine xr_il2 dX12_least_61 ?_
        refine xr_Vpi1 (s_mTellFirst W _) kX12_324 (by decide) (Nat.le_of_ble_eq_true rfl) (Nat.zero_add _) (Nat.zero_add _) dX12_least_62 (fun zv62 zh3 zq3 => ?_)
        obtain ⟨rfl, W⟩ := zq3
        refine xr_iret dX12_least_65 rfl ?_
        rcases hb : bst (cnT σ false (N - 1)) 1024 with _ | zz
        · rw [hb] at zc52
          exact absurd zc52 Int32.lt_irrefl
        · rw [hz, hb] at W
          exact ⟨_, rfl, rfl, ⟨_, _, _, _, W, T, maR2 _ _, ⟨R, ok, iv⟩, P, Kp, L, H, Sw, h5⟩⟩
      · skip
        refine xr_bipush (v := (-2)) dX12_least_55 (by decide) ?_
        refine xr_goto (tgt := 65) dX12_least_57 (by decide) ?_
        refine xr_iret dX12_least_65 rfl ?_
        rcases bst_is (cnT σ false (N - 1)) 1024 with ⟨hb, _⟩ | ⟨y, i, hb, _, hc, _⟩
        · rw [hb]
          exact ⟨_, rfl, rfl, ⟨_, _, _, _, W, T, Rw, ⟨R, ok, iv⟩, P, Kp, L, H, Sw, h5⟩⟩
        · have := cnT_b iv ok _ _ hc
          rw [hb] at zc52
          exact absurd (nI_lt (b := 1000000) (a := y) (by omega) (by omega)) zc52
    · skip
      exact absurd (Int32.le_refl _) zc24
  | succ r ih =>
    intro k h z f6 f5 f4 h4 h6 W h1 hk
    refine xr_il2 dX12_least_22 ?_
    refine xr_il1 dX12_least_23 ?_
    refine xr_icmpge (tgt := 38) dX12_least_24 (by decide) (fun zc24 => ?_) (fun zc24 => ?_)
    · skip
      exact absurd zc24 (nI_ge (b := N) (a := k) (by omega) (by omega))
    · skip
      refine xr_al0 dX12_least_27 ?_
      refine xr_ic0 dX12_least_28 ?_
      refine xr_Vpv1 (s_mMore W (rr_ok R ok) 0) kX12_320 (by decide) (Nat.le_of_ble_eq_true rfl) (Nat.zero_add _) (Nat.zero_add _) dX12_least_29 (fun zh1 zq1 => ?_)
      obtain ⟨z', g5, g4, hg4, W⟩ := zq1
      rw [fz_fz, lsU_n] at W
      have hg4 : ∀ i, i < 1024 → g4 i = mwV (lsU u f6 f5 f4) 0 (aN σ 0 + 32 * aN σ 1) i := fun i hi => by
        rw [hg4 i hi, show aN (lsU u f6 f5 f4 1) 0 = aN σ 0 from rr_aN R (by decide), show aN (lsU u f6 f5 f4 1) 1 = aN σ 1 from rr_aN R (by decide)]
      refine xr_inc2 dX12_least_32 (nI_1 k) (by decide) rfl ?_
      refine xr_goto (tgt := 22) dX12_least_35 (by decide) ?_
      refine ih (k + 1) (h4 := ?_) h6 W (by omega) (by omega)
      rw [show k + 1 - 1 = (k - 1) + 1 by omega]
      exact fwT_s iv ok (fr := false) (by simp) (by omega) (u := lsU u f6 f5 f4) h4 h6 (R.1 13 (by omega) (by omega)) hg4
set_option maxRecDepth 20000 in
theorem a_least {K : xK} {B : Nat} {l : Launch} {h0 h : xH} {Y : Nat} {th : Int32} {tn : Nat} {tf : xs} {rk : Int32} {rv : Nat → Int64} {σ : xs} {pn : Nat} {τ : Nat → xs} {ks : Nat → Bool} {κ : Nat → xs} {φ : xs → Int32} {hn : Nat} {hf hg : xs} {wn : Nat} {wf wg : xs} (A : xMa K B l h0 h Y th tn tf rk rv σ pn τ ks κ φ hn hf hg wn wf wg) (nx : xs) (fa fb x : Int32) : xV K B l 206 mX12_least 0 0 (Y) [.int x] h (xPi (fun zr g => zr = (leR σ rk rv nx fa fb x).1 ∧ xMa K B l h0 g Y 0 tn tf ((leR σ rk rv nx fa fb x).2.1) ((leR σ rk rv nx fa fb x).2.2) σ pn τ ks κ φ hn hf hg wn wf wg)) := by
  obtain ⟨m, rd, u, v, W, T, Rw, ⟨R, ok, iv⟩, P, Kp, L, H, Sw, hth⟩ := A
  refine ⟨⟨_, _, _, _, W.o, rfl⟩, qX12_least, ?_⟩
  refine xS.intro RX12 false ⟨rfl, rfl, by decide, by decide, Nat.le_of_ble_eq_true rfl⟩ (ls := [some (.ref Y), some (.int x), none]) rfl ?_
  refine xr_al0 dX12_least_0 ?_
  refine xr_ic0 dX12_least_1 ?_
  refine xr_put W.o fX12_82 (Nat.le_of_ble_eq_true rfl) rfl rfl dX12_least_2 ?_
  refine xT.nm (fun zh1 zg1 => ?_)
  have W := W.f5 zg1
  refine xr_il1 dX12_least_5 ?_
  refine xr_ic1 dX12_least_6 ?_
  refine xr_ic5 dX12_least_7 ?_
  refine xr_Si3 (s_mIn _ _ _) kX12_89 (by decide) (Nat.le_of_ble_eq_true rfl) (Nat.zero_add _) (Nat.zero_add _) dX12_least_8 ?_
  refine xr_ifne (tgt := 16) dX12_least_11 (by decide) (fun zc11 => ?_) (fun zc11 => ?_)
  · skip
    refine xr_al0 dX12_least_16 ?_
    refine xr_Vpv0 (s_mNone W (rr_ok R ok)) kX12_317 (by decide) (Nat.le_of_ble_eq_true rfl) (Nat.zero_add _) (Nat.zero_add _) dX12_least_17 (fun zh2 zq2 => ?_)
    obtain ⟨f6, f4, hf6, hf4, W⟩ := zq2
    rw [lsU_i] at W
    have h6 : ∀ i, i < 64 → f6 i = wgV σ i := fun i hi => (hf6 i hi).trans (rr_wg R hi)
    refine xr_ic1 dX12_least_20 ?_
    refine xr_is2 dX12_least_21 (by decide) rfl ?_
    rcases pk_ix x (n := 6) (by decide) with zx | zx | ⟨N, hN, rfl⟩
    · exact absurd (mIn_0.mpr (Or.inl (Int32.lt_trans zx (by decide)))) zc11
    · exact absurd (mIn_0.mpr (Or.inr (Int32.lt_of_lt_of_le (by decide) zx))) zc11
    · have n1 : 1 ≤ N := by
        rcases Nat.eq_zero_or_pos N with q | q
        · subst q
          exact absurd (mIn_0.mpr (Or.inl (by decide))) zc11
        · exact q
      rw [leR_is iv ok n1 (by omega) nx fa fb]
      have C : maC K B l Y (upd m 5 0) u v tn tf rk rv σ pn τ ks κ φ hn hf hg wn wf wg := ⟨T, Rw, ⟨R, ok, iv⟩, P, Kp, L, H, Sw⟩
      exact lp_mLst C rfl (by omega) (N - 1) 1 (fwT_0 σ false ok hf4) h6 (z := (0, upd m 5 0 27, upd m 5 0 28)) (by rw [fz_id]; exact W) (by omega) (by omega)
  · skip
    refine xr_icm1 dX12_least_14 ?_
    refine xr_iret dX12_least_15 rfl ?_
    have e : (leR σ rk rv nx fa fb x) = _ := if_pos (mIn_0.mp zc11)
    rw [e]
    exact ⟨_, rfl, rfl, ⟨_, _, _, _, W, T, Rw, ⟨R, ok, iv⟩, P, Kp, L, H, Sw, rfl⟩⟩
theorem ls_wt {σ μ : xs} (ok : hOk σ) (R : rr σ μ) : μ 10 + μ 11 = nI (ln σ 0 + ln σ 1) := by
  have a0 : σ 10 = nI (ln σ 0) := (ok.1 0 (by decide)).1
  have a1 : σ 11 = nI (ln σ 1) := (ok.1 1 (by decide)).1
  rw [R.1 10 (by omega) (by omega), R.1 11 (by omega) (by omega), a0, a1, nI_add]
set_option maxRecDepth 20000 in
theorem lp_mFre {K : xK} {B : Nat} {l : Launch} {h0 : xH} {Y : Nat} {m : xs} {u : Nat → Nat → Int32} {v : Nat → Int64} {tn : Nat} {tf : xs} {rk : Int32} {rv : Nat → Int64} {σ : xs} {pn : Nat} {τ : Nat → xs} {ks : Nat → Bool} {κ : Nat → xs} {φ : xs → Int32} {hn : Nat} {hf hg : xs} {wn : Nat} {wf wg : xs} (C : maC K B l Y m u v tn tf rk rv σ pn τ ks κ φ hn hf hg wn wf wg) (h5 : m 5 = 0) {rd : Value} : ∀ (r k : Nat) {h : xH} {z : Int32 × Int32 × Int32} {f6 f5 f4 : xs} (h4 : fwT σ true (k - 1) f4) (h6 : ∀ i, i < 64 → f6 i = wgV σ i) (W : xMw K h0 h Y (fz m z) rd (Y + 6) (Y + 7) (lsU u f6 f5 f4) v), 1 ≤ k → k + r = ln σ 0 + ln σ 1 + 1 → xT K B l 206 RX12 false cX12_freely 2 (some .int) 0 0 0 0 (xPi (fun zr g => zr = (frA σ rk rv r k).1 ∧ xMa K B l h0 g Y 0 tn tf ((frA σ rk rv r k).2.1) ((frA σ rk rv r k).2.2) σ pn τ ks κ φ hn hf hg wn wf wg)) 28 [some (.ref Y), some (.int (nI k))] [] h := by
  obtain ⟨T, Rw, ⟨R, ok, iv⟩, P, Kp, L, H, Sw⟩ := id C
  intro r
  induction r with
  | zero =>
    intro k h z f6 f5 f4 h4 h6 W h1 hk
    have l0 := (ok.1 0 (by decide)).2
    have l1 := (ok.1 1 (by decide)).2
    refine xr_il1 dX12_freely_28 ?_
    refine xr_al0 dX12_freely_29 ?_
    refine xr_get W.o fX12_9 rfl dX12_freely_30 ?_
    refine xr_Si1 (s_mWaits W.a1) kX12_240 (by decide) (Nat.le_of_ble_eq_true rfl) (Nat.zero_add _) (Nat.zero_add _) dX12_freely_33 ?_
    refine xr_eqi (y := nI (ln σ 0 + ln σ 1)) (ls_wt ok R) ?_
    refine xr_icmpgt (tgt := 71) dX12_freely_36 (by decide) (fun zc36 => ?_) (fun zc36 => ?_)
    · skip
      refine xr_bipush (v := (-2)) dX12_freely_71 (by decide) ?_
      refine xr_iret dX12_freely_73 rfl ?_
      exact ⟨_, rfl, rfl, ⟨_, _, _, _, W, T, Rw, ⟨R, ok, iv⟩, P, Kp, L, H, Sw, h5⟩⟩
    · skip
      exact absurd (nI_lt (by omega) (by omega)) zc36
  | succ r ih =>
    intro k h z f6 f5 f4 h4 h6 W h1 hk
    have l0 := (ok.1 0 (by decide)).2
    have l1 := (ok.1 1 (by decide)).2
    refine xr_il1 dX12_freely_28 ?_
    refine xr_al0 dX12_freely_29 ?_
    refine xr_get W.o fX12_9 rfl dX12_freely_30 ?_
    refine xr_Si1 (s_mWaits W.a1) kX12_240 (by decide) (Nat.le_of_ble_eq_true rfl) (Nat.zero_add _) (Nat.zero_add _) dX12_freely_33 ?_
    refine xr_eqi (y := nI (ln σ 0 + ln σ 1)) (ls_wt ok R) ?_
    refine xr_icmpgt (tgt := 71) dX12_freely_36 (by decide) (fun zc36 => ?_) (fun zc36 => ?_)
    · skip
      exact absurd zc36 (nI_nlt (by omega) (by omega))
    · skip
      refine xr_al0 dX12_freely_39 ?_
      refine xr_al0 dX12_freely_40 ?_
      refine xr_Vpi0 (s_mWhole W (rr_ok R ok)) kX12_310 (by decide) (Nat.le_of_ble_eq_true rfl) (Nat.zero_add _) (Nat.zero_add _) dX12_freely_41 (fun zv41 zh1 zq1 => ?_)
      obtain ⟨rfl, W⟩ := zq1
      refine xr_eqi (y := nI (aN σ 0 + 32 * aN σ 1)) (by show nI (aN (u 1) 0 + 32 * aN (u 1) 1) = _; rw [rr_aN R (by decide), rr_aN R (by decide)]) ?_
      refine xr_ic1 dX12_freely_44 ?_
      refine xr_Vpi2 (s_mLeast W (x := aN σ 0 + 32 * aN σ 1) (ls_wh ok) 1) kX12_313 (by decide) (Nat.le_of_ble_eq_true rfl) (Nat.zero_add _) (Nat.zero_add _) dX12_freely_45 (fun zv45 zh2 zq2 => ?_)
      obtain ⟨rfl, W⟩ := zq2
      have hz : loR (lsU u f6 f5 f4) (fz m z) 1 (nI (aN σ 0 + 32 * aN σ 1)) = e3 1000000 (fz m z 27) (fz m z 28) (bst (cnT σ true (k - 1)) 1024) := loR_is iv ok (fr := true) (by decide) (by omega) h4 h6 (R.1 13 (by omega) (by omega))
      rw [fz_fz] at W
      refine xr_eqi (y := (e3 1000000 (fz m z 27) (fz m z 28) (bst (cnT σ true (k - 1)) 1024)).1) (congrArg (fun z => z.1) hz) ?_
      refine xr_ldcw nX12_300 dX12_freely_48 ?_
      refine xr_icmpge (tgt := 60) dX12_freely_51 (by decide) (fun zc51 => ?_) (fun zc51 => ?_)
      · skip
        refine xr_al0 dX12_freely_60 ?_
        refine xr_ic1 dX12_freely_61 ?_
        refine xr_Vpv1 (s_mMore W (rr_ok R ok) 1) kX12_320 (by decide) (Nat.le_of_ble_eq_true rfl) (Nat.zero_add _) (Nat.zero_add _) dX12_freely_62 (fun zh3 zq3 => ?_)
        obtain ⟨z', g5, g4, hg4, W⟩ := zq3
        rw [fz_fz, lsU_n] at W
        have hg4 : ∀ i, i < 1024 → g4 i = mwV (lsU u f6 f5 f4) 1 (aN σ 0 + 32 * aN σ 1) i := fun i hi => by
          rw [hg4 i hi, show aN (lsU u f6 f5 f4 1) 0 = aN σ 0 from rr_aN R (by decide), show aN (lsU u f6 f5 f4 1) 1 = aN σ 1 from rr_aN R (by decide)]
        refine xr_inc1 dX12_freely_65 (nI_1 k) (by decide) rfl ?_
        refine xr_goto (tgt := 28) dX12_freely_68 (by decide) ?_
        rcases bst_is (cnT σ true (k - 1)) 1024 with ⟨hb, _⟩ | ⟨y, i, hb, _, hc, _⟩
        · rw [frA_n hb]
          refine ih (k + 1) (h4 := ?_) h6 W (by omega) (by omega)
          rw [show k + 1 - 1 = (k - 1) + 1 by omega]
          exact fwT_s iv ok (fr := true) (by decide) (by omega) (u := lsU u f6 f5 f4) h4 h6 (R.1 13 (by omega) (by omega)) hg4
        · have := cnT_b iv ok _ _ hc
          rw [hb] at zc51
          exact absurd zc51 (nI_ge (b := 1000000) (a := y) (by omega) (by omega))
      · skip
        refine xr_al0 dX12_freely_54 ?_
        refine xr_il1 dX12_freely_55 ?_
        refine xr_Vpi1 (s_mTellFirst W _) kX12_324 (by decide) (Nat.le_of_ble_eq_true rfl) (Nat.zero_add _) (Nat.zero_add _) dX12_freely_56 (fun zv56 zh3 zq3 => ?_)
        obtain ⟨rfl, W⟩ := zq3
        refine xr_iret dX12_freely_59 rfl ?_
        rcases hb : bst (cnT σ true (k - 1)) 1024 with _ | zz
        · rw [hb] at zc51
          exact absurd (Int32.le_refl _) zc51
        · rw [hz, hb] at W
          rw [frA_y hb]
          exact ⟨_, rfl, rfl, ⟨_, _, _, _, W, T, maR2 _ _, ⟨R, ok, iv⟩, P, Kp, L, H, Sw, h5⟩⟩
set_option maxRecDepth 20000 in
theorem a_freely {K : xK} {B : Nat} {l : Launch} {h0 h : xH} {Y : Nat} {th : Int32} {tn : Nat} {tf : xs} {rk : Int32} {rv : Nat → Int64} {σ : xs} {pn : Nat} {τ : Nat → xs} {ks : Nat → Bool} {κ : Nat → xs} {φ : xs → Int32} {hn : Nat} {hf hg : xs} {wn : Nat} {wf wg : xs} (A : xMa K B l h0 h Y th tn tf rk rv σ pn τ ks κ φ hn hf hg wn wf wg) (nx : xs) (fa fb : Int32) : xV K B l 206 mX12_freely 0 0 (Y) [] h (xPi (fun zr g => zr = (frR σ rk rv nx fa fb).1 ∧ xMa K B l h0 g Y 0 tn tf ((frR σ rk rv nx fa fb).2.1) ((frR σ rk rv nx fa fb).2.2) σ pn τ ks κ φ hn hf hg wn wf wg)) := by
  obtain ⟨m, rd, u, v, W, T, Rw, ⟨R, ok, iv⟩, P, Kp, L, H, Sw, hth⟩ := A
  refine ⟨⟨_, _, _, _, W.o, rfl⟩, qX12_freely, ?_⟩
  refine xS.intro RX12 false ⟨rfl, rfl, by decide, by decide, Nat.le_of_ble_eq_true rfl⟩ (ls := [some (.ref Y), none]) rfl ?_
  refine xr_al0 dX12_freely_0 ?_
  refine xr_ic0 dX12_freely_1 ?_
  refine xr_put W.o fX12_82 (Nat.le_of_ble_eq_true rfl) rfl rfl dX12_freely_2 ?_
  refine xT.nm (fun zh1 zg1 => ?_)
  have W := W.f5 zg1
  refine xr_al0 dX12_freely_5 ?_
  refine xr_get W.o fX12_9 rfl dX12_freely_6 ?_
  refine xr_Si1 (s_mWaits W.a1) kX12_240 (by decide) (Nat.le_of_ble_eq_true rfl) (Nat.zero_add _) (Nat.zero_add _) dX12_freely_9 ?_
  refine xr_eqi (y := σ 10 + σ 11) (rr_sum R) ?_
  refine xr_ifne (tgt := 22) dX12_freely_12 (by decide) (fun zc12 => ?_) (fun zc12 => ?_)
  · skip
    refine xr_al0 dX12_freely_22 ?_
    refine xr_Vpv0 (s_mNone W (rr_ok R ok)) kX12_317 (by decide) (Nat.le_of_ble_eq_true rfl) (Nat.zero_add _) (Nat.zero_add _) dX12_freely_23 (fun zh2 zq2 => ?_)
    obtain ⟨f6, f4, hf6, hf4, W⟩ := zq2
    rw [lsU_i] at W
    have h6 : ∀ i, i < 64 → f6 i = wgV σ i := fun i hi => (hf6 i hi).trans (rr_wg R hi)
    refine xr_ic1 dX12_freely_26 ?_
    refine xr_is1 dX12_freely_27 (by decide) rfl ?_
    rw [frR_is iv ok zc12 nx fa fb]
    have C : maC K B l Y (upd m 5 0) u v tn tf rk rv σ pn τ ks κ φ hn hf hg wn wf wg := ⟨T, Rw, ⟨R, ok, iv⟩, P, Kp, L, H, Sw⟩
    exact lp_mFre C rfl (ln σ 0 + ln σ 1) 1 (fwT_0 σ true ok hf4) h6 (z := (0, upd m 5 0 27, upd m 5 0 28)) (by rw [fz_id]; exact W) (by omega) (by omega)
  · skip
    refine xr_al0 dX12_freely_15 ?_
    refine xr_ic0 dX12_freely_16 ?_
    refine xr_put W.o fX12_86 (Nat.le_of_ble_eq_true rfl) rfl rfl dX12_freely_17 ?_
    refine xT.nm (fun zh2 zg2 => ?_)
    have W := W.f4 zg2
    refine xr_ic0 dX12_freely_20 ?_
    refine xr_iret dX12_freely_21 rfl ?_
    have e : (frR σ rk rv nx fa fb) = _ := if_pos zc12
    rw [e]
    exact ⟨_, rfl, rfl, ⟨_, _, _, _, W, T, maR0, ⟨R, ok, iv⟩, P, Kp, L, H, Sw, rfl⟩⟩
