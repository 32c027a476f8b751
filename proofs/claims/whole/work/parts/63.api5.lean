/-! The model in the class's words: running on (written by wip/whole/mod22.py) -/
theorem in_at {x M : Int32} {N : Nat} (hM : M = nI N) (hN : N < 2 ^ 31) (h : ¬ mIn x 0 M = 0) : ∃ j, j ≤ N ∧ x = nI j := by
  obtain ⟨a, b⟩ := mIn_y h
  obtain ⟨j, hj, rfl⟩ := nI_of a
  subst hM
  refine ⟨j, ?_, rfl⟩
  exact Nat.le_of_not_lt (fun z => b (nI_lt z hj))
theorem hOk_it (φ : xs → Int32) : ∀ (r : Nat) {σ : xs}, hOk σ → hOk (itR φ r σ) := by
  intro r
  induction r with
  | zero => intro σ ok; exact ok
  | succ r ih => intro σ ok; exact ih (hOk_run ok φ)
theorem hIv_it (φ : xs → Int32) : ∀ (r : Nat) {σ : xs}, hOk σ → hIv σ → hIv (itR φ r σ) := by
  intro r
  induction r with
  | zero => intro σ _ iv; exact iv
  | succ r ih => intro σ ok iv; exact ih (hOk_run ok φ) (hIv_run iv ok φ)
theorem rfN_it (φ : xs → Int32) : ∀ (r : Nat) (t s : Int32) (σ : xs), (rfN φ r t s σ).2.2 = itR φ r σ := by
  intro r
  induction r with
  | zero => intro t s σ; rfl
  | succ r ih => intro t s σ; rw [rfN_s, ih, itR_s]
theorem rfN_1 (φ : xs → Int32) : ∀ (r a : Nat) (s : Int32) (σ : xs), ∃ c, c ≤ a + r ∧ (rfN φ r (nI a) s σ).1 = nI c := by
  intro r
  induction r with
  | zero => intro a s σ; exact ⟨a, by omega, rfl⟩
  | succ r ih =>
    intro a s σ
    rw [rfN_s]
    split
    · rw [nI_1]
      obtain ⟨c, h1, h2⟩ := ih (a + 1) s (hRun φ σ)
      exact ⟨c, by omega, h2⟩
    · obtain ⟨c, h1, h2⟩ := ih a _ (hRun φ σ)
      exact ⟨c, by omega, h2⟩
theorem run17 (φ : xs → Int32) (γ : xs) (ok : hOk γ) : hRun φ γ 17 = γ 17 + bI (hGo γ) := by
  by_cases c : hGo γ
  · rw [hRun_y c, bI_t c]
    have e : ∀ (σ : xs) (s : Nat) (g : Int32), s < 2 → hOk σ → hTake σ s g 17 = σ 17 := by
      intro σ s g hs ok
      unfold hTake
      rw [upd_hi _ _ (by omega), tk_hi σ g hs (ok.1 s hs).2 (by omega)]
    have o1 : hOk (hT1 γ (hNext γ 0) (hNext γ 1)) := hOk_upd ok (by decide) _
    have o2 : hOk (hT2 (hT1 γ (hNext γ 0) (hNext γ 1)) (hNext γ 0)) := hOk_upd o1 (by decide) _
    have o3 : hOk (hT3 (hT2 (hT1 γ (hNext γ 0) (hNext γ 1)) (hNext γ 0)) (hNext γ 1)) := hOk_upd o2 (by decide) _
    show hTake (hTake (hT3 (hT2 (hT1 γ (hNext γ 0) (hNext γ 1)) (hNext γ 0)) (hNext γ 1)) 0 (hNext γ 0)) 1 (hNext γ 1) 17 + 1 = γ 17 + 1
    rw [e _ 1 _ (by decide) (hOk_take o3 (by decide) _), e _ 0 _ (by decide) o3]
    rfl
  · rw [hRun_n c, bI_f c, Int32.add_zero]
    rfl
theorem rfN_17 (φ : xs → Int32) : ∀ (r : Nat) (t s : Int32) (σ : xs), hOk σ → (rfN φ r t s σ).1 = t + (itR φ r σ 17 - σ 17) := by
  intro r
  induction r with
  | zero =>
    intro t s σ _
    show t = t + (σ 17 - σ 17)
    rw [Int32.sub_self, Int32.add_zero]
  | succ r ih =>
    intro t s σ ok
    rw [rfN_s, ih _ _ _ (hOk_run ok φ), itR_s, run17 φ σ ok]
    by_cases c : hGo σ
    · rw [if_pos c, bI_t c]
      generalize itR φ r (hRun φ σ) 17 = p
      generalize σ 17 = q
      rw [Int32.add_assoc]
      congr 1
      rw [Int32.sub_eq_add_neg, Int32.sub_eq_add_neg, Int32.neg_add, Int32.sub_eq_add_neg]
      rw [Int32.add_comm (-q) (-1), ← Int32.add_assoc p, ← Int32.add_assoc, ← Int32.add_assoc, Int32.add_comm 1 p, Int32.add_assoc p 1 (-1), Int32.add_right_neg, Int32.add_zero]
    · rw [if_neg c, bI_f c, Int32.add_zero]
set_option maxRecDepth 20000 in
theorem a_runs {K : xK} {B : Nat} {l : Launch} {h0 h : xH} {Y : Nat} {th : Int32} {tn : Nat} {tf : xs} {rk : Int32} {rv : Nat → Int64} {σ : xs} {pn : Nat} {τ : Nat → xs} {ks : Nat → Bool} {κ : Nat → xs} {φ : xs → Int32} {hn : Nat} {hf hg : xs} {wn : Nat} {wf wg : xs} (A : xMa K B l h0 h Y th tn tf rk rv σ pn τ ks κ φ hn hf hg wn wf wg) (x : Int32) : xV K B l 206 mX12_runs 0 0 (Y) [.int x] h (xPi (fun zr g => zr = (aRuns φ σ rk rv x).1 ∧ xMa K B l h0 g Y 0 tn tf ((aRuns φ σ rk rv x).2.2.1) ((aRuns φ σ rk rv x).2.2.2) ((aRuns φ σ rk rv x).2.1) (rn_ (aRuns φ σ rk rv x).1 pn) (rt_ (aRuns φ σ rk rv x).1 pn τ σ) ks κ φ hn hf hg wn wf wg)) := by
  obtain ⟨m, rd, u, v, W, T, Rw, ⟨R, ok, iv⟩, P, Kp, L, H, Sw, hth⟩ := A
  refine ⟨⟨_, _, _, _, W.o, rfl⟩, qX12_runs, ?_⟩
  refine xS.intro RX12 false ⟨rfl, rfl, by decide, by decide, Nat.le_of_ble_eq_true rfl⟩ (ls := [some (.ref Y), some (.int x), none]) rfl ?_
  refine xr_al0 dX12_runs_0 ?_
  refine xr_ic0 dX12_runs_1 ?_
  refine xr_put W.o fX12_82 (Nat.le_of_ble_eq_true rfl) rfl rfl dX12_runs_2 ?_
  refine xT.nm (fun zh1 zg1 => ?_)
  have W := W.f5 zg1
  refine xr_il1 dX12_runs_5 ?_
  refine xr_ic0 dX12_runs_6 ?_
  refine xr_bipush (v := 60) dX12_runs_7 (by decide) ?_
  refine xr_Si3 (s_mIn _ _ _) kX12_89 (by decide) (Nat.le_of_ble_eq_true rfl) (Nat.zero_add _) (Nat.zero_add _) dX12_runs_9 ?_
  refine xr_ifne (tgt := 17) dX12_runs_12 (by decide) (fun zc12 => ?_) (fun zc12 => ?_)
  · skip
    obtain ⟨N, hN, rfl⟩ := in_at (N := 60) rfl (by decide) zc12
    refine xr_al0 dX12_runs_17 ?_
    refine xr_al0 dX12_runs_18 ?_
    refine xr_get W.o fX12_9 rfl dX12_runs_19 ?_
    refine xr_Vpv1 (s_mRemN W (n := pn) P.1 P.2.1) kX12_260 (by decide) (Nat.le_of_ble_eq_true rfl) (Nat.zero_add _) (Nat.zero_add _) dX12_runs_22 (fun zh2 zq2 => ?_)
    have W := zq2
    refine xr_al0 dX12_runs_25 ?_
    refine xr_al0 dX12_runs_26 ?_
    refine xr_get W.o fX12_9 rfl dX12_runs_27 ?_
    refine xr_il1 dX12_runs_30 ?_
    refine xr_Vpi2 (s_mRuns0 (Or.inl rfl) (xMw_id1 W) (L _) ok R (N := N) (by omega)) kX12_276 (by decide) (Nat.le_of_ble_eq_true rfl) (Nat.zero_add _) (Nat.zero_add _) dX12_runs_31 (fun zv31 zh3 zq3 => ?_)
    obtain ⟨rfl, w9, R9, q9⟩ := zq3
    obtain ⟨za, zb, zc, zd, ze, zrd, z8, W⟩ := xMz_out (by decide) q9
    refine xr_is2 dX12_runs_34 (by decide) rfl ?_
    refine xr_al0 dX12_runs_35 ?_
    refine xr_ic0 dX12_runs_36 ?_
    refine xr_put W.o fX12_86 (Nat.le_of_ble_eq_true rfl) rfl rfl dX12_runs_37 ?_
    refine xT.nm (fun zh4 zg4 => ?_)
    have W := W.f4 zg4
    refine xr_al0 dX12_runs_40 ?_
    refine xr_al0 dX12_runs_41 ?_
    refine xr_get W.o fX12_270 rfl dX12_runs_42 ?_
    refine xr_eqi (y := (rfN φ N 0 0 σ).2.1) rfl ?_
    refine xr_i2l dX12_runs_45 ?_
    refine xr_Vpv1 (s_mTell W (k := 0) rfl (by decide) _) kX12_253 (by decide) (Nat.le_of_ble_eq_true rfl) (Nat.zero_add _) (Nat.zero_add _) dX12_runs_46 (fun zh5 zq5 => ?_)
    have W := zq5
    refine xr_al0 dX12_runs_49 ?_
    refine xr_al0 dX12_runs_50 ?_
    refine xr_get W.o fX12_9 rfl dX12_runs_51 ?_
    refine xr_bipush (v := 14) dX12_runs_54 (by decide) ?_
    refine xr_iald W.a1 (xix_lit (j := 14) (by decide)) dX12_runs_56 ?_
    refine xr_eqi (y := (rfN φ N 0 0 σ).2.2 14) (R9.1 14 (by omega) (by omega)) ?_
    refine xr_i2l dX12_runs_57 ?_
    refine xr_Vpv1 (s_mTell W (k := 1) rfl (by decide) _) kX12_253 (by decide) (Nat.le_of_ble_eq_true rfl) (Nat.zero_add _) (Nat.zero_add _) dX12_runs_58 (fun zh6 zq6 => ?_)
    have W := zq6
    refine xr_il2 dX12_runs_61 ?_
    refine xr_iret dX12_runs_62 rfl ?_
    have e : (aRuns φ σ rk rv (nI N)) = ((rfN φ N 0 0 σ).1, (rfN φ N 0 0 σ).2.2, 2, tl2 rv (rfN φ N 0 0 σ).2.1 ((rfN φ N 0 0 σ).2.2 14)) := by
      unfold aRuns
      rw [if_neg (fun q => zc12 (mIn_0.mpr q)), nI_clamp (by omega)]
    obtain ⟨c, hc, ec⟩ := rfN_1 φ N 0 0 σ
    have ps : ¬ (rfN φ N 0 0 σ).1 < 0 := by
      rw [show (rfN φ N 0 0 σ).1 = nI c from ec]
      exact nI_pos (by omega)
    rw [e]
    dsimp only
    rw [rn_pos ps, rt_pos ps]
    have on : hOk (rfN φ N 0 0 σ).2.2 := by rw [rfN_it]; exact hOk_it φ N ok
    have ivn : hIv (rfN φ N 0 0 σ).2.2 := by rw [rfN_it]; exact hIv_it φ N ok iv
    exact ⟨_, rfl, rfl, ⟨_, _, _, _, W, T, maR2 _ _, ⟨R9, on, ivn⟩, maP_rem (maP_eq P) ⟨R, ok, iv⟩, Kp, L, H, Sw, rfl⟩⟩
  · skip
    refine xr_icm1 dX12_runs_15 ?_
    refine xr_iret dX12_runs_16 rfl ?_
    have e : (aRuns φ σ rk rv x) = _ := if_pos (mIn_0.mp zc12)
    rw [e]
    dsimp only
    rw [rn_neg (by decide), rt_neg (by decide)]
    exact ⟨_, rfl, rfl, ⟨_, _, _, _, W, T, Rw, ⟨R, ok, iv⟩, P, Kp, L, H, Sw, rfl⟩⟩
set_option maxRecDepth 20000 in
theorem a_later {K : xK} {B : Nat} {l : Launch} {h0 h : xH} {Y : Nat} {th : Int32} {tn : Nat} {tf : xs} {rk : Int32} {rv : Nat → Int64} {σ : xs} {pn : Nat} {τ : Nat → xs} {ks : Nat → Bool} {κ : Nat → xs} {φ : xs → Int32} {hn : Nat} {hf hg : xs} {wn : Nat} {wf wg : xs} (A : xMa K B l h0 h Y th tn tf rk rv σ pn τ ks κ φ hn hf hg wn wf wg) (x : Int32) : xV K B l 206 mX12_later 0 0 (Y) [.int x] h (xPi (fun zr g => zr = (laR φ σ rk rv x).1 ∧ xMa K B l h0 g Y 0 tn tf ((laR φ σ rk rv x).2.1) ((laR φ σ rk rv x).2.2) σ pn τ ks κ φ hn hf hg wn wf wg)) := by
  obtain ⟨m, rd, u, v, W, T, Rw, ⟨R, ok, iv⟩, P, Kp, L, H, Sw, hth⟩ := A
  refine ⟨⟨_, _, _, _, W.o, rfl⟩, qX12_later, ?_⟩
  refine xS.intro RX12 false ⟨rfl, rfl, by decide, by decide, Nat.le_of_ble_eq_true rfl⟩ (ls := [some (.ref Y), some (.int x)]) rfl ?_
  refine xr_al0 dX12_later_0 ?_
  refine xr_ic0 dX12_later_1 ?_
  refine xr_put W.o fX12_82 (Nat.le_of_ble_eq_true rfl) rfl rfl dX12_later_2 ?_
  refine xT.nm (fun zh1 zg1 => ?_)
  have W := W.f5 zg1
  refine xr_il1 dX12_later_5 ?_
  refine xr_ic0 dX12_later_6 ?_
  refine xr_bipush (v := 99) dX12_later_7 (by decide) ?_
  refine xr_Si3 (s_mIn _ _ _) kX12_89 (by decide) (Nat.le_of_ble_eq_true rfl) (Nat.zero_add _) (Nat.zero_add _) dX12_later_9 ?_
  refine xr_ifne (tgt := 17) dX12_later_12 (by decide) (fun zc12 => ?_) (fun zc12 => ?_)
  · skip
    obtain ⟨N, hN, rfl⟩ := in_at (N := 99) rfl (by decide) zc12
    refine xr_al0 dX12_later_17 ?_
    refine xr_get W.o fX12_9 rfl dX12_later_18 ?_
    refine xr_al0 dX12_later_21 ?_
    refine xr_get W.o fX12_42 rfl dX12_later_22 ?_
    refine xr_ic0 dX12_later_25 ?_
    refine xr_Sv3 (s_mLay (k := 0) W.a1 W.a11 (by omega) (by decide) (by decide)) kX12_210 (by decide) (Nat.le_of_ble_eq_true rfl) (Nat.zero_add _) (Nat.zero_add _) dX12_later_26 ?_
    refine xT.nm (fun zh2 zg2 => ?_)
    have W := W.p11 zg2
    have Rt := rr_lay R ok (u 11)
    have okt := ok
    refine xr_al0 dX12_later_29 ?_
    refine xr_al0 dX12_later_30 ?_
    refine xr_get W.o fX12_42 rfl dX12_later_31 ?_
    refine xr_il1 dX12_later_34 ?_
    refine xr_Vpi2 (s_mRuns0 (Or.inr rfl) W (L _) okt Rt (N := N) (by omega)) kX12_276 (by decide) (Nat.le_of_ble_eq_true rfl) (Nat.zero_add _) (Nat.zero_add _) dX12_later_35 (fun zv35 zh3 zq3 => ?_)
    obtain ⟨rfl, w9, R9, q9⟩ := zq3
    obtain ⟨za, zb, zc, zd, ze, zrd, z8, W⟩ := xMz_out (by decide) q9
    rw [rfN_it] at R9
    refine xr_pop dX12_later_38 rfl ?_
    refine xr_al0 dX12_later_39 ?_
    refine xr_ic0 dX12_later_40 ?_
    refine xr_put W.o fX12_86 (Nat.le_of_ble_eq_true rfl) rfl rfl dX12_later_41 ?_
    refine xT.nm (fun zh4 zg4 => ?_)
    have W := W.f4 zg4
    refine xr_al0 dX12_later_44 ?_
    refine xr_al0 dX12_later_45 ?_
    refine xr_get W.o fX12_42 rfl dX12_later_46 ?_
    refine xr_bipush (v := 15) dX12_later_49 (by decide) ?_
    refine xr_iald W.a11 (xix_lit (j := 15) (by decide)) dX12_later_51 ?_
    refine xr_eqi (y := itR φ N σ 15) (R9.1 15 (by omega) (by omega)) ?_
    refine xr_i2l dX12_later_52 ?_
    refine xr_Vpv1 (s_mTell W (k := 0) rfl (by decide) _) kX12_253 (by decide) (Nat.le_of_ble_eq_true rfl) (Nat.zero_add _) (Nat.zero_add _) dX12_later_53 (fun zh5 zq5 => ?_)
    have W := zq5
    refine xr_al0 dX12_later_56 ?_
    refine xr_al0 dX12_later_57 ?_
    refine xr_get W.o fX12_42 rfl dX12_later_58 ?_
    refine xr_bipush (v := 16) dX12_later_61 (by decide) ?_
    refine xr_iald W.a11 (xix_lit (j := 16) (by decide)) dX12_later_63 ?_
    refine xr_eqi (y := itR φ N σ 16) (R9.1 16 (by omega) (by omega)) ?_
    refine xr_i2l dX12_later_64 ?_
    refine xr_Vpv1 (s_mTell W (k := 1) rfl (by decide) _) kX12_253 (by decide) (Nat.le_of_ble_eq_true rfl) (Nat.zero_add _) (Nat.zero_add _) dX12_later_65 (fun zh6 zq6 => ?_)
    have W := zq6
    refine xr_al0 dX12_later_68 ?_
    refine xr_al0 dX12_later_69 ?_
    refine xr_get W.o fX12_42 rfl dX12_later_70 ?_
    refine xr_bipush (v := 10) dX12_later_73 (by decide) ?_
    refine xr_iald W.a11 (xix_lit (j := 10) (by decide)) dX12_later_75 ?_
    refine xr_eqi (y := itR φ N σ 10) (R9.1 10 (by omega) (by omega)) ?_
    refine xr_i2l dX12_later_76 ?_
    refine xr_Vpv1 (s_mTell W (k := 2) rfl (by decide) _) kX12_253 (by decide) (Nat.le_of_ble_eq_true rfl) (Nat.zero_add _) (Nat.zero_add _) dX12_later_77 (fun zh7 zq7 => ?_)
    have W := zq7
    refine xr_al0 dX12_later_80 ?_
    refine xr_al0 dX12_later_81 ?_
    refine xr_get W.o fX12_42 rfl dX12_later_82 ?_
    refine xr_bipush (v := 11) dX12_later_85 (by decide) ?_
    refine xr_iald W.a11 (xix_lit (j := 11) (by decide)) dX12_later_87 ?_
    refine xr_eqi (y := itR φ N σ 11) (R9.1 11 (by omega) (by omega)) ?_
    refine xr_i2l dX12_later_88 ?_
    refine xr_Vpv1 (s_mTell W (k := 3) rfl (by decide) _) kX12_253 (by decide) (Nat.le_of_ble_eq_true rfl) (Nat.zero_add _) (Nat.zero_add _) dX12_later_89 (fun zh8 zq8 => ?_)
    have W := zq8
    refine xr_al0 dX12_later_92 ?_
    refine xr_get W.o fX12_42 rfl dX12_later_93 ?_
    refine xr_bipush (v := 14) dX12_later_96 (by decide) ?_
    refine xr_iald W.a11 (xix_lit (j := 14) (by decide)) dX12_later_98 ?_
    refine xr_eqi (y := itR φ N σ 14) (R9.1 14 (by omega) (by omega)) ?_
    refine xr_iret dX12_later_99 rfl ?_
    have e : (laR φ σ rk rv (nI N)) = (itR φ N σ 14, 4, tl4 rv (itR φ N σ 15) (itR φ N σ 16) (itR φ N σ 10) (itR φ N σ 11)) := by
      unfold laR
      rw [if_neg (fun q => zc12 (mIn_0.mpr q)), nI_clamp (by omega)]
      rfl
    rw [e]
    exact ⟨_, rfl, rfl, ⟨_, _, _, _, W, T, maR4 _ _ _ _, ⟨R, ok, iv⟩, P, Kp, L, H, Sw, rfl⟩⟩
  · skip
    refine xr_icm1 dX12_later_15 ?_
    refine xr_iret dX12_later_16 rfl ?_
    have e : (laR φ σ rk rv x) = _ := if_pos (mIn_0.mp zc12)
    rw [e]
    exact ⟨_, rfl, rfl, ⟨_, _, _, _, W, T, Rw, ⟨R, ok, iv⟩, P, Kp, L, H, Sw, rfl⟩⟩
set_option maxRecDepth 20000 in
theorem lp_mDry {K : xK} {B : Nat} {l : Launch} {h0 : xH} {Y : Nat} {m : xs} {u : Nat → Nat → Int32} {v : Nat → Int64} {tn : Nat} {tf : xs} {rk : Int32} {rv : Nat → Int64} {σ : xs} {pn : Nat} {τ : Nat → xs} {ks : Nat → Bool} {κ : Nat → xs} {φ : xs → Int32} {hn : Nat} {hf hg : xs} {wn : Nat} {wf wg : xs} (C : maC K B l Y m u v tn tf rk rv σ pn τ ks κ φ hn hf hg wn wf wg) (h5 : m 5 = 0) (x : Int32) : ∀ (r k : Nat)  {h : xH} {w γ : xs} (okt : hOk γ) (Rt : rr γ w) (q9 : xMz K h0 h Y m (Y + 6) (Y + 7) (uu u 11 w) v), k + r = 100 → xT K B l 206 RX12 false cX12_dry 3 (some .int) 0 0 0 0 (xPi (fun zr g => zr = (dyN φ rk rv x r k γ).1 ∧ xMa K B l h0 g Y 0 tn tf ((dyN φ rk rv x r k γ).2.1) ((dyN φ rk rv x r k γ).2.2) σ pn τ ks κ φ hn hf hg wn wf wg)) 32 [some (.ref Y), some (.int x), some (.int (nI k))] [] h := by
  obtain ⟨T, Rw, ⟨R, ok, iv⟩, P, Kp, L, H, Sw⟩ := id C
  intro r
  induction r with
  | zero =>
    intro k  h w γ okt Rt q9 hk
    obtain ⟨za, zb, zc, zd, ze, zrd, z8, W⟩ := xMz_out (by decide) q9
    refine xr_il2 dX12_dry_32 ?_
    refine xr_bipush (v := 99) dX12_dry_33 (by decide) ?_
    refine xr_icmpgt (tgt := 83) dX12_dry_35 (by decide) (fun zc35 => ?_) (fun zc35 => ?_)
    · skip
      refine xr_bipush (v := (-2)) dX12_dry_83 (by decide) ?_
      refine xr_iret dX12_dry_85 rfl ?_
      exact ⟨_, rfl, rfl, ⟨_, _, _, _, W, T, Rw, ⟨R, ok, iv⟩, P, Kp, L, H, Sw, h5⟩⟩
    · skip
      exact absurd (nI_lt (a := 99) (by omega) (by omega)) zc35
  | succ r ih =>
    intro k  h w γ okt Rt q9 hk
    obtain ⟨za, zb, zc, zd, ze, zrd, z8, W⟩ := xMz_out (by decide) q9
    refine xr_il2 dX12_dry_32 ?_
    refine xr_bipush (v := 99) dX12_dry_33 (by decide) ?_
    refine xr_icmpgt (tgt := 83) dX12_dry_35 (by decide) (fun zc35 => ?_) (fun zc35 => ?_)
    · skip
      exact absurd zc35 (nI_nlt (a := 99) (by omega) (by decide))
    · skip
      refine xr_al0 dX12_dry_38 ?_
      refine xr_get W.o fX12_42 rfl dX12_dry_39 ?_
      refine xr_bipush (v := 14) dX12_dry_42 (by decide) ?_
      refine xr_iald W.a11 (xix_lit (j := 14) (by decide)) dX12_dry_44 ?_
      refine xr_eqi (y := γ 14) (Rt.1 14 (by omega) (by omega)) ?_
      refine xr_il1 dX12_dry_45 ?_
      refine xr_icmpge (tgt := 68) dX12_dry_46 (by decide) (fun zc46 => ?_) (fun zc46 => ?_)
      · skip
        refine xr_al0 dX12_dry_68 ?_
        refine xr_al0 dX12_dry_69 ?_
        refine xr_get W.o fX12_42 rfl dX12_dry_70 ?_
        refine xr_Vpi1 (s_mGo (Or.inr rfl) W (L _) okt Rt) kX12_273 (by decide) (Nat.le_of_ble_eq_true rfl) (Nat.zero_add _) (Nat.zero_add _) dX12_dry_73 (fun zv73 zh1 zq1 => ?_)
        obtain ⟨rfl, w9, R9, q9⟩ := zq1
        have q9 := xMz_jj (by decide) q9
        have okn := hOk_run okt φ
        obtain ⟨za, zb, zc, zd, ze, zrd, z8, W⟩ := xMz_out (by decide) q9
        refine xr_pop dX12_dry_76 rfl ?_
        refine xr_inc2 dX12_dry_77 (nI_inc k) (by decide) rfl ?_
        refine xr_goto (tgt := 32) dX12_dry_80 (by decide) ?_
        rw [(dyN_s φ rk rv x r k γ).trans (if_neg (Int32.not_lt.mpr zc46))]
        exact ih (k + 1) okn R9 q9 (by omega)
      · skip
        refine xr_al0 dX12_dry_49 ?_
        refine xr_ic0 dX12_dry_50 ?_
        refine xr_put W.o fX12_86 (Nat.le_of_ble_eq_true rfl) rfl rfl dX12_dry_51 ?_
        refine xT.nm (fun zh1 zg1 => ?_)
        have W := W.f4 zg1
        refine xr_al0 dX12_dry_54 ?_
        refine xr_al0 dX12_dry_55 ?_
        refine xr_get W.o fX12_42 rfl dX12_dry_56 ?_
        refine xr_bipush (v := 14) dX12_dry_59 (by decide) ?_
        refine xr_iald W.a11 (xix_lit (j := 14) (by decide)) dX12_dry_61 ?_
        refine xr_eqi (y := γ 14) (Rt.1 14 (by omega) (by omega)) ?_
        refine xr_i2l dX12_dry_62 ?_
        refine xr_Vpv1 (s_mTell W (k := 0) rfl (by decide) _) kX12_253 (by decide) (Nat.le_of_ble_eq_true rfl) (Nat.zero_add _) (Nat.zero_add _) dX12_dry_63 (fun zh2 zq2 => ?_)
        have W := zq2
        refine xr_il2 dX12_dry_66 ?_
        refine xr_iret dX12_dry_67 rfl ?_
        have e := (dyN_s φ rk rv x r k γ).trans (if_pos (Int32.not_le.mp zc46))
        rw [e]
        exact ⟨_, rfl, rfl, ⟨_, _, _, _, W, T, maR1 _, ⟨R, ok, iv⟩, P, Kp, L, H, Sw, h5⟩⟩
set_option maxRecDepth 20000 in
theorem a_dry {K : xK} {B : Nat} {l : Launch} {h0 h : xH} {Y : Nat} {th : Int32} {tn : Nat} {tf : xs} {rk : Int32} {rv : Nat → Int64} {σ : xs} {pn : Nat} {τ : Nat → xs} {ks : Nat → Bool} {κ : Nat → xs} {φ : xs → Int32} {hn : Nat} {hf hg : xs} {wn : Nat} {wf wg : xs} (A : xMa K B l h0 h Y th tn tf rk rv σ pn τ ks κ φ hn hf hg wn wf wg) (x : Int32) : xV K B l 206 mX12_dry 0 0 (Y) [.int x] h (xPi (fun zr g => zr = (dyR φ σ rk rv x).1 ∧ xMa K B l h0 g Y 0 tn tf ((dyR φ σ rk rv x).2.1) ((dyR φ σ rk rv x).2.2) σ pn τ ks κ φ hn hf hg wn wf wg)) := by
  obtain ⟨m, rd, u, v, W, T, Rw, ⟨R, ok, iv⟩, P, Kp, L, H, Sw, hth⟩ := A
  refine ⟨⟨_, _, _, _, W.o, rfl⟩, qX12_dry, ?_⟩
  refine xS.intro RX12 false ⟨rfl, rfl, by decide, by decide, Nat.le_of_ble_eq_true rfl⟩ (ls := [some (.ref Y), some (.int x), none]) rfl ?_
  refine xr_al0 dX12_dry_0 ?_
  refine xr_ic0 dX12_dry_1 ?_
  refine xr_put W.o fX12_82 (Nat.le_of_ble_eq_true rfl) rfl rfl dX12_dry_2 ?_
  refine xT.nm (fun zh1 zg1 => ?_)
  have W := W.f5 zg1
  refine xr_il1 dX12_dry_5 ?_
  refine xr_ic0 dX12_dry_6 ?_
  refine xr_sipush (v := 999) dX12_dry_7 (by decide) ?_
  refine xr_Si3 (s_mIn _ _ _) kX12_89 (by decide) (Nat.le_of_ble_eq_true rfl) (Nat.zero_add _) (Nat.zero_add _) dX12_dry_10 ?_
  refine xr_ifne (tgt := 18) dX12_dry_13 (by decide) (fun zc13 => ?_) (fun zc13 => ?_)
  · skip
    refine xr_al0 dX12_dry_18 ?_
    refine xr_get W.o fX12_9 rfl dX12_dry_19 ?_
    refine xr_al0 dX12_dry_22 ?_
    refine xr_get W.o fX12_42 rfl dX12_dry_23 ?_
    refine xr_ic0 dX12_dry_26 ?_
    refine xr_Sv3 (s_mLay (k := 0) W.a1 W.a11 (by omega) (by decide) (by decide)) kX12_210 (by decide) (Nat.le_of_ble_eq_true rfl) (Nat.zero_add _) (Nat.zero_add _) dX12_dry_27 ?_
    refine xT.nm (fun zh2 zg2 => ?_)
    have W := W.p11 zg2
    have Rt := rr_lay R ok (u 11)
    have okt := ok
    refine xr_ic0 dX12_dry_30 ?_
    refine xr_is2 dX12_dry_31 (by decide) rfl ?_
    have e : (dyR φ σ rk rv x) = _ := if_neg (fun q => zc13 (mIn_0.mpr q))
    rw [e]
    have C : maC K B l Y (upd m 5 0) u v tn tf rk rv σ pn τ ks κ φ hn hf hg wn wf wg := ⟨T, Rw, ⟨R, ok, iv⟩, P, Kp, L, H, Sw⟩
    exact lp_mDry C rfl x 100 0 okt Rt (xMz_of W) rfl
  · skip
    refine xr_icm1 dX12_dry_16 ?_
    refine xr_iret dX12_dry_17 rfl ?_
    have e : (dyR φ σ rk rv x) = _ := if_pos (mIn_0.mp zc13)
    rw [e]
    exact ⟨_, rfl, rfl, ⟨_, _, _, _, W, T, Rw, ⟨R, ok, iv⟩, P, Kp, L, H, Sw, rfl⟩⟩
def doE (σ : xs) (rk : Int32) (rv : Nat → Int64) (z : Nat × xs) : AR := if 99 < z.1 then (-2, rk, rv) else (nI z.1, 2, tl2 rv (z.2 14) (z.2 17 - σ 17))
theorem doE_y (σ : xs) (rk : Int32) (rv : Nat → Int64) {k : Nat} (γ : xs) (h : k ≤ 99) : doE σ rk rv (k, γ) = (nI k, 2, tl2 rv (γ 14) (γ 17 - σ 17)) := if_neg (by show ¬ 99 < k; omega)
theorem sub_1 (a b : Int32) : a + 1 - b = (a - b) + 1 := by
  rw [Int32.sub_eq_add_neg, Int32.sub_eq_add_neg, Int32.add_assoc, Int32.add_comm 1, ← Int32.add_assoc]
set_option maxRecDepth 20000 in
theorem lp_mDone {K : xK} {B : Nat} {l : Launch} {h0 : xH} {Y : Nat} {m : xs} {u : Nat → Nat → Int32} {v : Nat → Int64} {tn : Nat} {tf : xs} {rk : Int32} {rv : Nat → Int64} {σ : xs} {pn : Nat} {τ : Nat → xs} {ks : Nat → Bool} {κ : Nat → xs} {φ : xs → Int32} {hn : Nat} {hf hg : xs} {wn : Nat} {wf wg : xs} (C : maC K B l Y m u v tn tf rk rv σ pn τ ks κ φ hn hf hg wn wf wg) (h5 : m 5 = 0)  : ∀ (r k : Nat) {t : Int32} {h : xH} {w γ : xs} (ht : t = γ 17 - σ 17) (okt : hOk γ) (Rt : rr γ w) (q9 : xMz K h0 h Y m (Y + 6) (Y + 7) (uu u 11 w) v), k + r = 99 → xT K B l 206 RX12 false cX12_done 3 (some .int) 0 0 0 0 (xPi (fun zr g => zr = (doE σ rk rv (rtN φ r k γ)).1 ∧ xMa K B l h0 g Y 0 tn tf ((doE σ rk rv (rtN φ r k γ)).2.1) ((doE σ rk rv (rtN φ r k γ)).2.2) σ pn τ ks κ φ hn hf hg wn wf wg)) 21 [some (.ref Y), some (.int t), some (.int (nI k))] [] h := by
  obtain ⟨T, Rw, ⟨R, ok, iv⟩, P, Kp, L, H, Sw⟩ := id C
  intro r
  induction r with
  | zero =>
    intro k t h w γ ht okt Rt q9 hk
    obtain ⟨za, zb, zc, zd, ze, zrd, z8, W⟩ := xMz_out (by decide) q9
    refine xr_il2 dX12_done_21 ?_
    refine xr_bipush (v := 99) dX12_done_22 (by decide) ?_
    refine xr_icmpgt (tgt := 87) dX12_done_24 (by decide) (fun zc24 => ?_) (fun zc24 => ?_)
    · skip
      exact absurd zc24 (nI_nlt (a := 99) (by omega) (by decide))
    · skip
      refine xr_al0 dX12_done_27 ?_
      refine xr_get W.o fX12_42 rfl dX12_done_28 ?_
      refine xr_Si1 (s_mWaits W.a11) kX12_240 (by decide) (Nat.le_of_ble_eq_true rfl) (Nat.zero_add _) (Nat.zero_add _) dX12_done_31 ?_
      refine xr_eqi (y := γ 10 + γ 11) (rr_sum Rt) ?_
      refine xr_ifne (tgt := 62) dX12_done_34 (by decide) (fun zc34 => ?_) (fun zc34 => ?_)
      · skip
        refine xr_il1 dX12_done_62 ?_
        refine xr_al0 dX12_done_63 ?_
        refine xr_al0 dX12_done_64 ?_
        refine xr_get W.o fX12_42 rfl dX12_done_65 ?_
        refine xr_Vpi1 (s_mGo (Or.inr rfl) W (L _) okt Rt) kX12_273 (by decide) (Nat.le_of_ble_eq_true rfl) (Nat.zero_add _) (Nat.zero_add _) dX12_done_68 (fun zv68 zh1 zq1 => ?_)
        obtain ⟨rfl, w9, R9, q9⟩ := zq1
        have q9 := xMz_jj (by decide) q9
        have okn := hOk_run okt φ
        obtain ⟨za, zb, zc, zd, ze, zrd, z8, W⟩ := xMz_out (by decide) q9
        refine xr_ifeq (tgt := 78) dX12_done_71 (by decide) (fun zc71 => ?_) (fun zc71 => ?_)
        · skip
          refine xr_ic0 dX12_done_78 ?_
          refine xr_iadd dX12_done_79 ?_
          refine xr_is1 dX12_done_80 (by decide) rfl ?_
          refine xr_inc2 dX12_done_81 (nI_inc k) (by decide) rfl ?_
          refine xr_goto (tgt := 21) dX12_done_84 (by decide) ?_
          refine xr_il2 dX12_done_21 ?_
          refine xr_bipush (v := 99) dX12_done_22 (by decide) ?_
          refine xr_icmpgt (tgt := 87) dX12_done_24 (by decide) (fun zc24 => ?_) (fun zc24 => ?_)
          · skip
            refine xr_bipush (v := (-2)) dX12_done_87 (by decide) ?_
            refine xr_iret dX12_done_89 rfl ?_
            rw [rtN_0, if_neg zc34]
            have e : (doE σ rk rv (k + 1, γ)) = (-2, rk, rv) := if_pos (by show 99 < k + 1; omega)
            rw [e]
            exact ⟨_, rfl, rfl, ⟨_, _, _, _, W, T, Rw, ⟨R, ok, iv⟩, P, Kp, L, H, Sw, h5⟩⟩
          · skip
            exact absurd (nI_lt (a := 99) (by omega) (by omega)) zc24
        · skip
          refine xr_ic1 dX12_done_74 ?_
          refine xr_goto (tgt := 79) dX12_done_75 (by decide) ?_
          refine xr_iadd dX12_done_79 ?_
          refine xr_is1 dX12_done_80 (by decide) rfl ?_
          refine xr_inc2 dX12_done_81 (nI_inc k) (by decide) rfl ?_
          refine xr_goto (tgt := 21) dX12_done_84 (by decide) ?_
          refine xr_il2 dX12_done_21 ?_
          refine xr_bipush (v := 99) dX12_done_22 (by decide) ?_
          refine xr_icmpgt (tgt := 87) dX12_done_24 (by decide) (fun zc24 => ?_) (fun zc24 => ?_)
          · skip
            refine xr_bipush (v := (-2)) dX12_done_87 (by decide) ?_
            refine xr_iret dX12_done_89 rfl ?_
            rw [rtN_0, if_neg zc34]
            have e : (doE σ rk rv (k + 1, γ)) = (-2, rk, rv) := if_pos (by show 99 < k + 1; omega)
            rw [e]
            exact ⟨_, rfl, rfl, ⟨_, _, _, _, W, T, Rw, ⟨R, ok, iv⟩, P, Kp, L, H, Sw, h5⟩⟩
          · skip
            exact absurd (nI_lt (a := 99) (by omega) (by omega)) zc24
      · skip
        refine xr_al0 dX12_done_37 ?_
        refine xr_ic0 dX12_done_38 ?_
        refine xr_put W.o fX12_86 (Nat.le_of_ble_eq_true rfl) rfl rfl dX12_done_39 ?_
        refine xT.nm (fun zh1 zg1 => ?_)
        have W := W.f4 zg1
        refine xr_al0 dX12_done_42 ?_
        refine xr_al0 dX12_done_43 ?_
        refine xr_get W.o fX12_42 rfl dX12_done_44 ?_
        refine xr_bipush (v := 14) dX12_done_47 (by decide) ?_
        refine xr_iald W.a11 (xix_lit (j := 14) (by decide)) dX12_done_49 ?_
        refine xr_eqi (y := γ 14) (Rt.1 14 (by omega) (by omega)) ?_
        refine xr_i2l dX12_done_50 ?_
        refine xr_Vpv1 (s_mTell W (k := 0) rfl (by decide) _) kX12_253 (by decide) (Nat.le_of_ble_eq_true rfl) (Nat.zero_add _) (Nat.zero_add _) dX12_done_51 (fun zh2 zq2 => ?_)
        have W := zq2
        refine xr_al0 dX12_done_54 ?_
        refine xr_il1 dX12_done_55 ?_
        refine xr_i2l dX12_done_56 ?_
        refine xr_Vpv1 (s_mTell W (k := 1) rfl (by decide) _) kX12_253 (by decide) (Nat.le_of_ble_eq_true rfl) (Nat.zero_add _) (Nat.zero_add _) dX12_done_57 (fun zh3 zq3 => ?_)
        have W := zq3
        refine xr_il2 dX12_done_60 ?_
        refine xr_iret dX12_done_61 rfl ?_
        have e := (congrArg (doE σ rk rv) ((rtN_0 φ k γ).trans (if_pos zc34))).trans (doE_y σ rk rv γ (by omega))
        rw [e]
        exact ⟨_, rfl, rfl, ⟨_, _, _, _, W, T, maR2e rfl ht, ⟨R, ok, iv⟩, P, Kp, L, H, Sw, h5⟩⟩
  | succ r ih =>
    intro k t h w γ ht okt Rt q9 hk
    obtain ⟨za, zb, zc, zd, ze, zrd, z8, W⟩ := xMz_out (by decide) q9
    refine xr_il2 dX12_done_21 ?_
    refine xr_bipush (v := 99) dX12_done_22 (by decide) ?_
    refine xr_icmpgt (tgt := 87) dX12_done_24 (by decide) (fun zc24 => ?_) (fun zc24 => ?_)
    · skip
      exact absurd zc24 (nI_nlt (a := 99) (by omega) (by decide))
    · skip
      refine xr_al0 dX12_done_27 ?_
      refine xr_get W.o fX12_42 rfl dX12_done_28 ?_
      refine xr_Si1 (s_mWaits W.a11) kX12_240 (by decide) (Nat.le_of_ble_eq_true rfl) (Nat.zero_add _) (Nat.zero_add _) dX12_done_31 ?_
      refine xr_eqi (y := γ 10 + γ 11) (rr_sum Rt) ?_
      refine xr_ifne (tgt := 62) dX12_done_34 (by decide) (fun zc34 => ?_) (fun zc34 => ?_)
      · skip
        refine xr_il1 dX12_done_62 ?_
        refine xr_al0 dX12_done_63 ?_
        refine xr_al0 dX12_done_64 ?_
        refine xr_get W.o fX12_42 rfl dX12_done_65 ?_
        refine xr_Vpi1 (s_mGo (Or.inr rfl) W (L _) okt Rt) kX12_273 (by decide) (Nat.le_of_ble_eq_true rfl) (Nat.zero_add _) (Nat.zero_add _) dX12_done_68 (fun zv68 zh1 zq1 => ?_)
        obtain ⟨rfl, w9, R9, q9⟩ := zq1
        have q9 := xMz_jj (by decide) q9
        have okn := hOk_run okt φ
        obtain ⟨za, zb, zc, zd, ze, zrd, z8, W⟩ := xMz_out (by decide) q9
        refine xr_ifeq (tgt := 78) dX12_done_71 (by decide) (fun zc71 => ?_) (fun zc71 => ?_)
        · skip
          refine xr_ic0 dX12_done_78 ?_
          refine xr_iadd dX12_done_79 ?_
          refine xr_is1 dX12_done_80 (by decide) rfl ?_
          refine xr_inc2 dX12_done_81 (nI_inc k) (by decide) rfl ?_
          refine xr_goto (tgt := 21) dX12_done_84 (by decide) ?_
          rw [(rtN_s φ r k γ).trans (if_neg zc34)]
          exact ih (k + 1) (by rw [run17 φ γ okt, bI_f (bI_0.mp zc71), Int32.add_zero, Int32.add_zero, ht]) okn R9 q9 (by omega)
        · skip
          refine xr_ic1 dX12_done_74 ?_
          refine xr_goto (tgt := 79) dX12_done_75 (by decide) ?_
          refine xr_iadd dX12_done_79 ?_
          refine xr_is1 dX12_done_80 (by decide) rfl ?_
          refine xr_inc2 dX12_done_81 (nI_inc k) (by decide) rfl ?_
          refine xr_goto (tgt := 21) dX12_done_84 (by decide) ?_
          rw [(rtN_s φ r k γ).trans (if_neg zc34)]
          exact ih (k + 1) (by rw [run17 φ γ okt, bI_t (Decidable.not_not.mp (fun q => zc71 (bI_0.mpr q))), sub_1, ht]) okn R9 q9 (by omega)
      · skip
        refine xr_al0 dX12_done_37 ?_
        refine xr_ic0 dX12_done_38 ?_
        refine xr_put W.o fX12_86 (Nat.le_of_ble_eq_true rfl) rfl rfl dX12_done_39 ?_
        refine xT.nm (fun zh1 zg1 => ?_)
        have W := W.f4 zg1
        refine xr_al0 dX12_done_42 ?_
        refine xr_al0 dX12_done_43 ?_
        refine xr_get W.o fX12_42 rfl dX12_done_44 ?_
        refine xr_bipush (v := 14) dX12_done_47 (by decide) ?_
        refine xr_iald W.a11 (xix_lit (j := 14) (by decide)) dX12_done_49 ?_
        refine xr_eqi (y := γ 14) (Rt.1 14 (by omega) (by omega)) ?_
        refine xr_i2l dX12_done_50 ?_
        refine xr_Vpv1 (s_mTell W (k := 0) rfl (by decide) _) kX12_253 (by decide) (Nat.le_of_ble_eq_true rfl) (Nat.zero_add _) (Nat.zero_add _) dX12_done_51 (fun zh2 zq2 => ?_)
        have W := zq2
        refine xr_al0 dX12_done_54 ?_
        refine xr_il1 dX12_done_55 ?_
        refine xr_i2l dX12_done_56 ?_
        refine xr_Vpv1 (s_mTell W (k := 1) rfl (by decide) _) kX12_253 (by decide) (Nat.le_of_ble_eq_true rfl) (Nat.zero_add _) (Nat.zero_add _) dX12_done_57 (fun zh3 zq3 => ?_)
        have W := zq3
        refine xr_il2 dX12_done_60 ?_
        refine xr_iret dX12_done_61 rfl ?_
        have e := (congrArg (doE σ rk rv) ((rtN_s φ r k γ).trans (if_pos zc34))).trans (doE_y σ rk rv γ (by omega))
        rw [e]
        exact ⟨_, rfl, rfl, ⟨_, _, _, _, W, T, maR2e rfl ht, ⟨R, ok, iv⟩, P, Kp, L, H, Sw, h5⟩⟩
set_option maxRecDepth 20000 in
theorem a_done {K : xK} {B : Nat} {l : Launch} {h0 h : xH} {Y : Nat} {th : Int32} {tn : Nat} {tf : xs} {rk : Int32} {rv : Nat → Int64} {σ : xs} {pn : Nat} {τ : Nat → xs} {ks : Nat → Bool} {κ : Nat → xs} {φ : xs → Int32} {hn : Nat} {hf hg : xs} {wn : Nat} {wf wg : xs} (A : xMa K B l h0 h Y th tn tf rk rv σ pn τ ks κ φ hn hf hg wn wf wg)  : xV K B l 206 mX12_done 0 0 (Y) [] h (xPi (fun zr g => zr = (doR φ σ rk rv).1 ∧ xMa K B l h0 g Y 0 tn tf ((doR φ σ rk rv).2.1) ((doR φ σ rk rv).2.2) σ pn τ ks κ φ hn hf hg wn wf wg)) := by
  obtain ⟨m, rd, u, v, W, T, Rw, ⟨R, ok, iv⟩, P, Kp, L, H, Sw, hth⟩ := A
  refine ⟨⟨_, _, _, _, W.o, rfl⟩, qX12_done, ?_⟩
  refine xS.intro RX12 false ⟨rfl, rfl, by decide, by decide, Nat.le_of_ble_eq_true rfl⟩ (ls := [some (.ref Y), none, none]) rfl ?_
  refine xr_al0 dX12_done_0 ?_
  refine xr_ic0 dX12_done_1 ?_
  refine xr_put W.o fX12_82 (Nat.le_of_ble_eq_true rfl) rfl rfl dX12_done_2 ?_
  refine xT.nm (fun zh1 zg1 => ?_)
  have W := W.f5 zg1
  refine xr_al0 dX12_done_5 ?_
  refine xr_get W.o fX12_9 rfl dX12_done_6 ?_
  refine xr_al0 dX12_done_9 ?_
  refine xr_get W.o fX12_42 rfl dX12_done_10 ?_
  refine xr_ic0 dX12_done_13 ?_
  refine xr_Sv3 (s_mLay (k := 0) W.a1 W.a11 (by omega) (by decide) (by decide)) kX12_210 (by decide) (Nat.le_of_ble_eq_true rfl) (Nat.zero_add _) (Nat.zero_add _) dX12_done_14 ?_
  refine xT.nm (fun zh2 zg2 => ?_)
  have W := W.p11 zg2
  have Rt := rr_lay R ok (u 11)
  have okt := ok
  refine xr_ic0 dX12_done_17 ?_
  refine xr_is1 dX12_done_18 (by decide) rfl ?_
  refine xr_ic0 dX12_done_19 ?_
  refine xr_is2 dX12_done_20 (by decide) rfl ?_
  have C : maC K B l Y (upd m 5 0) u v tn tf rk rv σ pn τ ks κ φ hn hf hg wn wf wg := ⟨T, Rw, ⟨R, ok, iv⟩, P, Kp, L, H, Sw⟩
  exact lp_mDone C rfl 99 0 (Int32.sub_self _).symm okt Rt (xMz_of W) rfl
set_option maxRecDepth 20000 in
theorem lp_mWaitE {K : xK} {B : Nat} {l : Launch} {h0 : xH} {Y : Nat} {m : xs} {u : Nat → Nat → Int32} {v : Nat → Int64} {tn : Nat} {tf : xs} {rk : Int32} {rv : Nat → Int64} {σ : xs} {pn : Nat} {τ : Nat → xs} {ks : Nat → Bool} {κ : Nat → xs} {φ : xs → Int32} {hn : Nat} {hf hg : xs} {wn : Nat} {wf wg : xs} (C : maC K B l Y m u v tn tf rk rv σ pn τ ks κ φ hn hf hg wn wf wg) (h5 : m 5 = 0) {k : Nat} {s lo : Int32} {x4 : Option Value} {h : xH} {w γ : xs} (Rt : rr γ w) (q9 : xMz K h0 h Y m (Y + 6) (Y + 7) (uu u 11 w) v) (c : γ 10 + γ 11 = 0) : xT K B l 206 RX12 false cX12_waiting 5 (some .int) 0 0 0 0 (xPi (fun zr g => zr = ((s, (1 : Int32), tl1 rv lo) : AR).1 ∧ xMa K B l h0 g Y 0 tn tf (((s, (1 : Int32), tl1 rv lo) : AR).2.1) (((s, (1 : Int32), tl1 rv lo) : AR).2.2) σ pn τ ks κ φ hn hf hg wn wf wg)) 36 [some (.ref Y), some (.int s), some (.int lo), some (.int (nI k)), x4] [] h := by
  obtain ⟨T, Rw, ⟨R, ok, iv⟩, P, Kp, L, H, Sw⟩ := id C
  obtain ⟨za, zb, zc, zd, ze, zrd, z8, W⟩ := xMz_out (by decide) q9
  refine xr_il3 dX12_waiting_36 ?_
  refine xr_bipush (v := 99) dX12_waiting_37 (by decide) ?_
  refine xr_icmpgt (tgt := 93) dX12_waiting_39 (by decide) (fun zc39 => ?_) (fun zc39 => ?_)
  · skip
    refine xr_al0 dX12_waiting_93 ?_
    refine xr_get W.o fX12_42 rfl dX12_waiting_94 ?_
    refine xr_Si1 (s_mWaits W.a11) kX12_240 (by decide) (Nat.le_of_ble_eq_true rfl) (Nat.zero_add _) (Nat.zero_add _) dX12_waiting_97 ?_
    refine xr_eqi (y := γ 10 + γ 11) (rr_sum Rt) ?_
    refine xr_ifle (tgt := 106) dX12_waiting_100 (by decide) (fun zc100 => ?_) (fun zc100 => ?_)
    · skip
      refine xr_al0 dX12_waiting_106 ?_
      refine xr_ic0 dX12_waiting_107 ?_
      refine xr_put W.o fX12_86 (Nat.le_of_ble_eq_true rfl) rfl rfl dX12_waiting_108 ?_
      refine xT.nm (fun zh1 zg1 => ?_)
      have W := W.f4 zg1
      refine xr_al0 dX12_waiting_111 ?_
      refine xr_il2 dX12_waiting_112 ?_
      refine xr_i2l dX12_waiting_113 ?_
      refine xr_Vpv1 (s_mTell W (k := 0) rfl (by decide) _) kX12_253 (by decide) (Nat.le_of_ble_eq_true rfl) (Nat.zero_add _) (Nat.zero_add _) dX12_waiting_114 (fun zh2 zq2 => ?_)
      have W := zq2
      refine xr_il1 dX12_waiting_117 ?_
      refine xr_iret dX12_waiting_118 rfl ?_
      exact ⟨_, rfl, rfl, ⟨_, _, _, _, W, T, maR1 _, ⟨R, ok, iv⟩, P, Kp, L, H, Sw, h5⟩⟩
    · skip
      exact absurd (by rw [c]; decide) zc100
  · skip
    refine xr_al0 dX12_waiting_42 ?_
    refine xr_get W.o fX12_42 rfl dX12_waiting_43 ?_
    refine xr_Si1 (s_mWaits W.a11) kX12_240 (by decide) (Nat.le_of_ble_eq_true rfl) (Nat.zero_add _) (Nat.zero_add _) dX12_waiting_46 ?_
    refine xr_eqi (y := γ 10 + γ 11) (rr_sum Rt) ?_
    refine xr_ifle (tgt := 93) dX12_waiting_49 (by decide) (fun zc49 => ?_) (fun zc49 => ?_)
    · skip
      refine xr_al0 dX12_waiting_93 ?_
      refine xr_get W.o fX12_42 rfl dX12_waiting_94 ?_
      refine xr_Si1 (s_mWaits W.a11) kX12_240 (by decide) (Nat.le_of_ble_eq_true rfl) (Nat.zero_add _) (Nat.zero_add _) dX12_waiting_97 ?_
      refine xr_eqi (y := γ 10 + γ 11) (rr_sum Rt) ?_
      refine xr_ifle (tgt := 106) dX12_waiting_100 (by decide) (fun zc100 => ?_) (fun zc100 => ?_)
      · skip
        refine xr_al0 dX12_waiting_106 ?_
        refine xr_ic0 dX12_waiting_107 ?_
        refine xr_put W.o fX12_86 (Nat.le_of_ble_eq_true rfl) rfl rfl dX12_waiting_108 ?_
        refine xT.nm (fun zh1 zg1 => ?_)
        have W := W.f4 zg1
        refine xr_al0 dX12_waiting_111 ?_
        refine xr_il2 dX12_waiting_112 ?_
        refine xr_i2l dX12_waiting_113 ?_
        refine xr_Vpv1 (s_mTell W (k := 0) rfl (by decide) _) kX12_253 (by decide) (Nat.le_of_ble_eq_true rfl) (Nat.zero_add _) (Nat.zero_add _) dX12_waiting_114 (fun zh2 zq2 => ?_)
        have W := zq2
        refine xr_il1 dX12_waiting_117 ?_
        refine xr_iret dX12_waiting_118 rfl ?_
        exact ⟨_, rfl, rfl, ⟨_, _, _, _, W, T, maR1 _, ⟨R, ok, iv⟩, P, Kp, L, H, Sw, h5⟩⟩
      · skip
        exact absurd (by rw [c]; decide) zc100
    · skip
      exact absurd (by rw [c]; decide) zc49
set_option maxRecDepth 20000 in
theorem lp_mWait {K : xK} {B : Nat} {l : Launch} {h0 : xH} {Y : Nat} {m : xs} {u : Nat → Nat → Int32} {v : Nat → Int64} {tn : Nat} {tf : xs} {rk : Int32} {rv : Nat → Int64} {σ : xs} {pn : Nat} {τ : Nat → xs} {ks : Nat → Bool} {κ : Nat → xs} {φ : xs → Int32} {hn : Nat} {hf hg : xs} {wn : Nat} {wf wg : xs} (C : maC K B l Y m u v tn tf rk rv σ pn τ ks κ φ hn hf hg wn wf wg) (h5 : m 5 = 0)  : ∀ (r k : Nat) {s lo : Int32} {x4 : Option Value} {h : xH} {w γ : xs} (c : ¬ γ 10 + γ 11 = 0) (okt : hOk γ) (Rt : rr γ w) (q9 : xMz K h0 h Y m (Y + 6) (Y + 7) (uu u 11 w) v), k + r = 100 → xT K B l 206 RX12 false cX12_waiting 5 (some .int) 0 0 0 0 (xPi (fun zr g => zr = (wgN φ rk rv r k s γ).1 ∧ xMa K B l h0 g Y 0 tn tf ((wgN φ rk rv r k s γ).2.1) ((wgN φ rk rv r k s γ).2.2) σ pn τ ks κ φ hn hf hg wn wf wg)) 36 [some (.ref Y), some (.int s), some (.int lo), some (.int (nI k)), x4] [] h := by
  obtain ⟨T, Rw, ⟨R, ok, iv⟩, P, Kp, L, H, Sw⟩ := id C
  intro r
  induction r with
  | zero =>
    intro k s lo x4 h w γ c okt Rt q9 hk
    obtain ⟨za, zb, zc, zd, ze, zrd, z8, W⟩ := xMz_out (by decide) q9
    refine xr_il3 dX12_waiting_36 ?_
    refine xr_bipush (v := 99) dX12_waiting_37 (by decide) ?_
    refine xr_icmpgt (tgt := 93) dX12_waiting_39 (by decide) (fun zc39 => ?_) (fun zc39 => ?_)
    · skip
      refine xr_al0 dX12_waiting_93 ?_
      refine xr_get W.o fX12_42 rfl dX12_waiting_94 ?_
      refine xr_Si1 (s_mWaits W.a11) kX12_240 (by decide) (Nat.le_of_ble_eq_true rfl) (Nat.zero_add _) (Nat.zero_add _) dX12_waiting_97 ?_
      refine xr_eqi (y := γ 10 + γ 11) (rr_sum Rt) ?_
      refine xr_ifle (tgt := 106) dX12_waiting_100 (by decide) (fun zc100 => ?_) (fun zc100 => ?_)
      · skip
        exact absurd zc100 (fun q => c ((sum0 okt).mp q))
      · skip
        refine xr_bipush (v := (-2)) dX12_waiting_103 (by decide) ?_
        refine xr_iret dX12_waiting_105 rfl ?_
        exact ⟨_, rfl, rfl, ⟨_, _, _, _, W, T, Rw, ⟨R, ok, iv⟩, P, Kp, L, H, Sw, h5⟩⟩
    · skip
      exact absurd (nI_lt (a := 99) (by omega) (by omega)) zc39
  | succ r ih =>
    intro k s lo x4 h w γ c okt Rt q9 hk
    obtain ⟨za, zb, zc, zd, ze, zrd, z8, W⟩ := xMz_out (by decide) q9
    refine xr_il3 dX12_waiting_36 ?_
    refine xr_bipush (v := 99) dX12_waiting_37 (by decide) ?_
    refine xr_icmpgt (tgt := 93) dX12_waiting_39 (by decide) (fun zc39 => ?_) (fun zc39 => ?_)
    · skip
      exact absurd zc39 (nI_nlt (a := 99) (by omega) (by decide))
    · skip
      refine xr_al0 dX12_waiting_42 ?_
      refine xr_get W.o fX12_42 rfl dX12_waiting_43 ?_
      refine xr_Si1 (s_mWaits W.a11) kX12_240 (by decide) (Nat.le_of_ble_eq_true rfl) (Nat.zero_add _) (Nat.zero_add _) dX12_waiting_46 ?_
      refine xr_eqi (y := γ 10 + γ 11) (rr_sum Rt) ?_
      refine xr_ifle (tgt := 93) dX12_waiting_49 (by decide) (fun zc49 => ?_) (fun zc49 => ?_)
      · skip
        exact absurd zc49 (fun q => c ((sum0 okt).mp q))
      · skip
        refine xr_al0 dX12_waiting_52 ?_
        refine xr_get W.o fX12_42 rfl dX12_waiting_53 ?_
        refine xr_Si1 (s_mWaits W.a11) kX12_240 (by decide) (Nat.le_of_ble_eq_true rfl) (Nat.zero_add _) (Nat.zero_add _) dX12_waiting_56 ?_
        refine xr_eqi (y := γ 10 + γ 11) (rr_sum Rt) ?_
        refine xr_is4 dX12_waiting_59 (by decide) rfl ?_
        refine xr_al0 dX12_waiting_61 ?_
        refine xr_al0 dX12_waiting_62 ?_
        refine xr_get W.o fX12_42 rfl dX12_waiting_63 ?_
        refine xr_Vpi1 (s_mGo (Or.inr rfl) W (L _) okt Rt) kX12_273 (by decide) (Nat.le_of_ble_eq_true rfl) (Nat.zero_add _) (Nat.zero_add _) dX12_waiting_66 (fun zv66 zh1 zq1 => ?_)
        obtain ⟨rfl, w9, R9, q9⟩ := zq1
        have q9 := xMz_jj (by decide) q9
        have okn := hOk_run okt φ
        obtain ⟨za, zb, zc, zd, ze, zrd, z8, W⟩ := xMz_out (by decide) q9
        refine xr_pop dX12_waiting_69 rfl ?_
        refine xr_il1 dX12_waiting_70 ?_
        refine xr_il3 dX12_waiting_71 ?_
        refine xr_il4 dX12_waiting_72 ?_
        refine xr_al0 dX12_waiting_74 ?_
        refine xr_get W.o fX12_42 rfl dX12_waiting_75 ?_
        refine xr_Si1 (s_mWaits W.a11) kX12_240 (by decide) (Nat.le_of_ble_eq_true rfl) (Nat.zero_add _) (Nat.zero_add _) dX12_waiting_78 ?_
        refine xr_eqi (y := hRun φ γ 10 + hRun φ γ 11) (rr_sum R9) ?_
        refine xr_isub dX12_waiting_81 ?_
        refine xr_imul dX12_waiting_82 ?_
        refine xr_iadd dX12_waiting_83 ?_
        refine xr_is1 dX12_waiting_84 (by decide) rfl ?_
        refine xr_il3 dX12_waiting_85 ?_
        refine xr_is2 dX12_waiting_86 (by decide) rfl ?_
        refine xr_inc3 dX12_waiting_87 (nI_inc k) (by decide) rfl ?_
        refine xr_goto (tgt := 36) dX12_waiting_90 (by decide) ?_
        by_cases c2 : hRun φ γ 10 + hRun φ γ 11 = 0
        · rw [(wgN_s φ rk rv r k s γ).trans (if_pos c2)]
          exact lp_mWaitE C h5 R9 q9 c2
        · rw [(wgN_s φ rk rv r k s γ).trans (if_neg c2)]
          exact ih (k + 1) c2 okn R9 q9 (by omega)
set_option maxRecDepth 20000 in
theorem a_waiting {K : xK} {B : Nat} {l : Launch} {h0 h : xH} {Y : Nat} {th : Int32} {tn : Nat} {tf : xs} {rk : Int32} {rv : Nat → Int64} {σ : xs} {pn : Nat} {τ : Nat → xs} {ks : Nat → Bool} {κ : Nat → xs} {φ : xs → Int32} {hn : Nat} {hf hg : xs} {wn : Nat} {wf wg : xs} (A : xMa K B l h0 h Y th tn tf rk rv σ pn τ ks κ φ hn hf hg wn wf wg)  : xV K B l 206 mX12_waiting 0 0 (Y) [] h (xPi (fun zr g => zr = (wgR φ σ rk rv).1 ∧ xMa K B l h0 g Y 0 tn tf ((wgR φ σ rk rv).2.1) ((wgR φ σ rk rv).2.2) σ pn τ ks κ φ hn hf hg wn wf wg)) := by
  obtain ⟨m, rd, u, v, W, T, Rw, ⟨R, ok, iv⟩, P, Kp, L, H, Sw, hth⟩ := A
  refine ⟨⟨_, _, _, _, W.o, rfl⟩, qX12_waiting, ?_⟩
  refine xS.intro RX12 false ⟨rfl, rfl, by decide, by decide, Nat.le_of_ble_eq_true rfl⟩ (ls := [some (.ref Y), none, none, none, none]) rfl ?_
  refine xr_al0 dX12_waiting_0 ?_
  refine xr_ic0 dX12_waiting_1 ?_
  refine xr_put W.o fX12_82 (Nat.le_of_ble_eq_true rfl) rfl rfl dX12_waiting_2 ?_
  refine xT.nm (fun zh1 zg1 => ?_)
  have W := W.f5 zg1
  refine xr_al0 dX12_waiting_5 ?_
  refine xr_get W.o fX12_9 rfl dX12_waiting_6 ?_
  refine xr_Si1 (s_mWaits W.a1) kX12_240 (by decide) (Nat.le_of_ble_eq_true rfl) (Nat.zero_add _) (Nat.zero_add _) dX12_waiting_9 ?_
  refine xr_eqi (y := σ 10 + σ 11) (rr_sum R) ?_
  refine xr_ifne (tgt := 18) dX12_waiting_12 (by decide) (fun zc12 => ?_) (fun zc12 => ?_)
  · skip
    refine xr_al0 dX12_waiting_18 ?_
    refine xr_get W.o fX12_9 rfl dX12_waiting_19 ?_
    refine xr_al0 dX12_waiting_22 ?_
    refine xr_get W.o fX12_42 rfl dX12_waiting_23 ?_
    refine xr_ic0 dX12_waiting_26 ?_
    refine xr_Sv3 (s_mLay (k := 0) W.a1 W.a11 (by omega) (by decide) (by decide)) kX12_210 (by decide) (Nat.le_of_ble_eq_true rfl) (Nat.zero_add _) (Nat.zero_add _) dX12_waiting_27 ?_
    refine xT.nm (fun zh2 zg2 => ?_)
    have W := W.p11 zg2
    have Rt := rr_lay R ok (u 11)
    have okt := ok
    refine xr_ic0 dX12_waiting_30 ?_
    refine xr_is1 dX12_waiting_31 (by decide) rfl ?_
    refine xr_ic0 dX12_waiting_32 ?_
    refine xr_is2 dX12_waiting_33 (by decide) rfl ?_
    refine xr_ic1 dX12_waiting_34 ?_
    refine xr_is3 dX12_waiting_35 (by decide) rfl ?_
    have e : (wgR φ σ rk rv) = _ := if_neg zc12
    rw [e]
    have C : maC K B l Y (upd m 5 0) u v tn tf rk rv σ pn τ ks κ φ hn hf hg wn wf wg := ⟨T, Rw, ⟨R, ok, iv⟩, P, Kp, L, H, Sw⟩
    exact lp_mWait C rfl 99 1 zc12 okt Rt (xMz_of W) rfl
  · skip
    refine xr_bipush (v := (-3)) dX12_waiting_15 (by decide) ?_
    refine xr_iret dX12_waiting_17 rfl ?_
    have e : (wgR φ σ rk rv) = _ := if_pos zc12
    rw [e]
    exact ⟨_, rfl, rfl, ⟨_, _, _, _, W, T, Rw, ⟨R, ok, iv⟩, P, Kp, L, H, Sw, rfl⟩⟩
