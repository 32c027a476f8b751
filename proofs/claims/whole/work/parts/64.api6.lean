/-! The model in the class's words: when, enough, count (written by wip/whole/mod23.py) -/
theorem bit_nx : ∀ m, m < 4 → ∀ k, k < 5 → ((nI (2 ^ m - 1) >>> (nI k &&& 31) &&& 1) = 0 ↔ m ≤ k) := by decide +kernel
theorem tk_nx (σ : xs) (s : Nat) {m : Nat} (hm : m ≤ 3) : ∀ k, k ≤ 5 → (tk σ s (nI (2 ^ m - 1)) k).2 = k - min m k := by
  intro k
  induction k with
  | zero =>
    intro _
    show (0 : Nat) = 0 - min m 0
    omega
  | succ k ih =>
    intro hk
    have b := bit_nx m (by omega) k (by omega)
    rw [tk_s]
    by_cases c : m ≤ k
    · rw [if_pos (b.mpr c)]
      show (tk σ s (nI (2 ^ m - 1)) k).2 + 1 = _
      rw [ih (by omega)]
      omega
    · rw [if_neg (fun q => c (b.mp q)), ih (by omega)]
      omega
theorem take_hi {σ : xs} (ok : hOk σ) {s : Nat} (hs : s < 2) (g : Int32) {i : Nat} (h : 10 ≤ i) (hi : i ≠ 10 + s) : hTake σ s g i = σ i := by
  unfold hTake
  rw [upd_hi _ _ hi, tk_hi σ g hs (ok.1 s hs).2 h]
theorem iMin_sn {γ : xs} (ok : hOk γ) {s : Nat} (hs : s < 2) : iMin (γ 12) (γ (10 + s)) = nI (min (sn γ) (ln γ s)) := by
  rw [(ok.1 s hs).1, ok.2.1]
  have h5 := (ok.1 s hs).2
  have h3 := ok.2.2.2
  unfold iMin
  by_cases c : ln γ s < sn γ
  · rw [if_pos (nI_lt c (by omega)), Nat.min_eq_right (by omega)]
  · rw [if_neg (nI_nlt (by omega) (by omega)), Nat.min_eq_left (by omega)]
theorem take_len {σ : xs} (ok : hOk σ) {s : Nat} (hs : s < 2) {m : Nat} (hm : m ≤ 3) : hTake σ s (nI (2 ^ m - 1)) (10 + s) = nI (ln σ s - min m (ln σ s)) := by
  unfold hTake
  rw [pk_us, tk_nx σ s hm _ (ok.1 s hs).2]
theorem run_at (φ : xs → Int32) {γ : xs} (c : hGo γ) (ok : hOk γ) {s : Nat} (hs : s < 2) : hRun φ γ (10 + s) = nI (ln γ s - min (sn γ) (ln γ s)) := by
  rw [hRun_y c]
  have e0 : hNext γ 0 = nI (2 ^ min (sn γ) (ln γ 0) - 1) := hNext_p ok (s := 0) (by decide)
  have e1 : hNext γ 1 = nI (2 ^ min (sn γ) (ln γ 1) - 1) := hNext_p ok (s := 1) (by decide)
  have h3 := ok.2.2.2
  rw [e0, e1]
  generalize hx : nI (2 ^ min (sn γ) (ln γ 0) - 1) = x
  generalize hy : nI (2 ^ min (sn γ) (ln γ 1) - 1) = y
  have o3 : hOk (hT3 (hT2 (hT1 γ x y) x) y) := hOk_upd (hOk_upd (hOk_upd ok (by decide) _) (by decide) _) (by decide) _
  have l3 : ∀ s, s < 2 → ln (hT3 (hT2 (hT1 γ x y) x) y) s = ln γ s := fun s hs => by
    unfold hT3
    rw [ln_upd _ (by omega)]
    unfold hT2
    rw [ln_upd _ (by omega)]
    unfold hT1
    rw [ln_upd _ (by omega)]
  have o4 := hOk_take o3 (s := 0) (by decide) x
  rcases (show s = 0 ∨ s = 1 by omega) with rfl | rfl
  · show hTake (hTake (hT3 (hT2 (hT1 γ x y) x) y) 0 x) 1 y 10 = _
    rw [take_hi o4 (by decide) y (by decide) (by decide)]
    subst hx
    rw [show hTake (hT3 (hT2 (hT1 γ (nI (2 ^ min (sn γ) (ln γ 0) - 1)) y) (nI (2 ^ min (sn γ) (ln γ 0) - 1))) y) 0 (nI (2 ^ min (sn γ) (ln γ 0) - 1)) 10 = _ from take_len o3 (s := 0) (by decide) (by omega), l3 0 (by decide)]
    congr 1
    omega
  · show hTake (hTake (hT3 (hT2 (hT1 γ x y) x) y) 0 x) 1 y 11 = _
    have l4 : ln (hTake (hT3 (hT2 (hT1 γ x y) x) y) 0 x) 1 = ln γ 1 := by
      unfold ln
      rw [take_hi o3 (by decide) x (by decide) (by decide)]
      exact l3 1 (by decide)
    subst hy
    rw [show hTake (hTake (hT3 (hT2 (hT1 γ x (nI (2 ^ min (sn γ) (ln γ 1) - 1))) x) (nI (2 ^ min (sn γ) (ln γ 1) - 1))) 0 x) 1 (nI (2 ^ min (sn γ) (ln γ 1) - 1)) 11 = _ from take_len o4 (s := 1) (by decide) (by omega), l4]
    congr 1
    omega
theorem run_len (φ : xs → Int32) {γ : xs} (c : hGo γ) (ok : hOk γ) {s : Nat} (hs : s < 2) : ln (hRun φ γ) s = ln γ s - min (sn γ) (ln γ s) := by
  have h5 := (ok.1 s hs).2
  show (hRun φ γ (10 + s)).toNatClampNeg = _
  rw [run_at φ c ok hs]
  exact nI_clamp (by omega)
theorem stay_at (φ : xs → Int32) {γ : xs} (c : ¬ hGo γ) {s : Nat} (hs : s < 2) : hRun φ γ (10 + s) = γ (10 + s) := by
  rw [hRun_n c]
  unfold hPass
  rw [upd_hi _ _ (by omega), upd_hi _ _ (by omega)]
theorem whN_n (φ : xs → Int32) (rk : Int32) (rv : Nat → Int64) {sd : Nat} (hs : sd < 2) (r k : Nat) {a s : Int32} {γ : xs} (c : ¬ hGo γ) (ha : ¬ a < 0) : whN φ rk rv (nI sd) (r + 1) k a s γ = whN φ rk rv (nI sd) r (k + 1) a (s + 1) (hRun φ γ) := by
  rw [whN_s, hWaits_s hs, hWaits_s hs, stay_at φ c hs, Int32.sub_self, Int32.sub_zero, if_neg ha, if_neg c]
theorem whN_y (φ : xs → Int32) (rk : Int32) (rv : Nat → Int64) {sd : Nat} (hs : sd < 2) (r k : Nat) {a s : Int32} {γ : xs} (ok : hOk γ) (c : hGo γ) : whN φ rk rv (nI sd) (r + 1) k a s γ = if a - nI (min (sn γ) (ln γ sd)) < 0 then (nI k, 1, tl1 rv s) else whN φ rk rv (nI sd) r (k + 1) (a - nI (min (sn γ) (ln γ sd))) s (hRun φ γ) := by
  have e := (ok.1 sd hs).1
  rw [whN_s, hWaits_s hs, hWaits_s hs, run_at φ c ok hs, e, nI_sub (by omega), if_pos c, show ln γ sd - (ln γ sd - min (sn γ) (ln γ sd)) = min (sn γ) (ln γ sd) by omega]
set_option maxRecDepth 20000 in
theorem lp_mWhen {K : xK} {B : Nat} {l : Launch} {h0 : xH} {Y : Nat} {m : xs} {u : Nat → Nat → Int32} {v : Nat → Int64} {tn : Nat} {tf : xs} {rk : Int32} {rv : Nat → Int64} {σ : xs} {pn : Nat} {τ : Nat → xs} {ks : Nat → Bool} {κ : Nat → xs} {φ : xs → Int32} {hn : Nat} {hf hg : xs} {wn : Nat} {wf wg : xs} (C : maC K B l Y m u v tn tf rk rv σ pn τ ks κ φ hn hf hg wn wf wg) (h5 : m 5 = 0) {sd : Nat} (hs : sd < 2) {x2 : Int32} : ∀ (r k : Nat) {a s : Int32} {x6 : Option Value} (ha : ¬ a < 0) {h : xH} {w γ : xs} (okt : hOk γ) (Rt : rr γ w) (q9 : xMz K h0 h Y m (Y + 6) (Y + 7) (uu u 11 w) v), k + r = 100 → xT K B l 206 RX12 false cX12_when 7 (some .int) 0 0 0 0 (xPi (fun zr g => zr = (whN φ rk rv (nI sd) r k a s γ).1 ∧ xMa K B l h0 g Y 0 tn tf ((whN φ rk rv (nI sd) r k a s γ).2.1) ((whN φ rk rv (nI sd) r k a s γ).2.2) σ pn τ ks κ φ hn hf hg wn wf wg)) 36 [some (.ref Y), some (.int (nI sd)), some (.int x2), some (.int a), some (.int s), some (.int (nI k)), x6] [] h := by
  obtain ⟨T, Rw, ⟨R, ok, iv⟩, P, Kp, L, H, Sw⟩ := id C
  intro r
  induction r with
  | zero =>
    intro k a s x6 ha h w γ okt Rt q9 hk
    obtain ⟨za, zb, zc, zd, ze, zrd, z8, W⟩ := xMz_out (by decide) q9
    refine xr_il5 dX12_when_36 ?_
    refine xr_bipush (v := 99) dX12_when_38 (by decide) ?_
    refine xr_icmpgt (tgt := 114) dX12_when_40 (by decide) (fun zc40 => ?_) (fun zc40 => ?_)
    · skip
      refine xr_bipush (v := (-2)) dX12_when_114 (by decide) ?_
      refine xr_iret dX12_when_116 rfl ?_
      exact ⟨_, rfl, rfl, ⟨_, _, _, _, W, T, Rw, ⟨R, ok, iv⟩, P, Kp, L, H, Sw, h5⟩⟩
    · skip
      exact absurd (nI_lt (a := 99) (by omega) (by omega)) zc40
  | succ r ih =>
    intro k a s x6 ha h w γ okt Rt q9 hk
    obtain ⟨za, zb, zc, zd, ze, zrd, z8, W⟩ := xMz_out (by decide) q9
    refine xr_il5 dX12_when_36 ?_
    refine xr_bipush (v := 99) dX12_when_38 (by decide) ?_
    refine xr_icmpgt (tgt := 114) dX12_when_40 (by decide) (fun zc40 => ?_) (fun zc40 => ?_)
    · skip
      exact absurd zc40 (nI_nlt (a := 99) (by omega) (by decide))
    · skip
      refine xr_al0 dX12_when_43 ?_
      refine xr_get W.o fX12_42 rfl dX12_when_44 ?_
      refine xr_bipush (v := 12) dX12_when_47 (by decide) ?_
      refine xr_iald W.a11 (xix_lit (j := 12) (by decide)) dX12_when_49 ?_
      refine xr_eqi (y := γ 12) (Rt.1 12 (by omega) (by omega)) ?_
      refine xr_al0 dX12_when_50 ?_
      refine xr_get W.o fX12_42 rfl dX12_when_51 ?_
      refine xr_bipush (v := 10) dX12_when_54 (by decide) ?_
      refine xr_il1 dX12_when_56 ?_
      refine xr_iadd dX12_when_57 ?_
      refine xr_eqi (y := nI (10 + sd)) (nI_add 10 sd) ?_
      refine xr_iald W.a11 (xix_nI (n := 19) (j := 10 + sd) (by omega) (by decide)) dX12_when_58 ?_
      refine xr_eqi (y := γ (10 + sd)) (Rt.1 _ (by omega) (by omega)) ?_
      refine xr_min kmX12_195 ms_min wz_J9 mc_min (by decide) (Nat.le_of_ble_eq_true rfl) dX12_when_59 ?_
      refine xr_eqi (y := nI (min (sn γ) (ln γ sd))) (iMin_sn okt hs) ?_
      refine xr_is6 dX12_when_62 (by decide) rfl ?_
      refine xr_al0 dX12_when_64 ?_
      refine xr_al0 dX12_when_65 ?_
      refine xr_get W.o fX12_42 rfl dX12_when_66 ?_
      refine xr_Vpi1 (s_mGo (Or.inr rfl) W (L _) okt Rt) kX12_273 (by decide) (Nat.le_of_ble_eq_true rfl) (Nat.zero_add _) (Nat.zero_add _) dX12_when_69 (fun zv69 zh1 zq1 => ?_)
      obtain ⟨rfl, w9, R9, q9⟩ := zq1
      have q9 := xMz_jj (by decide) q9
      have okn := hOk_run okt φ
      obtain ⟨za, zb, zc, zd, ze, zrd, z8, W⟩ := xMz_out (by decide) q9
      refine xr_ifne (tgt := 81) dX12_when_72 (by decide) (fun zc72 => ?_) (fun zc72 => ?_)
      · skip
        refine xr_il3 dX12_when_81 ?_
        refine xr_il6 dX12_when_82 ?_
        refine xr_isub dX12_when_84 ?_
        refine xr_is3 dX12_when_85 (by decide) rfl ?_
        refine xr_il3 dX12_when_86 ?_
        refine xr_iflt (tgt := 93) dX12_when_87 (by decide) (fun zc87 => ?_) (fun zc87 => ?_)
        · skip
          refine xr_al0 dX12_when_93 ?_
          refine xr_ic0 dX12_when_94 ?_
          refine xr_put W.o fX12_86 (Nat.le_of_ble_eq_true rfl) rfl rfl dX12_when_95 ?_
          refine xT.nm (fun zh2 zg2 => ?_)
          have W := W.f4 zg2
          refine xr_al0 dX12_when_98 ?_
          refine xr_il4 dX12_when_99 ?_
          refine xr_i2l dX12_when_101 ?_
          refine xr_Vpv1 (s_mTell W (k := 0) rfl (by decide) _) kX12_253 (by decide) (Nat.le_of_ble_eq_true rfl) (Nat.zero_add _) (Nat.zero_add _) dX12_when_102 (fun zh3 zq3 => ?_)
          have W := zq3
          refine xr_il5 dX12_when_105 ?_
          refine xr_iret dX12_when_107 rfl ?_
          have e := (whN_y φ rk rv hs r k (a := a) (s := s) okt (Decidable.not_not.mp (fun q => zc72 (bI_0.mpr q)))).trans (if_pos zc87)
          rw [e]
          exact ⟨_, rfl, rfl, ⟨_, _, _, _, W, T, maR1 _, ⟨R, ok, iv⟩, P, Kp, L, H, Sw, h5⟩⟩
        · skip
          refine xr_goto (tgt := 108) dX12_when_90 (by decide) ?_
          refine xr_inc5 dX12_when_108 (nI_inc k) (by decide) rfl ?_
          refine xr_goto (tgt := 36) dX12_when_111 (by decide) ?_
          rw [(whN_y φ rk rv hs r k okt (Decidable.not_not.mp (fun q => zc72 (bI_0.mpr q)))).trans (if_neg zc87)]
          exact ih (k + 1) zc87 okn R9 q9 (by omega)
      · skip
        refine xr_inc4 dX12_when_75 (show s + Int32.ofInt 1 = s + 1 from rfl) (by decide) rfl ?_
        refine xr_goto (tgt := 108) dX12_when_78 (by decide) ?_
        refine xr_inc5 dX12_when_108 (nI_inc k) (by decide) rfl ?_
        refine xr_goto (tgt := 36) dX12_when_111 (by decide) ?_
        rw [whN_n φ rk rv hs r k (bI_0.mp zc72) ha]
        exact ih (k + 1) ha okn R9 q9 (by omega)
set_option maxRecDepth 20000 in
theorem a_when {K : xK} {B : Nat} {l : Launch} {h0 h : xH} {Y : Nat} {th : Int32} {tn : Nat} {tf : xs} {rk : Int32} {rv : Nat → Int64} {σ : xs} {pn : Nat} {τ : Nat → xs} {ks : Nat → Bool} {κ : Nat → xs} {φ : xs → Int32} {hn : Nat} {hf hg : xs} {wn : Nat} {wf wg : xs} (A : xMa K B l h0 h Y th tn tf rk rv σ pn τ ks κ φ hn hf hg wn wf wg) (x y : Int32) : xV K B l 206 mX12_when 0 0 (Y) [.int x, .int y] h (xPi (fun zr g => zr = (whR φ σ rk rv x y).1 ∧ xMa K B l h0 g Y 0 tn tf ((whR φ σ rk rv x y).2.1) ((whR φ σ rk rv x y).2.2) σ pn τ ks κ φ hn hf hg wn wf wg)) := by
  obtain ⟨m, rd, u, v, W, T, Rw, ⟨R, ok, iv⟩, P, Kp, L, H, Sw, hth⟩ := A
  refine ⟨⟨_, _, _, _, W.o, rfl⟩, qX12_when, ?_⟩
  refine xS.intro RX12 false ⟨rfl, rfl, by decide, by decide, Nat.le_of_ble_eq_true rfl⟩ (ls := [some (.ref Y), some (.int x), some (.int y), none, none, none, none]) rfl ?_
  refine xr_al0 dX12_when_0 ?_
  refine xr_ic0 dX12_when_1 ?_
  refine xr_put W.o fX12_82 (Nat.le_of_ble_eq_true rfl) rfl rfl dX12_when_2 ?_
  refine xT.nm (fun zh1 zg1 => ?_)
  have W := W.f5 zg1
  refine xr_al0 dX12_when_5 ?_
  refine xr_il1 dX12_when_6 ?_
  refine xr_il2 dX12_when_7 ?_
  refine xr_Vpi2 (s_mPar W _ _) kX12_204 (by decide) (Nat.le_of_ble_eq_true rfl) (Nat.zero_add _) (Nat.zero_add _) dX12_when_8 (fun zv8 zh2 zq2 => ?_)
  obtain ⟨rfl, W⟩ := zq2
  refine xr_ifne (tgt := 16) dX12_when_11 (by decide) (fun zc11 => ?_) (fun zc11 => ?_)
  · skip
    have c1 := (mPar_iff R ok).mp zc11
    obtain ⟨sd, j, hs, hj, rfl, rfl⟩ := hHas_at ok c1
    refine xr_al0 dX12_when_16 ?_
    refine xr_get W.o fX12_9 rfl dX12_when_17 ?_
    refine xr_al0 dX12_when_20 ?_
    refine xr_get W.o fX12_42 rfl dX12_when_21 ?_
    refine xr_ic0 dX12_when_24 ?_
    refine xr_Sv3 (s_mLay (k := 0) W.a1 W.a11 (by omega) (by decide) (by decide)) kX12_210 (by decide) (Nat.le_of_ble_eq_true rfl) (Nat.zero_add _) (Nat.zero_add _) dX12_when_25 ?_
    refine xT.nm (fun zh3 zg3 => ?_)
    have W := W.p11 zg3
    have Rt := rr_lay R ok (u 11)
    have okt := ok
    refine xr_il2 dX12_when_28 ?_
    refine xr_is3 dX12_when_29 (by decide) rfl ?_
    refine xr_ic0 dX12_when_30 ?_
    refine xr_is4 dX12_when_31 (by decide) rfl ?_
    refine xr_ic1 dX12_when_33 ?_
    refine xr_is5 dX12_when_34 (by decide) rfl ?_
    have e : (whR φ σ rk rv (nI sd) (nI j)) = _ := if_pos c1
    rw [e]
    have C : maC K B l Y (upd m 5 0) u v tn tf rk rv σ pn τ ks κ φ hn hf hg wn wf wg := ⟨T, Rw, ⟨R, ok, iv⟩, P, Kp, L, H, Sw⟩
    exact lp_mWhen C rfl hs 99 1 c1.1 okt Rt (xMz_of W) rfl
  · skip
    refine xr_icm1 dX12_when_14 ?_
    refine xr_iret dX12_when_15 rfl ?_
    have e : (whR φ σ rk rv x y) = _ := if_neg (fun q => (mPar_iff R ok).mpr q zc11)
    rw [e]
    exact ⟨_, rfl, rfl, ⟨_, _, _, _, W, T, Rw, ⟨R, ok, iv⟩, P, Kp, L, H, Sw, rfl⟩⟩
theorem wtN_upd (σ : xs) {i : Nat} (hi : 12 ≤ i) (x : Int32) {s : Nat} (hs : s < 2) (g : Int32) : ∀ k, k ≤ 5 → wtN (upd σ i x) s g k = wtN σ s g k := by
  intro k
  induction k with
  | zero => intro _; rfl
  | succ k ih =>
    intro hk
    show wtN (upd σ i x) s g k + (g >>> (nI k &&& 31) &&& 1) * upd σ i x (5 * s + k) = wtN σ s g k + (g >>> (nI k &&& 31) &&& 1) * σ (5 * s + k)
    rw [ih (by omega), upd_hi _ _ (by omega)]
theorem wt_upd {σ : xs} (ok : hOk σ) {i : Nat} (hi : 12 ≤ i) (x : Int32) {s : Nat} (hs : s < 2) (g : Int32) : wt (upd σ i x) s g = wt σ s g := by
  unfold wt
  rw [ln_upd _ (by omega)]
  exact wtN_upd σ hi x hs g _ (ok.1 s hs).2
theorem water_14 {σ : xs} (ok : hOk σ) (c x y : Int32) : hWater (upd σ 14 c) x y = hWater σ x y := by
  unfold hWater
  rw [wt_upd ok (by decide) _ (by decide), wt_upd ok (by decide) _ (by decide), upd_hi _ _ (by decide)]
theorem tw_dry (φ : xs → Int32) {σ : xs} (ok : hOk σ) (c0 : ¬ σ 10 + σ 11 = 0) {c : Nat} (hc : c < enC σ) : twN φ 6 0 (upd σ 14 (nI c)) = -1 := by
  have e := iMax0_nI (wt σ 1 (hNext σ 1) + σ 13 - wt σ 0 (hNext σ 0))
  have ew : hWater σ (hNext σ 0) (hNext σ 1) = nI (enC σ) := e.1
  have eb : enC σ < 2 ^ 31 := e.2
  rw [twN_s, if_neg (by show ¬ upd σ 14 (nI c) 10 + upd σ 14 (nI c) 11 = 0; rw [upd_hi _ _ (by decide), upd_hi _ _ (by decide)]; exact c0), if_neg]
  intro q
  refine q.2 ?_
  rw [water_14 ok, pk_us]
  have n0 : hNext (upd σ 14 (nI c)) 0 = hNext σ 0 := by unfold hNext hWaits; rw [upd_hi _ _ (by decide), upd_hi _ _ (by decide), upd_hi _ _ (by decide)]
  have n1 : hNext (upd σ 14 (nI c)) 1 = hNext σ 1 := by unfold hNext hWaits; rw [upd_hi _ _ (by decide), upd_hi _ _ (by decide), upd_hi _ _ (by decide)]
  rw [n0, n1, ew]
  exact nI_lt hc eb
theorem en_skip (φ : xs → Int32) (σ : xs) (rk : Int32) (rv : Nat → Int64) (r : Nat) : ∀ (d c : Nat), (∀ i, c ≤ i → i < c + d → twN φ 6 0 (upd σ 14 (nI i)) = -1) → enN φ σ rk rv (d + r) c = enN φ σ rk rv r (c + d) := by
  intro d
  induction d with
  | zero => intro c _; rw [Nat.zero_add]; rfl
  | succ d ih =>
    intro c h
    rw [show d + 1 + r = (d + r) + 1 by omega, enN_s, if_pos (h c (by omega) (by omega)), ih (c + 1) (fun i h1 h2 => h i (by omega) (by omega)), show c + 1 + d = c + (d + 1) by omega]
theorem en_all (φ : xs → Int32) {σ : xs} (ok : hOk σ) (c0 : ¬ σ 10 + σ 11 = 0) (rk : Int32) (rv : Nat → Int64) : enR φ σ rk rv = enN φ σ rk rv 1000 0 := by
  unfold enR
  rw [if_neg c0]
  by_cases h : enC σ ≤ 1000
  · have := en_skip φ σ rk rv (1000 - enC σ) (enC σ) 0 (fun i _ hi => tw_dry φ ok c0 (by omega))
    rw [show enC σ + (1000 - enC σ) = 1000 by omega, Nat.zero_add] at this
    exact this.symm
  · have := en_skip φ σ rk rv 0 1000 0 (fun i _ hi => tw_dry φ ok c0 (by omega))
    rw [show 1000 - enC σ = 0 by omega]
    exact this.symm
set_option maxRecDepth 20000 in
theorem lp_mEnI {K : xK} {B : Nat} {l : Launch} {h0 : xH} {Y : Nat} {m : xs} {u : Nat → Nat → Int32} {v : Nat → Int64} {tn : Nat} {tf : xs} {rk : Int32} {rv : Nat → Int64} {σ : xs} {pn : Nat} {τ : Nat → xs} {ks : Nat → Bool} {κ : Nat → xs} {φ : xs → Int32} {hn : Nat} {hf hg : xs} {wn : Nat} {wf wg : xs} (C : maC K B l Y m u v tn tf rk rv σ pn τ ks κ φ hn hf hg wn wf wg) (h5 : m 5 = 0) {Z : AR} {c : Nat} : ∀ (r k : Nat) {h : xH} {w γ : xs} (hz : ¬ twN φ r k γ = -1 → Z = (nI c, 1, tl1 rv (twN φ r k γ))) (hc : twN φ r k γ = -1 → ∀ {h : xH} {w γ : xs} {x2 : Option Value}, hOk γ → rr γ w → xMz K h0 h Y m (Y + 6) (Y + 7) (uu u 11 w) v → xT K B l 206 RX12 false cX12_enough 3 (some .int) 0 0 0 0 (xPi (fun zr g => zr = Z.1 ∧ xMa K B l h0 g Y 0 tn tf (Z.2.1) (Z.2.2) σ pn τ ks κ φ hn hf hg wn wf wg)) 100 [some (.ref Y), some (.int (nI c)), x2] [] h) (okt : hOk γ) (Rt : rr γ w) (q9 : xMz K h0 h Y m (Y + 6) (Y + 7) (uu u 11 w) v), ln γ 0 < r → ln γ 1 < r → k + r ≤ 6 → xT K B l 206 RX12 false cX12_enough 3 (some .int) 0 0 0 0 (xPi (fun zr g => zr = Z.1 ∧ xMa K B l h0 g Y 0 tn tf (Z.2.1) (Z.2.2) σ pn τ ks κ φ hn hf hg wn wf wg)) 49 [some (.ref Y), some (.int (nI c)), some (.int (nI k))] [] h := by
  obtain ⟨T, Rw, ⟨R, ok, iv⟩, P, Kp, L, H, Sw⟩ := id C
  intro r
  induction r with
  | zero =>
    intro k h w γ hz hc okt Rt q9 h1
    exact absurd h1 (by omega)
  | succ r ih =>
    intro k h w γ hz hc okt Rt q9 h1 h2 hk
    obtain ⟨za, zb, zc, zd, ze, zrd, z8, W⟩ := xMz_out (by decide) q9
    refine xr_al0 dX12_enough_49 ?_
    refine xr_get W.o fX12_42 rfl dX12_enough_50 ?_
    refine xr_Si1 (s_mCanGo W.a11 (rr_ok Rt okt)) kX12_246 (by decide) (Nat.le_of_ble_eq_true rfl) (Nat.zero_add _) (Nat.zero_add _) dX12_enough_53 ?_
    refine xr_eqi (y := bI (hGo γ)) (bI_iff (rr_go Rt okt)) ?_
    refine xr_ifeq (tgt := 74) dX12_enough_56 (by decide) (fun zc56 => ?_) (fun zc56 => ?_)
    · skip
      refine xr_al0 dX12_enough_74 ?_
      refine xr_get W.o fX12_42 rfl dX12_enough_75 ?_
      refine xr_Si1 (s_mWaits W.a11) kX12_240 (by decide) (Nat.le_of_ble_eq_true rfl) (Nat.zero_add _) (Nat.zero_add _) dX12_enough_78 ?_
      refine xr_eqi (y := γ 10 + γ 11) (rr_sum Rt) ?_
      refine xr_ifle (tgt := 87) dX12_enough_81 (by decide) (fun zc81 => ?_) (fun zc81 => ?_)
      · skip
        refine xr_al0 dX12_enough_87 ?_
        refine xr_ic0 dX12_enough_88 ?_
        refine xr_put W.o fX12_86 (Nat.le_of_ble_eq_true rfl) rfl rfl dX12_enough_89 ?_
        refine xT.nm (fun zh1 zg1 => ?_)
        have W := W.f4 zg1
        refine xr_al0 dX12_enough_92 ?_
        refine xr_il2 dX12_enough_93 ?_
        refine xr_i2l dX12_enough_94 ?_
        refine xr_Vpv1 (s_mTell W (k := 0) rfl (by decide) _) kX12_253 (by decide) (Nat.le_of_ble_eq_true rfl) (Nat.zero_add _) (Nat.zero_add _) dX12_enough_95 (fun zh2 zq2 => ?_)
        have W := zq2
        refine xr_il1 dX12_enough_98 ?_
        refine xr_iret dX12_enough_99 rfl ?_
        have e2 := (twN_s φ r k γ).trans (if_pos ((sum0 okt).mp zc81))
        rw [e2] at hz
        have e := hz (fun q => absurd (by rw [q]; decide : nI k < 0) (nI_pos (by omega)))
        rw [e]
        exact ⟨_, rfl, rfl, ⟨_, _, _, _, W, T, maR1 _, ⟨R, ok, iv⟩, P, Kp, L, H, Sw, h5⟩⟩
      · skip
        refine xr_goto (tgt := 100) dX12_enough_84 (by decide) ?_
        have c1 := bI_0.mp zc56
        have c2 : ¬ γ 10 + γ 11 = 0 := fun q => zc81 ((sum0 okt).mpr q)
        exact hc ((twN_s φ r k γ).trans ((if_neg c2).trans (if_neg c1))) okt Rt (xMz_jj (by decide) (xMz_of W))
    · skip
      refine xr_al0 dX12_enough_59 ?_
      refine xr_al0 dX12_enough_60 ?_
      refine xr_get W.o fX12_42 rfl dX12_enough_61 ?_
      refine xr_Vpi1 (s_mGoNext (Or.inr rfl) W (L _) okt Rt) kX12_250 (by decide) (Nat.le_of_ble_eq_true rfl) (Nat.zero_add _) (Nat.zero_add _) dX12_enough_64 (fun zv64 zh1 zq1 => ?_)
      obtain ⟨rfl, w9, R9, q9⟩ := zq1
      have q9 := xMz_jj (by decide) q9
      have okn := hOk_run okt φ
      have R9 : rr (hRun φ γ) w9 := by
        rw [hRun_y (Decidable.not_not.mp (fun q => zc56 (bI_0.mpr q)))]
        exact R9
      obtain ⟨za, zb, zc, zd, ze, zrd, z8, W⟩ := xMz_out (by decide) q9
      refine xr_pop dX12_enough_67 rfl ?_
      refine xr_inc2 dX12_enough_68 (nI_inc k) (by decide) rfl ?_
      refine xr_goto (tgt := 49) dX12_enough_71 (by decide) ?_
      have c1 := (Decidable.not_not.mp (fun q => zc56 (bI_0.mpr q)))
      have l0 := run_len φ c1 okt (s := 0) (by decide)
      have l1 := run_len φ c1 okt (s := 1) (by decide)
      have s1 := okt.2.2.1
      have nz := mt (sumL0 okt).mpr c1.1
      rw [(twN_s φ r k γ).trans ((if_neg c1.1).trans (if_pos c1))] at hz hc
      exact ih (k + 1) hz hc okn R9 q9 (by omega) (by omega) (by omega)
set_option maxRecDepth 20000 in
theorem lp_mEnO {K : xK} {B : Nat} {l : Launch} {h0 : xH} {Y : Nat} {m : xs} {u : Nat → Nat → Int32} {v : Nat → Int64} {tn : Nat} {tf : xs} {rk : Int32} {rv : Nat → Int64} {σ : xs} {pn : Nat} {τ : Nat → xs} {ks : Nat → Bool} {κ : Nat → xs} {φ : xs → Int32} {hn : Nat} {hf hg : xs} {wn : Nat} {wf wg : xs} (C : maC K B l Y m u v tn tf rk rv σ pn τ ks κ φ hn hf hg wn wf wg) (h5 : m 5 = 0) : ∀ (r c : Nat) {h : xH} {w : xs} {x2 : Option Value} (q9 : xMz K h0 h Y m (Y + 6) (Y + 7) (uu u 11 w) v), c + r = 1000 → xT K B l 206 RX12 false cX12_enough 3 (some .int) 0 0 0 0 (xPi (fun zr g => zr = (enN φ σ rk rv r c).1 ∧ xMa K B l h0 g Y 0 tn tf ((enN φ σ rk rv r c).2.1) ((enN φ σ rk rv r c).2.2) σ pn τ ks κ φ hn hf hg wn wf wg)) 20 [some (.ref Y), some (.int (nI c)), x2] [] h := by
  obtain ⟨T, Rw, ⟨R, ok, iv⟩, P, Kp, L, H, Sw⟩ := id C
  intro r
  induction r with
  | zero =>
    intro c h w x2 q9 hk
    obtain ⟨za, zb, zc, zd, ze, zrd, z8, W⟩ := xMz_out (by decide) q9
    refine xr_il1 dX12_enough_20 ?_
    refine xr_sipush (v := 999) dX12_enough_21 (by decide) ?_
    refine xr_icmpgt (tgt := 106) dX12_enough_24 (by decide) (fun zc24 => ?_) (fun zc24 => ?_)
    · skip
      refine xr_bipush (v := (-2)) dX12_enough_106 (by decide) ?_
      refine xr_iret dX12_enough_108 rfl ?_
      exact ⟨_, rfl, rfl, ⟨_, _, _, _, W, T, Rw, ⟨R, ok, iv⟩, P, Kp, L, H, Sw, h5⟩⟩
    · skip
      exact absurd (nI_lt (a := 999) (by omega) (by omega)) zc24
  | succ r ih =>
    intro c h w x2 q9 hk
    obtain ⟨za, zb, zc, zd, ze, zrd, z8, W⟩ := xMz_out (by decide) q9
    refine xr_il1 dX12_enough_20 ?_
    refine xr_sipush (v := 999) dX12_enough_21 (by decide) ?_
    refine xr_icmpgt (tgt := 106) dX12_enough_24 (by decide) (fun zc24 => ?_) (fun zc24 => ?_)
    · skip
      exact absurd zc24 (nI_nlt (a := 999) (by omega) (by decide))
    · skip
      refine xr_al0 dX12_enough_27 ?_
      refine xr_get W.o fX12_9 rfl dX12_enough_28 ?_
      refine xr_al0 dX12_enough_31 ?_
      refine xr_get W.o fX12_42 rfl dX12_enough_32 ?_
      refine xr_ic0 dX12_enough_35 ?_
      refine xr_Sv3 (s_mLay (k := 0) W.a1 W.a11 (by omega) (by decide) (by decide)) kX12_210 (by decide) (Nat.le_of_ble_eq_true rfl) (Nat.zero_add _) (Nat.zero_add _) dX12_enough_36 ?_
      refine xT.nm (fun zh1 zg1 => ?_)
      have W := W.p11 zg1
      have Rt := rr_lay R ok w
      refine xr_al0 dX12_enough_39 ?_
      refine xr_get W.o fX12_42 rfl dX12_enough_40 ?_
      refine xr_bipush (v := 14) dX12_enough_43 (by decide) ?_
      refine xr_il1 dX12_enough_45 ?_
      refine xr_iast W.a11 (xix_lit (j := 14) (by decide)) dX12_enough_46 ?_
      refine xT.nm (fun zh2 zg2 => ?_)
      have W := W.p11 zg2
      refine xr_ic0 dX12_enough_47 ?_
      refine xr_is2 dX12_enough_48 (by decide) rfl ?_
      have Rt := rr_upd Rt (i := 14) (by decide) (nI c)
      have okt : hOk (upd σ 14 (nI c)) := hOk_upd ok (by decide) _
      have W : xMw K h0 zh2 Y (scm m za zb zc zd ze) zrd (Y + 6) (Y + 7) (uu (uu u 8 z8) 11 (upd (lyK w (u 1) 0 19) 14 (nI c))) v := by
        rw [uu_uu, uu_uu] at W
        exact W
      have l0 := (okt.1 0 (by decide)).2
      have l1 := (okt.1 1 (by decide)).2
      refine lp_mEnI C h5 6 0 (fun q => (enN_s φ σ rk rv r c).trans (if_neg q)) (fun q h w γ x2 okt Rt q9 => ?_) okt Rt (xMz_jj (by decide) (xMz_of W)) (by omega) (by omega) (by omega)
      rw [(enN_s φ σ rk rv r c).trans (if_pos q)]
      refine xr_inc1 dX12_enough_100 (nI_inc c) (by decide) rfl ?_
      refine xr_goto (tgt := 20) dX12_enough_103 (by decide) ?_
      exact ih (c + 1) q9 (by omega)
set_option maxRecDepth 20000 in
theorem a_enough {K : xK} {B : Nat} {l : Launch} {h0 h : xH} {Y : Nat} {th : Int32} {tn : Nat} {tf : xs} {rk : Int32} {rv : Nat → Int64} {σ : xs} {pn : Nat} {τ : Nat → xs} {ks : Nat → Bool} {κ : Nat → xs} {φ : xs → Int32} {hn : Nat} {hf hg : xs} {wn : Nat} {wf wg : xs} (A : xMa K B l h0 h Y th tn tf rk rv σ pn τ ks κ φ hn hf hg wn wf wg)  : xV K B l 206 mX12_enough 0 0 (Y) [] h (xPi (fun zr g => zr = (enR φ σ rk rv).1 ∧ xMa K B l h0 g Y 0 tn tf ((enR φ σ rk rv).2.1) ((enR φ σ rk rv).2.2) σ pn τ ks κ φ hn hf hg wn wf wg)) := by
  obtain ⟨m, rd, u, v, W, T, Rw, ⟨R, ok, iv⟩, P, Kp, L, H, Sw, hth⟩ := A
  refine ⟨⟨_, _, _, _, W.o, rfl⟩, qX12_enough, ?_⟩
  refine xS.intro RX12 false ⟨rfl, rfl, by decide, by decide, Nat.le_of_ble_eq_true rfl⟩ (ls := [some (.ref Y), none, none]) rfl ?_
  refine xr_al0 dX12_enough_0 ?_
  refine xr_ic0 dX12_enough_1 ?_
  refine xr_put W.o fX12_82 (Nat.le_of_ble_eq_true rfl) rfl rfl dX12_enough_2 ?_
  refine xT.nm (fun zh1 zg1 => ?_)
  have W := W.f5 zg1
  refine xr_al0 dX12_enough_5 ?_
  refine xr_get W.o fX12_9 rfl dX12_enough_6 ?_
  refine xr_Si1 (s_mWaits W.a1) kX12_240 (by decide) (Nat.le_of_ble_eq_true rfl) (Nat.zero_add _) (Nat.zero_add _) dX12_enough_9 ?_
  refine xr_eqi (y := σ 10 + σ 11) (rr_sum R) ?_
  refine xr_ifne (tgt := 18) dX12_enough_12 (by decide) (fun zc12 => ?_) (fun zc12 => ?_)
  · skip
    refine xr_ic0 dX12_enough_18 ?_
    refine xr_is1 dX12_enough_19 (by decide) rfl ?_
    rw [en_all φ ok zc12]
    have C : maC K B l Y (upd m 5 0) u v tn tf rk rv σ pn τ ks κ φ hn hf hg wn wf wg := ⟨T, Rw, ⟨R, ok, iv⟩, P, Kp, L, H, Sw⟩
    exact lp_mEnO C rfl 1000 0 (w := u 11) (xMz_of (by rw [uu_id]; exact W)) rfl
  · skip
    refine xr_bipush (v := (-3)) dX12_enough_15 (by decide) ?_
    refine xr_iret dX12_enough_17 rfl ?_
    have e : (enR φ σ rk rv) = _ := if_pos zc12
    rw [e]
    exact ⟨_, rfl, rfl, ⟨_, _, _, _, W, T, Rw, ⟨R, ok, iv⟩, P, Kp, L, H, Sw, rfl⟩⟩
set_option maxRecDepth 20000 in
theorem a_count {K : xK} {B : Nat} {l : Launch} {h0 h : xH} {Y : Nat} {th : Int32} {tn : Nat} {tf : xs} {rk : Int32} {rv : Nat → Int64} {σ : xs} {pn : Nat} {τ : Nat → xs} {ks : Nat → Bool} {κ : Nat → xs} {φ : xs → Int32} {hn : Nat} {hf hg : xs} {wn : Nat} {wf wg : xs} (A : xMa K B l h0 h Y th tn tf rk rv σ pn τ ks κ φ hn hf hg wn wf wg) (c : Int32) : xV K B l 206 mX12_count 0 0 (Y) [.int c] h (xPi (fun zr g => zr = ctV σ φ hn wn pn rk tn c ∧ xMa K B l h0 g Y 0 tn tf rk rv σ pn τ ks κ φ hn hf hg wn wf wg)) := by
  obtain ⟨m, rd, u, v, W, T, Rw, ⟨R, ok, iv⟩, P, Kp, L, H, Sw, hth⟩ := A
  refine ⟨⟨_, _, _, _, W.o, rfl⟩, qX12_count, ?_⟩
  refine xS.intro RX12 false ⟨rfl, rfl, by decide, by decide, Nat.le_of_ble_eq_true rfl⟩ (ls := [some (.ref Y), some (.int c)]) rfl ?_
  refine xr_al0 dX12_count_0 ?_
  refine xr_ic0 dX12_count_1 ?_
  refine xr_put W.o fX12_82 (Nat.le_of_ble_eq_true rfl) rfl rfl dX12_count_2 ?_
  refine xT.nm (fun zh1 zg1 => ?_)
  have W := W.f5 zg1
  refine xr_il1 dX12_count_5 ?_
  by_cases hlo : c.toInt < (0 : Int) ∨ (14 : Int) < c.toInt
  · skip
    refine xr_tabOut (tgt := 186) dX12_count_6 hlo (by decide) ?_
    refine xr_icm1 dX12_count_186 ?_
    refine xr_iret dX12_count_187 rfl ?_
    rw [ctV_out _ _ _ _ _ _ _ hlo]
    exact ⟨_, rfl, rfl, ⟨_, _, _, _, W, T, Rw, ⟨R, ok, iv⟩, P, Kp, L, H, Sw, rfl⟩⟩
  · skip
    obtain ⟨zj, hzj, rfl⟩ := tab_in (lo := 0) (hi := 14) (by decide) hlo
    rcases (show zj = 0 ∨ zj = 1 ∨ zj = 2 ∨ zj = 3 ∨ zj = 4 ∨ zj = 5 ∨ zj = 6 ∨ zj = 7 ∨ zj = 8 ∨ zj = 9 ∨ zj = 10 ∨ zj = 11 ∨ zj = 12 ∨ zj = 13 ∨ zj = 14 by omega) with rfl | rfl | rfl | rfl | rfl | rfl | rfl | rfl | rfl | rfl | rfl | rfl | rfl | rfl | rfl
    · skip
      refine xr_tabIn (tgt := 80) dX12_count_6 (by decide) (by decide) rfl (by decide) ?_
      refine xr_al0 dX12_count_80 ?_
      refine xr_get W.o fX12_9 rfl dX12_count_81 ?_
      refine xr_bipush (v := 10) dX12_count_84 (by decide) ?_
      refine xr_iald W.a1 (xix_lit (j := 10) (by decide)) dX12_count_86 ?_
      refine xr_iret dX12_count_87 rfl ?_
      exact ⟨_, rfl, R.1 10 (by omega) (by omega), ⟨_, _, _, _, W, T, Rw, ⟨R, ok, iv⟩, P, Kp, L, H, Sw, rfl⟩⟩
    · skip
      refine xr_tabIn (tgt := 88) dX12_count_6 (by decide) (by decide) rfl (by decide) ?_
      refine xr_al0 dX12_count_88 ?_
      refine xr_get W.o fX12_9 rfl dX12_count_89 ?_
      refine xr_bipush (v := 11) dX12_count_92 (by decide) ?_
      refine xr_iald W.a1 (xix_lit (j := 11) (by decide)) dX12_count_94 ?_
      refine xr_iret dX12_count_95 rfl ?_
      exact ⟨_, rfl, R.1 11 (by omega) (by omega), ⟨_, _, _, _, W, T, Rw, ⟨R, ok, iv⟩, P, Kp, L, H, Sw, rfl⟩⟩
    · skip
      refine xr_tabIn (tgt := 96) dX12_count_6 (by decide) (by decide) rfl (by decide) ?_
      refine xr_al0 dX12_count_96 ?_
      refine xr_get W.o fX12_9 rfl dX12_count_97 ?_
      refine xr_bipush (v := 12) dX12_count_100 (by decide) ?_
      refine xr_iald W.a1 (xix_lit (j := 12) (by decide)) dX12_count_102 ?_
      refine xr_iret dX12_count_103 rfl ?_
      exact ⟨_, rfl, R.1 12 (by omega) (by omega), ⟨_, _, _, _, W, T, Rw, ⟨R, ok, iv⟩, P, Kp, L, H, Sw, rfl⟩⟩
    · skip
      refine xr_tabIn (tgt := 104) dX12_count_6 (by decide) (by decide) rfl (by decide) ?_
      refine xr_al0 dX12_count_104 ?_
      refine xr_get W.o fX12_9 rfl dX12_count_105 ?_
      refine xr_bipush (v := 13) dX12_count_108 (by decide) ?_
      refine xr_iald W.a1 (xix_lit (j := 13) (by decide)) dX12_count_110 ?_
      refine xr_iret dX12_count_111 rfl ?_
      exact ⟨_, rfl, R.1 13 (by omega) (by omega), ⟨_, _, _, _, W, T, Rw, ⟨R, ok, iv⟩, P, Kp, L, H, Sw, rfl⟩⟩
    · skip
      refine xr_tabIn (tgt := 112) dX12_count_6 (by decide) (by decide) rfl (by decide) ?_
      refine xr_al0 dX12_count_112 ?_
      refine xr_get W.o fX12_9 rfl dX12_count_113 ?_
      refine xr_bipush (v := 14) dX12_count_116 (by decide) ?_
      refine xr_iald W.a1 (xix_lit (j := 14) (by decide)) dX12_count_118 ?_
      refine xr_iret dX12_count_119 rfl ?_
      exact ⟨_, rfl, R.1 14 (by omega) (by omega), ⟨_, _, _, _, W, T, Rw, ⟨R, ok, iv⟩, P, Kp, L, H, Sw, rfl⟩⟩
    · skip
      refine xr_tabIn (tgt := 120) dX12_count_6 (by decide) (by decide) rfl (by decide) ?_
      refine xr_al0 dX12_count_120 ?_
      refine xr_get W.o fX12_9 rfl dX12_count_121 ?_
      refine xr_bipush (v := 15) dX12_count_124 (by decide) ?_
      refine xr_iald W.a1 (xix_lit (j := 15) (by decide)) dX12_count_126 ?_
      refine xr_iret dX12_count_127 rfl ?_
      exact ⟨_, rfl, R.1 15 (by omega) (by omega), ⟨_, _, _, _, W, T, Rw, ⟨R, ok, iv⟩, P, Kp, L, H, Sw, rfl⟩⟩
    · skip
      refine xr_tabIn (tgt := 128) dX12_count_6 (by decide) (by decide) rfl (by decide) ?_
      refine xr_al0 dX12_count_128 ?_
      refine xr_get W.o fX12_9 rfl dX12_count_129 ?_
      refine xr_bipush (v := 16) dX12_count_132 (by decide) ?_
      refine xr_iald W.a1 (xix_lit (j := 16) (by decide)) dX12_count_134 ?_
      refine xr_iret dX12_count_135 rfl ?_
      exact ⟨_, rfl, R.1 16 (by omega) (by omega), ⟨_, _, _, _, W, T, Rw, ⟨R, ok, iv⟩, P, Kp, L, H, Sw, rfl⟩⟩
    · skip
      refine xr_tabIn (tgt := 136) dX12_count_6 (by decide) (by decide) rfl (by decide) ?_
      refine xr_al0 dX12_count_136 ?_
      refine xr_get W.o fX12_9 rfl dX12_count_137 ?_
      refine xr_bipush (v := 17) dX12_count_140 (by decide) ?_
      refine xr_iald W.a1 (xix_lit (j := 17) (by decide)) dX12_count_142 ?_
      refine xr_iret dX12_count_143 rfl ?_
      exact ⟨_, rfl, R.1 17 (by omega) (by omega), ⟨_, _, _, _, W, T, Rw, ⟨R, ok, iv⟩, P, Kp, L, H, Sw, rfl⟩⟩
    · skip
      refine xr_tabIn (tgt := 144) dX12_count_6 (by decide) (by decide) rfl (by decide) ?_
      refine xr_al0 dX12_count_144 ?_
      refine xr_get W.o fX12_9 rfl dX12_count_145 ?_
      refine xr_bipush (v := 18) dX12_count_148 (by decide) ?_
      refine xr_iald W.a1 (xix_lit (j := 18) (by decide)) dX12_count_150 ?_
      refine xr_iret dX12_count_151 rfl ?_
      exact ⟨_, rfl, R.1 18 (by omega) (by omega), ⟨_, _, _, _, W, T, Rw, ⟨R, ok, iv⟩, P, Kp, L, H, Sw, rfl⟩⟩
    · skip
      refine xr_tabIn (tgt := 152) dX12_count_6 (by decide) (by decide) rfl (by decide) ?_
      refine xr_al0 dX12_count_152 ?_
      refine xr_al0 dX12_count_153 ?_
      refine xr_get W.o fX12_9 rfl dX12_count_154 ?_
      refine xr_Vpi1 ((L _) _ _ _ _ _ _ _ _ _ (Or.inl rfl) (xMw_id1 W) rfl rfl rfl σ ok R) kX12_214 (by decide) (Nat.le_of_ble_eq_true rfl) (Nat.zero_add _) (Nat.zero_add _) dX12_count_157 (fun zv157 zh2 zq2 => ?_)
      obtain ⟨rfl, q9⟩ := zq2
      obtain ⟨za, zb, zc, zd, ze, zrd, z8, q9⟩ := q9
      refine xr_iret dX12_count_160 rfl ?_
      have W := q9
      exact ⟨_, rfl, rfl, ⟨_, _, _, _, W, T, Rw, ⟨R, ok, iv⟩, P, Kp, L, H, Sw, rfl⟩⟩
    · skip
      refine xr_tabIn (tgt := 161) dX12_count_6 (by decide) (by decide) rfl (by decide) ?_
      refine xr_al0 dX12_count_161 ?_
      refine xr_get W.o fX12_345 rfl dX12_count_162 ?_
      refine xr_iret dX12_count_165 rfl ?_
      exact ⟨_, rfl, H.1, ⟨_, _, _, _, W, T, Rw, ⟨R, ok, iv⟩, P, Kp, L, H, Sw, rfl⟩⟩
    · skip
      refine xr_tabIn (tgt := 166) dX12_count_6 (by decide) (by decide) rfl (by decide) ?_
      refine xr_al0 dX12_count_166 ?_
      refine xr_get W.o fX12_354 rfl dX12_count_167 ?_
      refine xr_iret dX12_count_170 rfl ?_
      exact ⟨_, rfl, Sw.1, ⟨_, _, _, _, W, T, Rw, ⟨R, ok, iv⟩, P, Kp, L, H, Sw, rfl⟩⟩
    · skip
      refine xr_tabIn (tgt := 171) dX12_count_6 (by decide) (by decide) rfl (by decide) ?_
      refine xr_al0 dX12_count_171 ?_
      refine xr_get W.o fX12_147 rfl dX12_count_172 ?_
      refine xr_iret dX12_count_175 rfl ?_
      exact ⟨_, rfl, P.1, ⟨_, _, _, _, W, T, Rw, ⟨R, ok, iv⟩, P, Kp, L, H, Sw, rfl⟩⟩
    · skip
      refine xr_tabIn (tgt := 176) dX12_count_6 (by decide) (by decide) rfl (by decide) ?_
      refine xr_al0 dX12_count_176 ?_
      refine xr_get W.o fX12_86 rfl dX12_count_177 ?_
      refine xr_iret dX12_count_180 rfl ?_
      obtain ⟨n4, h4, e4', e4, hv4⟩ := id Rw
      have e4 : rk = m 4 := by rw [e4', e4]
      exact ⟨_, rfl, e4.symm, ⟨_, _, _, _, W, T, Rw, ⟨R, ok, iv⟩, P, Kp, L, H, Sw, rfl⟩⟩
    · skip
      refine xr_tabIn (tgt := 181) dX12_count_6 (by decide) (by decide) rfl (by decide) ?_
      refine xr_al0 dX12_count_181 ?_
      refine xr_get W.o fX12_93 rfl dX12_count_182 ?_
      refine xr_iret dX12_count_185 rfl ?_
      exact ⟨_, rfl, T.1, ⟨_, _, _, _, W, T, Rw, ⟨R, ok, iv⟩, P, Kp, L, H, Sw, rfl⟩⟩
