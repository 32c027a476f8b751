/-! The model in the class's words: day, the call (written by wip/whole/mod41.py) -/
set_option maxRecDepth 20000 in
theorem lp_mDayE {K : xK} {B : Nat} {l : Launch} {h0 : xH} {Y : Nat} {m : xs} {u : Nat → Nat → Int32} {v : Nat → Int64} {tf : xs} {rk : Int32} {rv : Nat → Int64} {σ : xs} {pn : Nat} {τ : Nat → xs} {ks : Nat → Bool} {κ : Nat → xs} {φ : xs → Int32} {hn : Nat} {hf hg : xs} {wn : Nat} {wf wg : xs} (C : maC K B l Y m u v 0 tf rk rv σ pn τ ks κ φ hn hf hg wn wf wg) (h5 : m 5 = 0) {tn n k : Nat} (hk : k ≤ n) (hn60 : n ≤ 60) (ra : rr σ (u 10)) (ef : (fdO tf tn 60 0) = -1) {s' : Int32} (hs' : (k < n → s' = 1) ∧ (n ≤ k → s' = 0)) {h : xH} {w γ : xs} (okt : hOk γ) (ivt : hIv γ) (Rt : rr γ w) (eg : (daN φ tf tn 60 0 0 (σ, rk, rv)) = (nI k, s', γ)) (q9 : xMz22 K h0 h Y m (Y + 6) (Y + 7) (uu u 1 w) v) : xT K B l 207 RX12 false cX12_day 3 (some .int) 0 0 0 0 (xPi (fun zr g => (¬ (fdO tf tn 60 0) = -1 ∧ zr = -1 - (fdO tf tn 60 0) ∧ xMa K B l h0 g Y 0 0 tf rk rv σ pn τ ks κ φ hn hf hg wn wf wg) ∨ ((fdO tf tn 60 0) = -1 ∧ zr = (daN φ tf tn 60 0 0 (σ, rk, rv)).1 ∧ ∀ rw' : Nat → Int64, xMa K B l h0 g Y 0 0 tf 2 (daV rw' (daN φ tf tn 60 0 0 (σ, rk, rv)).2.1 ((daN φ tf tn 60 0 0 (σ, rk, rv)).2.2 14)) ((daN φ tf tn 60 0 0 (σ, rk, rv)).2.2) (if (daN φ tf tn 60 0 0 (σ, rk, rv)).1 ≤ 0 then pn else psn pn) (if (daN φ tf tn 60 0 0 (σ, rk, rv)).1 ≤ 0 then τ else psh pn τ σ) ks κ φ hn hf hg wn wf wg))) 118 [some (.ref Y), some (.int (nI n)), some (.int (nI k))] [] h := by
  obtain ⟨T, Rw, ⟨R, ok, iv⟩, P, Kp, L, H, Sw⟩ := id C
  obtain ⟨x22, za, zb, zc, zd, ze, zrd, z8, W⟩ := q9
  rw [uu_cm _ _ _ (show (1 : Nat) ≠ 8 by decide)] at W
  refine xr_il2 dX12_day_118 ?_
  refine xr_ifle (tgt := 130) dX12_day_119 (by decide) (fun zc119 => ?_) (fun zc119 => ?_)
  · skip
    refine xr_al0 dX12_day_130 ?_
    refine xr_ic0 dX12_day_131 ?_
    refine xr_put W.o fX12_86 (Nat.le_of_ble_eq_true rfl) rfl rfl dX12_day_132 ?_
    refine xT.nm (fun zh1 zg1 => ?_)
    have W := W.f4 zg1
    refine xr_al0 dX12_day_135 ?_
    refine xr_il2 dX12_day_136 ?_
    refine xr_il1 dX12_day_137 ?_
    refine xr_icmpge (tgt := 145) dX12_day_138 (by decide) (fun zc138 => ?_) (fun zc138 => ?_)
    · skip
      refine xr_lc0 dX12_day_145 ?_
      refine xr_Vpv1 (s_mTell W (k := 0) rfl (by decide) _) kX12_253 (by decide) (Nat.le_of_ble_eq_true rfl) (Nat.zero_add _) (Nat.zero_add _) dX12_day_146 (fun zh2 zq2 => ?_)
      have W := zq2
      refine xr_al0 dX12_day_149 ?_
      refine xr_al0 dX12_day_150 ?_
      refine xr_get W.o fX12_9 rfl dX12_day_151 ?_
      refine xr_bipush (v := 14) dX12_day_154 (by decide) ?_
      refine xr_iald W.a1 (xix_lit (j := 14) (by decide)) dX12_day_156 ?_
      refine xr_eqi (y := γ 14) (Rt.1 14 (by omega) (by omega)) ?_
      refine xr_i2l dX12_day_157 ?_
      refine xr_Vpv1 (s_mTell W (k := 1) rfl (by decide) _) kX12_253 (by decide) (Nat.le_of_ble_eq_true rfl) (Nat.zero_add _) (Nat.zero_add _) dX12_day_158 (fun zh3 zq3 => ?_)
      have W := zq3
      refine xr_il2 dX12_day_161 ?_
      refine xr_iret dX12_day_162 rfl ?_
      refine ⟨_, rfl, Or.inr ⟨ef, by rw [eg], fun rw' => ?_⟩⟩
      rw [if_pos (by rw [eg]; exact zc119), if_pos (by rw [eg]; exact zc119), eg]
      refine ⟨_, _, _, _, W, T, ?_, ⟨Rt, okt, ivt⟩, P, Kp, L, H, Sw, h5⟩
      show maR 2 _ 2 (daV rw' s' (γ 14))
      refine ⟨2, by decide, rfl, rfl, fun j hj => ?_⟩
      rcases (show j = 0 ∨ j = 1 by omega) with rfl | rfl
      · show _ = (if s' = 0 then (0 : Int64) else 1)
        rw [hs'.2 ((nI_leI (by omega) (by omega)).mp zc138)]
        rfl
      · rfl
    · skip
      refine xr_lc1 dX12_day_141 ?_
      refine xr_goto (tgt := 146) dX12_day_142 (by decide) ?_
      refine xr_Vpv1 (s_mTell W (k := 0) rfl (by decide) _) kX12_253 (by decide) (Nat.le_of_ble_eq_true rfl) (Nat.zero_add _) (Nat.zero_add _) dX12_day_146 (fun zh2 zq2 => ?_)
      have W := zq2
      refine xr_al0 dX12_day_149 ?_
      refine xr_al0 dX12_day_150 ?_
      refine xr_get W.o fX12_9 rfl dX12_day_151 ?_
      refine xr_bipush (v := 14) dX12_day_154 (by decide) ?_
      refine xr_iald W.a1 (xix_lit (j := 14) (by decide)) dX12_day_156 ?_
      refine xr_eqi (y := γ 14) (Rt.1 14 (by omega) (by omega)) ?_
      refine xr_i2l dX12_day_157 ?_
      refine xr_Vpv1 (s_mTell W (k := 1) rfl (by decide) _) kX12_253 (by decide) (Nat.le_of_ble_eq_true rfl) (Nat.zero_add _) (Nat.zero_add _) dX12_day_158 (fun zh3 zq3 => ?_)
      have W := zq3
      refine xr_il2 dX12_day_161 ?_
      refine xr_iret dX12_day_162 rfl ?_
      refine ⟨_, rfl, Or.inr ⟨ef, by rw [eg], fun rw' => ?_⟩⟩
      rw [if_pos (by rw [eg]; exact zc119), if_pos (by rw [eg]; exact zc119), eg]
      refine ⟨_, _, _, _, W, T, ?_, ⟨Rt, okt, ivt⟩, P, Kp, L, H, Sw, h5⟩
      show maR 2 _ 2 (daV rw' s' (γ 14))
      refine ⟨2, by decide, rfl, rfl, fun j hj => ?_⟩
      rcases (show j = 0 ∨ j = 1 by omega) with rfl | rfl
      · show _ = (if s' = 0 then (0 : Int64) else 1)
        rw [hs'.1 (Nat.lt_of_not_le (fun q => zc138 (nI_le q (by omega))))]
        rfl
      · rfl
  · skip
    refine xr_al0 dX12_day_122 ?_
    refine xr_al0 dX12_day_123 ?_
    refine xr_get W.o fX12_39 rfl dX12_day_124 ?_
    refine xr_Vpv1 (s_mRemA W (n := pn) P.1 P.2.1) kX12_260 (by decide) (Nat.le_of_ble_eq_true rfl) (Nat.zero_add _) (Nat.zero_add _) dX12_day_127 (fun zh1 zq1 => ?_)
    have W := zq1
    refine xr_al0 dX12_day_130 ?_
    refine xr_ic0 dX12_day_131 ?_
    refine xr_put W.o fX12_86 (Nat.le_of_ble_eq_true rfl) rfl rfl dX12_day_132 ?_
    refine xT.nm (fun zh2 zg2 => ?_)
    have W := W.f4 zg2
    refine xr_al0 dX12_day_135 ?_
    refine xr_il2 dX12_day_136 ?_
    refine xr_il1 dX12_day_137 ?_
    refine xr_icmpge (tgt := 145) dX12_day_138 (by decide) (fun zc138 => ?_) (fun zc138 => ?_)
    · skip
      refine xr_lc0 dX12_day_145 ?_
      refine xr_Vpv1 (s_mTell W (k := 0) rfl (by decide) _) kX12_253 (by decide) (Nat.le_of_ble_eq_true rfl) (Nat.zero_add _) (Nat.zero_add _) dX12_day_146 (fun zh3 zq3 => ?_)
      have W := zq3
      refine xr_al0 dX12_day_149 ?_
      refine xr_al0 dX12_day_150 ?_
      refine xr_get W.o fX12_9 rfl dX12_day_151 ?_
      refine xr_bipush (v := 14) dX12_day_154 (by decide) ?_
      refine xr_iald W.a1 (xix_lit (j := 14) (by decide)) dX12_day_156 ?_
      refine xr_eqi (y := γ 14) (Rt.1 14 (by omega) (by omega)) ?_
      refine xr_i2l dX12_day_157 ?_
      refine xr_Vpv1 (s_mTell W (k := 1) rfl (by decide) _) kX12_253 (by decide) (Nat.le_of_ble_eq_true rfl) (Nat.zero_add _) (Nat.zero_add _) dX12_day_158 (fun zh4 zq4 => ?_)
      have W := zq4
      refine xr_il2 dX12_day_161 ?_
      refine xr_iret dX12_day_162 rfl ?_
      refine ⟨_, rfl, Or.inr ⟨ef, by rw [eg], fun rw' => ?_⟩⟩
      rw [if_neg (by rw [eg]; show ¬ nI k ≤ 0; exact zc119), if_neg (by rw [eg]; show ¬ nI k ≤ 0; exact zc119), eg]
      refine ⟨_, _, _, _, W, T, ?_, ⟨Rt, okt, ivt⟩, maP_rem (maP_eq P) ⟨ra, ok, iv⟩, Kp, L, H, Sw, h5⟩
      show maR 2 _ 2 (daV rw' s' (γ 14))
      refine ⟨2, by decide, rfl, rfl, fun j hj => ?_⟩
      rcases (show j = 0 ∨ j = 1 by omega) with rfl | rfl
      · show _ = (if s' = 0 then (0 : Int64) else 1)
        rw [hs'.2 ((nI_leI (by omega) (by omega)).mp zc138)]
        rfl
      · rfl
    · skip
      refine xr_lc1 dX12_day_141 ?_
      refine xr_goto (tgt := 146) dX12_day_142 (by decide) ?_
      refine xr_Vpv1 (s_mTell W (k := 0) rfl (by decide) _) kX12_253 (by decide) (Nat.le_of_ble_eq_true rfl) (Nat.zero_add _) (Nat.zero_add _) dX12_day_146 (fun zh3 zq3 => ?_)
      have W := zq3
      refine xr_al0 dX12_day_149 ?_
      refine xr_al0 dX12_day_150 ?_
      refine xr_get W.o fX12_9 rfl dX12_day_151 ?_
      refine xr_bipush (v := 14) dX12_day_154 (by decide) ?_
      refine xr_iald W.a1 (xix_lit (j := 14) (by decide)) dX12_day_156 ?_
      refine xr_eqi (y := γ 14) (Rt.1 14 (by omega) (by omega)) ?_
      refine xr_i2l dX12_day_157 ?_
      refine xr_Vpv1 (s_mTell W (k := 1) rfl (by decide) _) kX12_253 (by decide) (Nat.le_of_ble_eq_true rfl) (Nat.zero_add _) (Nat.zero_add _) dX12_day_158 (fun zh4 zq4 => ?_)
      have W := zq4
      refine xr_il2 dX12_day_161 ?_
      refine xr_iret dX12_day_162 rfl ?_
      refine ⟨_, rfl, Or.inr ⟨ef, by rw [eg], fun rw' => ?_⟩⟩
      rw [if_neg (by rw [eg]; show ¬ nI k ≤ 0; exact zc119), if_neg (by rw [eg]; show ¬ nI k ≤ 0; exact zc119), eg]
      refine ⟨_, _, _, _, W, T, ?_, ⟨Rt, okt, ivt⟩, maP_rem (maP_eq P) ⟨ra, ok, iv⟩, Kp, L, H, Sw, h5⟩
      show maR 2 _ 2 (daV rw' s' (γ 14))
      refine ⟨2, by decide, rfl, rfl, fun j hj => ?_⟩
      rcases (show j = 0 ∨ j = 1 by omega) with rfl | rfl
      · show _ = (if s' = 0 then (0 : Int64) else 1)
        rw [hs'.1 (Nat.lt_of_not_le (fun q => zc138 (nI_le q (by omega))))]
        rfl
      · rfl
theorem xMz22_jn {K : xK} {h0 h : xH} {Y : Nat} {m : Nat → Int32} {ru ot : Nat} {u : Nat → Nat → Int32} {v : Nat → Int64} {x a b c d e : Int32} {w w8 : xs} (S : xMz22 K h0 h Y (scm (upd m 22 x) a b c d e) ru ot (uu (uu u 8 w8) 1 w) v) : xMz22 K h0 h Y m ru ot (uu u 1 w) v := by
  obtain ⟨y, p1, p2, p3, p4, p5, rd, w', q⟩ := S
  refine ⟨y, p1, p2, p3, p4, p5, rd, w', ?_⟩
  rw [← scm_upd (upd m 22 x) _ _ _ _ _ _ (by decide), upd_upd, scm_scm, uu_cm _ _ _ (show (1 : Nat) ≠ 8 by decide), uu_uu] at q
  rw [uu_cm _ _ _ (show (1 : Nat) ≠ 8 by decide)]
  exact q
set_option maxRecDepth 20000 in
theorem lp_mDayX {K : xK} {B : Nat} {l : Launch} {h0 : xH} {Y : Nat} {m : xs} {u : Nat → Nat → Int32} {v : Nat → Int64} {tf : xs} {rk : Int32} {rv : Nat → Int64} {σ : xs} {pn : Nat} {τ : Nat → xs} {ks : Nat → Bool} {κ : Nat → xs} {φ : xs → Int32} {hn : Nat} {hf hg : xs} {wn : Nat} {wf wg : xs} (C : maC K B l Y m u v 0 tf rk rv σ pn τ ks κ φ hn hf hg wn wf wg) (h5 : m 5 = 0) {tn n : Nat} (h80 : tn ≤ 80) (hn60 : n ≤ 60) (ra : rr σ (u 10)) (ef : (fdO tf tn 60 0) = -1) (hI : ∀ i, i < n → dyI tf tn (u 12) i) (hend : psN tf n = tn) : ∀ (r k : Nat) {h : xH} {w γ : xs} (okt : hOk γ) (ivt : hIv γ) (Rt : rr γ w) {rk' : Int32} {rv' : Nat → Int64} (hD0 : daN φ tf tn (60 - k) (nI (psN tf k)) (nI k) (γ, rk', rv') = (daN φ tf tn 60 0 0 (σ, rk, rv))) (q9 : xMz22 K h0 h Y m (Y + 6) (Y + 7) (uu u 1 w) v), k + r = n → xT K B l 207 RX12 false cX12_day 3 (some .int) 0 0 0 0 (xPi (fun zr g => (¬ (fdO tf tn 60 0) = -1 ∧ zr = -1 - (fdO tf tn 60 0) ∧ xMa K B l h0 g Y 0 0 tf rk rv σ pn τ ks κ φ hn hf hg wn wf wg) ∨ ((fdO tf tn 60 0) = -1 ∧ zr = (daN φ tf tn 60 0 0 (σ, rk, rv)).1 ∧ ∀ rw' : Nat → Int64, xMa K B l h0 g Y 0 0 tf 2 (daV rw' (daN φ tf tn 60 0 0 (σ, rk, rv)).2.1 ((daN φ tf tn 60 0 0 (σ, rk, rv)).2.2 14)) ((daN φ tf tn 60 0 0 (σ, rk, rv)).2.2) (if (daN φ tf tn 60 0 0 (σ, rk, rv)).1 ≤ 0 then pn else psn pn) (if (daN φ tf tn 60 0 0 (σ, rk, rv)).1 ≤ 0 then τ else psh pn τ σ) ks κ φ hn hf hg wn wf wg))) 72 [some (.ref Y), some (.int (nI n)), some (.int (nI k))] [] h := by
  obtain ⟨T, Rw, ⟨R, ok, iv⟩, P, Kp, L, H, Sw⟩ := id C
  intro r
  induction r with
  | zero =>
    intro k h w γ okt ivt Rt rk' rv' hD0 q9 hk
    obtain ⟨x22, za, zb, zc, zd, ze, zrd, z8, W⟩ := q9
    rw [uu_cm _ _ _ (show (1 : Nat) ≠ 8 by decide)] at W
    refine xr_il2 dX12_day_72 ?_
    refine xr_il1 dX12_day_73 ?_
    refine xr_icmpge (tgt := 118) dX12_day_74 (by decide) (fun zc74 => ?_) (fun zc74 => ?_)
    · skip
      have kn : k = n := by omega
      have hD : daN φ tf tn (60 - k) (nI (psN tf k)) (nI k) (γ, rk', rv') = (nI k, 0, γ) := by
        by_cases q : k = 60
        · rw [q]
          rfl
        · rw [show 60 - k = (60 - (k + 1)) + 1 by omega, daN_s, if_pos (nI_le (by rw [kn]; omega) (by rw [kn]; omega))]
      rw [hD] at hD0
      exact lp_mDayE C h5 (by omega) (by omega) ra ef ⟨fun q => absurd q (by omega), fun _ => rfl⟩ okt ivt Rt hD0.symm (xMz22_jn (xMz22_of (xMz_of W)))
    · skip
      exact absurd (nI_le (by omega) (by omega)) zc74
  | succ r ih =>
    intro k h w γ okt ivt Rt rk' rv' hD0 q9 hk
    obtain ⟨x22, za, zb, zc, zd, ze, zrd, z8, W⟩ := q9
    rw [uu_cm _ _ _ (show (1 : Nat) ≠ 8 by decide)] at W
    obtain ⟨i1, i2, i3, i4, i5, i6⟩ := hI k (by omega)
    have an : tf (psN tf k) = 110 → ∃ A : Nat, A ≤ 9 ∧ u 12 (3 * k + 1) = nI A := fun e => by
      have z := i5 (by rw [e]; decide)
      rw [e] at z
      obtain ⟨z1, z2⟩ := z
      have y : ¬ tf (psN tf k + 1) < 48 ∧ ¬ 57 < tf (psN tf k + 1) := Decidable.not_not.mp (fun q => z1 (bI_0.mpr q))
      obtain ⟨j, hj, ej⟩ := nI_of (x := tf (psN tf k + 1)) (fun q => y.1 (Int32.lt_trans q (by decide)))
      rw [ej] at y z2
      have l1 : ¬ j < 48 := fun q => y.1 (nI_lt (b := 48) q (by decide))
      have l2 : ¬ 57 < j := fun q => y.2 (nI_lt (a := 57) q hj)
      exact ⟨j - 48, by omega, by rw [z2]; exact nI_sub (a := j) (b := 48) (by omega)⟩
    have pk := psN_le tf k
    have ps := psN_s tf k
    have l2 := (dgb_n i3).2
    have sl0 := sg_n (tf := tf) h80 (show psN tf k < tn by omega)
    have ea : acP φ tf tn (nI (psN tf k)) (γ, rk', rv') = acF φ γ rk' rv' (tf (psN tf k)) (u 12 (3 * k + 1)) (u 12 (3 * k + 2)) := by
      unfold acP
      rw [sl0]
      refine acF_cg (fun d1 => ?_) (fun d2 => ?_)
      · rw [(i5 d1).2, show nI (psN tf k) + 1 = nI (psN tf k + 1) from nI_1 _, sg_n h80 (by omega)]
      · rw [(i6 d2).2, show nI (psN tf k) + 2 = nI (psN tf k + 2) from nI_add _ 2, sg_n h80 (by omega)]
    have r60 : 60 - k = (60 - (k + 1)) + 1 := by omega
    refine xr_il2 dX12_day_72 ?_
    refine xr_il1 dX12_day_73 ?_
    refine xr_icmpge (tgt := 118) dX12_day_74 (by decide) (fun zc74 => ?_) (fun zc74 => ?_)
    · skip
      exact absurd zc74 (nI_ge (by omega) (by omega))
    · skip
      refine xr_al0 dX12_day_77 ?_
      refine xr_al0 dX12_day_78 ?_
      refine xr_get W.o fX12_45 rfl dX12_day_79 ?_
      refine xr_ic3 dX12_day_82 ?_
      refine xr_il2 dX12_day_83 ?_
      refine xr_imul dX12_day_84 ?_
      refine xr_eqi (y := nI (3 * k)) (pk_mul 3 k) ?_
      refine xr_iald W.a12 (xix_nI (n := 240) (j := 3 * k) (by omega) (by decide)) dX12_day_85 ?_
      refine xr_eqi (y := tf (psN tf k)) i4 ?_
      refine xr_al0 dX12_day_86 ?_
      refine xr_get W.o fX12_45 rfl dX12_day_87 ?_
      refine xr_ic3 dX12_day_90 ?_
      refine xr_il2 dX12_day_91 ?_
      refine xr_imul dX12_day_92 ?_
      refine xr_eqi (y := nI (3 * k)) (pk_mul 3 k) ?_
      refine xr_ic1 dX12_day_93 ?_
      refine xr_iadd dX12_day_94 ?_
      refine xr_eqi (y := nI (3 * k + 1)) (nI_1 _) ?_
      refine xr_iald W.a12 (xix_nI (n := 240) (j := 3 * k + 1) (by omega) (by decide)) dX12_day_95 ?_
      refine xr_eqi (y := u 12 (3 * k + 1)) rfl ?_
      refine xr_al0 dX12_day_96 ?_
      refine xr_get W.o fX12_45 rfl dX12_day_97 ?_
      refine xr_ic3 dX12_day_100 ?_
      refine xr_il2 dX12_day_101 ?_
      refine xr_imul dX12_day_102 ?_
      refine xr_eqi (y := nI (3 * k)) (pk_mul 3 k) ?_
      refine xr_ic2 dX12_day_103 ?_
      refine xr_iadd dX12_day_104 ?_
      refine xr_eqi (y := nI (3 * k + 2)) (nI_add _ 2) ?_
      refine xr_iald W.a12 (xix_nI (n := 240) (j := 3 * k + 2) (by omega) (by decide)) dX12_day_105 ?_
      refine xr_eqi (y := u 12 (3 * k + 2)) rfl ?_
      refine xr_Vpi3 (s_mAct W (L _) okt ivt Rt rk' rv' (dgb_let i3) (fun e => an e)) kX12_297 (by decide) (Nat.le_of_ble_eq_true rfl) (Nat.zero_add _) (Nat.zero_add _) dX12_day_106 (fun zv106 zh1 zq1 => ?_)
      rcases zq1 with ⟨y1, rfl, q9⟩ | ⟨y1, rfl, w9, R9, o9, v9, q9⟩
      · refine xr_ifeq (tgt := 118) dX12_day_109 (by decide) (fun zc109 => ?_) (fun zc109 => absurd rfl zc109)
        have q9 := xMz22_jn q9
        rw [r60, daN_s, if_neg (nI_ge (show psN tf k < tn by omega) (by omega)), ea] at hD0
        rw [if_pos y1, acF_neg ivt okt y1] at hD0
        exact lp_mDayE C h5 (by omega) (by omega) ra ef ⟨fun _ => rfl, fun q => absurd q (by omega)⟩ okt ivt Rt hD0.symm q9
      have q9 := xMz22_jn q9
      refine xr_ifeq (tgt := 118) dX12_day_109 (by decide) (fun zc109 => ?_) (fun zc109 => ?_)
      · skip
        exact absurd zc109 (by decide)
      · skip
        refine xr_inc2 dX12_day_112 (nI_inc k) (by decide) rfl ?_
        refine xr_goto (tgt := 72) dX12_day_115 (by decide) ?_
        rw [r60, daN_s, if_neg (nI_ge (show psN tf k < tn by omega) (by omega)), ea] at hD0
        rw [if_neg y1, sl0, (dgb_n i3).1, show (1 : Int32) = nI 1 from rfl, nI_add, nI_add, nI_add, ← ps] at hD0
        exact ih (k + 1) o9 v9 R9 (rk' := _) (rv' := _) hD0 q9 (by omega)
set_option maxRecDepth 20000 in
theorem lp_dayBad {K : xK} {B : Nat} {l : Launch} {h0 : xH} {Y : Nat} {m : xs} {u : Nat → Nat → Int32} {v : Nat → Int64} {tn : Nat} {tf : xs} {rk : Int32} {rv : Nat → Int64} {σ : xs} {pn : Nat} {τ : Nat → xs} {ks : Nat → Bool} {κ : Nat → xs} {φ : xs → Int32} {hn : Nat} {hf hg : xs} {wn : Nat} {wf wg : xs} (C : maC K B l Y m u v tn tf rk rv σ pn τ ks κ φ hn hf hg wn wf wg) {h : xH} {a : xs} {n p b : Nat} {w : Int32} (Z : rQ (pM m tn 60) 2 tn 60) (bp : p ≤ 80) (hb : b ≤ 80) (ew : (if p < tn then (if w = -1 then nI p else w) else w) = nI b) (eb : (fdO tf tn 60 0) = nI b) (W : xMw K h0 h Y (rdm (pM m tn 60) p w) (.ref (Y + 2)) (Y + 6) (Y + 7) (uu u 12 a) v) : xT K B l 207 RX12 false cX12_day 3 (some .int) 0 0 0 0 (xPi (fun zr g => (¬ (fdO tf tn 60 0) = -1 ∧ zr = -1 - (fdO tf tn 60 0) ∧ xMa K B l h0 g Y 0 0 tf rk rv σ pn τ ks κ φ hn hf hg wn wf wg) ∨ ((fdO tf tn 60 0) = -1 ∧ zr = (daN φ tf tn 60 0 0 (σ, rk, rv)).1 ∧ ∀ rw' : Nat → Int64, xMa K B l h0 g Y 0 0 tf 2 (daV rw' (daN φ tf tn 60 0 0 (σ, rk, rv)).2.1 ((daN φ tf tn 60 0 0 (σ, rk, rv)).2.2 14)) ((daN φ tf tn 60 0 0 (σ, rk, rv)).2.2) (if (daN φ tf tn 60 0 0 (σ, rk, rv)).1 ≤ 0 then pn else psn pn) (if (daN φ tf tn 60 0 0 (σ, rk, rv)).1 ≤ 0 then τ else psh pn τ σ) ks κ φ hn hf hg wn wf wg))) 44 [some (.ref Y), some (.int (nI n)), none] [] h := by
  obtain ⟨T, Rw, ⟨R, ok, iv⟩, P, Kp, L, H, Sw⟩ := id C
  refine xr_al0 dX12_day_44 ?_
  refine xr_Vpi0 (r_right Z bp W) kX12_144 (by decide) (Nat.le_of_ble_eq_true rfl) (Nat.zero_add _) (Nat.zero_add _) dX12_day_45 (fun zv45 zh1 zq1 => ?_)
  obtain ⟨rfl, W⟩ := zq1
  rw [ew] at W
  refine xr_eqi (y := 0) (by rw [ew]; exact bI_f (nI_m1 (by omega))) ?_
  refine xr_ifne (tgt := 58) dX12_day_48 (by decide) (fun zc48 => ?_) (fun zc48 => ?_)
  · skip
    exact absurd rfl zc48
  · skip
    refine xr_icm1 dX12_day_51 ?_
    refine xr_al0 dX12_day_52 ?_
    refine xr_get W.o fX12_108 rfl dX12_day_53 ?_
    refine xr_eqi (y := nI b) rfl ?_
    refine xr_isub dX12_day_56 ?_
    refine xr_iret dX12_day_57 rfl ?_
    exact ⟨_, rfl, Or.inl ⟨by rw [eb]; exact nI_m1 (by omega), by rw [eb], ⟨_, _, _, _, W, ⟨rfl, by omega, fun j hj => absurd hj (by omega)⟩, Rw, ⟨R, ok, iv⟩, P, Kp, L, H, Sw, rfl⟩⟩⟩
set_option maxRecDepth 20000 in
theorem lp_dayR {K : xK} {B : Nat} {l : Launch} {h0 : xH} {Y : Nat} {m : xs} {u : Nat → Nat → Int32} {v : Nat → Int64} {tn : Nat} {tf : xs} {rk : Int32} {rv : Nat → Int64} {σ : xs} {pn : Nat} {τ : Nat → xs} {ks : Nat → Bool} {κ : Nat → xs} {φ : xs → Int32} {hn : Nat} {hf hg : xs} {wn : Nat} {wf wg : xs} (C : maC K B l Y m u v tn tf rk rv σ pn τ ks κ φ hn hf hg wn wf wg) (Z : rQ (pM m tn 60) 2 tn 60) (T0 : ∀ j, j < tn → u 2 j &&& 255 = tf j ∧ byt (u 2 j)) : ∀ (r n : Nat) {h : xH} {a : xs} (hI : ∀ i, i < n → dyI tf tn a i) (hF : fdO tf tn (60 - n) (psN tf n) = (fdO tf tn 60 0)) (W : xMw K h0 h Y (rdm (pM m tn 60) (psN tf n) (-1)) (.ref (Y + 2)) (Y + 6) (Y + 7) (uu u 12 a) v) (p60 : psN tf n ≤ 60) (ptn : psN tf n ≤ tn), n + r = 60 → xT K B l 207 RX12 false cX12_day 3 (some .int) 0 0 0 0 (xPi (fun zr g => (¬ (fdO tf tn 60 0) = -1 ∧ zr = -1 - (fdO tf tn 60 0) ∧ xMa K B l h0 g Y 0 0 tf rk rv σ pn τ ks κ φ hn hf hg wn wf wg) ∨ ((fdO tf tn 60 0) = -1 ∧ zr = (daN φ tf tn 60 0 0 (σ, rk, rv)).1 ∧ ∀ rw' : Nat → Int64, xMa K B l h0 g Y 0 0 tf 2 (daV rw' (daN φ tf tn 60 0 0 (σ, rk, rv)).2.1 ((daN φ tf tn 60 0 0 (σ, rk, rv)).2.2 14)) ((daN φ tf tn 60 0 0 (σ, rk, rv)).2.2) (if (daN φ tf tn 60 0 0 (σ, rk, rv)).1 ≤ 0 then pn else psn pn) (if (daN φ tf tn 60 0 0 (σ, rk, rv)).1 ≤ 0 then τ else psh pn τ σ) ks κ φ hn hf hg wn wf wg))) 13 [some (.ref Y), some (.int (nI n)), none] [] h := by
  obtain ⟨T, Rw, ⟨R, ok, iv⟩, P, Kp, L, H, Sw⟩ := id C
  have h80 : tn ≤ 80 := Z.2.2.1
  intro r
  induction r with
  | zero =>
    intro n h a hI hF W p60 ptn hk
    have np := psN_le tf n
    refine xr_al0 dX12_day_13 ?_
    refine xr_Vpi0 (r_fine W) kX12_115 (by decide) (Nat.le_of_ble_eq_true rfl) (Nat.zero_add _) (Nat.zero_add _) dX12_day_14 (fun zv14 zh1 zq1 => ?_)
    obtain ⟨rfl, W⟩ := zq1
    refine xr_ifeq (tgt := 44) dX12_day_17 (by decide) (fun zc17 => ?_) (fun zc17 => ?_)
    · skip
      exact absurd (bI_t rfl) (fun q => absurd (q.symm.trans zc17) (by decide))
    · skip
      refine xr_al0 dX12_day_20 ?_
      refine xr_get W.o fX12_105 rfl dX12_day_21 ?_
      refine xr_eqi (y := nI (psN tf n)) rfl ?_
      refine xr_al0 dX12_day_24 ?_
      refine xr_get W.o fX12_99 rfl dX12_day_25 ?_
      refine xr_eqi (y := nI tn) rfl ?_
      refine xr_icmpge (tgt := 44) dX12_day_28 (by decide) (fun zc28 => ?_) (fun zc28 => ?_)
      · skip
        have pe : psN tf n = tn := by
          have : ¬ psN tf n < tn := fun q => absurd zc28 (nI_ge q (by omega))
          omega
        have ef : fdO tf tn 60 0 = -1 := by
          rw [← hF, fd_end (by omega)]
          exact if_neg (by omega)
        rw [pe] at W
        refine xr_al0 dX12_day_44 ?_
        refine xr_Vpi0 (r_right Z (by omega) W) kX12_144 (by decide) (Nat.le_of_ble_eq_true rfl) (Nat.zero_add _) (Nat.zero_add _) dX12_day_45 (fun zv45 zh1 zq1 => ?_)
        obtain ⟨rfl, W⟩ := zq1
        rw [if_neg (Nat.lt_irrefl tn)] at W
        refine xr_eqi (y := 1) (by rw [if_neg (Nat.lt_irrefl tn)]; rfl) ?_
        refine xr_ifne (tgt := 58) dX12_day_48 (by decide) (fun zc48 => ?_) (fun zc48 => ?_)
        · skip
          refine xr_al0 dX12_day_58 ?_
          refine xr_get W.o fX12_9 rfl dX12_day_59 ?_
          refine xr_al0 dX12_day_62 ?_
          refine xr_get W.o fX12_39 rfl dX12_day_63 ?_
          refine xr_ic0 dX12_day_66 ?_
          refine xr_Sv3 (s_mLay (k := 0) W.a1 W.a10 (by omega) (by decide) (by decide)) kX12_210 (by decide) (Nat.le_of_ble_eq_true rfl) (Nat.zero_add _) (Nat.zero_add _) dX12_day_67 ?_
          refine xT.nm (fun zh2 zg2 => ?_)
          have W := W.p10 zg2
          refine xr_ic0 dX12_day_70 ?_
          refine xr_is2 dX12_day_71 (by decide) rfl ?_
          have C' : maC K B l Y (rdm (pM m tn 60) tn (-1)) (uu (uu u 12 a) 10 (lyK (u 10) (u 1) 0 19)) v 0 tf rk rv σ pn τ ks κ φ hn hf hg wn wf wg := ⟨⟨rfl, by omega, fun j hj => absurd hj (by omega)⟩, Rw, ⟨R, ok, iv⟩, P, Kp, L, H, Sw⟩
          exact lp_mDayX C' rfl h80 (by omega) (rr_lay R ok _) ef hI pe n 0 ok iv R rfl (xMz22_of (xMz_of (xMw_id1 W))) (by omega)
        · skip
          exact absurd zc48 (by decide)
      · skip
        have pl : psN tf n < tn := Nat.lt_of_not_le (fun q => zc28 (nI_le q (by omega)))
        refine xr_al0 dX12_day_31 ?_
        refine xr_ic3 dX12_day_32 ?_
        refine xr_il1 dX12_day_33 ?_
        refine xr_imul dX12_day_34 ?_
        refine xr_eqi (y := nI (3 * n)) (pk_mul 3 n) ?_
        refine xr_Vpv1 (r_act Z (by decide) (by omega) T0 W (by omega)) kX12_294 (by decide) (Nat.le_of_ble_eq_true rfl) (Nat.zero_add _) (Nat.zero_add _) dX12_day_35 (fun zh2 zq2 => ?_)
        rcases zq2 with ⟨b, p', a', bp', y, W⟩ | ⟨a', g1, g2, g3, g4, g5, W⟩
        · skip
          have eb : fdO tf tn 60 0 = nI b := by
            rw [← hF]
            rcases y with ⟨y1, rfl⟩ | ⟨y1, y2, rfl⟩ | ⟨y1, y2, y3, rfl⟩
            · by_cases q : psN tf n < 60
              · rw [show 60 - n = (60 - (n + 1)) + 1 by omega]
                rw [hr_in T0 pl q] at y1
                exact fd_0 h80 pl q _ y1
              · rw [fd_end (by omega), show psN tf n = 60 by omega]
                exact if_pos (by omega)
            · have q : psN tf n < 60 := Decidable.not_not.mp (fun z => by
                rw [hr_out (fun z2 => z z2.2)] at y1
                exact absurd y1 (by decide))
              rw [hr_in T0 pl q] at y1 y2
              rw [show 60 - n = (60 - (n + 1)) + 1 by omega]
              exact fd_1 h80 T0 pl q _ (fun z => by unfold dn at y1; rw [z] at y1; exact absurd y1 (by decide)) y1 y2
            · have q : psN tf n < 60 := Decidable.not_not.mp (fun z => by
                rw [hr_out (fun z2 => z z2.2)] at y1
                exact absurd y1 (by decide))
              rw [hr_in T0 pl q] at y1 y2 y3
              rw [show 60 - n = (60 - (n + 1)) + 1 by omega]
              exact fd_2 h80 T0 pl q _ (fun z => by unfold dn at y1; rw [z] at y1; exact absurd y1 (by decide)) y1 y2 y3
          have b80 : b ≤ 80 := by
            rcases y with ⟨-, rfl⟩ | ⟨-, -, rfl⟩ | ⟨-, -, -, rfl⟩ <;> omega
          refine xr_inc1 dX12_day_38 (nI_inc n) (by decide) rfl ?_
          refine xr_goto (tgt := 13) dX12_day_41 (by decide) ?_
          refine xr_al0 dX12_day_13 ?_
          refine xr_Vpi0 (r_fine W) kX12_115 (by decide) (Nat.le_of_ble_eq_true rfl) (Nat.zero_add _) (Nat.zero_add _) dX12_day_14 (fun zv14 zh1 zq1 => ?_)
          obtain ⟨rfl, W⟩ := zq1
          refine xr_ifeq (tgt := 44) dX12_day_17 (by decide) (fun zc17 => ?_) (fun zc17 => ?_)
          · skip
            refine lp_dayBad C Z bp' b80 ?_ eb W
            rw [if_neg (nI_m1 (by omega))]
            split <;> rfl
          · skip
            exact absurd (bI_f (nI_m1 (by omega))) zc17
        · exfalso
          have q60 : psN tf n < 60 := Decidable.not_not.mp (fun z => by
            rw [hr_out (fun z2 => z z2.2)] at g1
            exact g1 (by decide))
          omega
  | succ r ih =>
    intro n h a hI hF W p60 ptn hk
    have np := psN_le tf n
    refine xr_al0 dX12_day_13 ?_
    refine xr_Vpi0 (r_fine W) kX12_115 (by decide) (Nat.le_of_ble_eq_true rfl) (Nat.zero_add _) (Nat.zero_add _) dX12_day_14 (fun zv14 zh1 zq1 => ?_)
    obtain ⟨rfl, W⟩ := zq1
    refine xr_ifeq (tgt := 44) dX12_day_17 (by decide) (fun zc17 => ?_) (fun zc17 => ?_)
    · skip
      exact absurd (bI_t rfl) (fun q => absurd (q.symm.trans zc17) (by decide))
    · skip
      refine xr_al0 dX12_day_20 ?_
      refine xr_get W.o fX12_105 rfl dX12_day_21 ?_
      refine xr_eqi (y := nI (psN tf n)) rfl ?_
      refine xr_al0 dX12_day_24 ?_
      refine xr_get W.o fX12_99 rfl dX12_day_25 ?_
      refine xr_eqi (y := nI tn) rfl ?_
      refine xr_icmpge (tgt := 44) dX12_day_28 (by decide) (fun zc28 => ?_) (fun zc28 => ?_)
      · skip
        have pe : psN tf n = tn := by
          have : ¬ psN tf n < tn := fun q => absurd zc28 (nI_ge q (by omega))
          omega
        have ef : fdO tf tn 60 0 = -1 := by
          rw [← hF, fd_end (by omega)]
          exact if_neg (by omega)
        rw [pe] at W
        refine xr_al0 dX12_day_44 ?_
        refine xr_Vpi0 (r_right Z (by omega) W) kX12_144 (by decide) (Nat.le_of_ble_eq_true rfl) (Nat.zero_add _) (Nat.zero_add _) dX12_day_45 (fun zv45 zh1 zq1 => ?_)
        obtain ⟨rfl, W⟩ := zq1
        rw [if_neg (Nat.lt_irrefl tn)] at W
        refine xr_eqi (y := 1) (by rw [if_neg (Nat.lt_irrefl tn)]; rfl) ?_
        refine xr_ifne (tgt := 58) dX12_day_48 (by decide) (fun zc48 => ?_) (fun zc48 => ?_)
        · skip
          refine xr_al0 dX12_day_58 ?_
          refine xr_get W.o fX12_9 rfl dX12_day_59 ?_
          refine xr_al0 dX12_day_62 ?_
          refine xr_get W.o fX12_39 rfl dX12_day_63 ?_
          refine xr_ic0 dX12_day_66 ?_
          refine xr_Sv3 (s_mLay (k := 0) W.a1 W.a10 (by omega) (by decide) (by decide)) kX12_210 (by decide) (Nat.le_of_ble_eq_true rfl) (Nat.zero_add _) (Nat.zero_add _) dX12_day_67 ?_
          refine xT.nm (fun zh2 zg2 => ?_)
          have W := W.p10 zg2
          refine xr_ic0 dX12_day_70 ?_
          refine xr_is2 dX12_day_71 (by decide) rfl ?_
          have C' : maC K B l Y (rdm (pM m tn 60) tn (-1)) (uu (uu u 12 a) 10 (lyK (u 10) (u 1) 0 19)) v 0 tf rk rv σ pn τ ks κ φ hn hf hg wn wf wg := ⟨⟨rfl, by omega, fun j hj => absurd hj (by omega)⟩, Rw, ⟨R, ok, iv⟩, P, Kp, L, H, Sw⟩
          exact lp_mDayX C' rfl h80 (by omega) (rr_lay R ok _) ef hI pe n 0 ok iv R rfl (xMz22_of (xMz_of (xMw_id1 W))) (by omega)
        · skip
          exact absurd zc48 (by decide)
      · skip
        have pl : psN tf n < tn := Nat.lt_of_not_le (fun q => zc28 (nI_le q (by omega)))
        refine xr_al0 dX12_day_31 ?_
        refine xr_ic3 dX12_day_32 ?_
        refine xr_il1 dX12_day_33 ?_
        refine xr_imul dX12_day_34 ?_
        refine xr_eqi (y := nI (3 * n)) (pk_mul 3 n) ?_
        refine xr_Vpv1 (r_act Z (by decide) (by omega) T0 W (by omega)) kX12_294 (by decide) (Nat.le_of_ble_eq_true rfl) (Nat.zero_add _) (Nat.zero_add _) dX12_day_35 (fun zh2 zq2 => ?_)
        rcases zq2 with ⟨b, p', a', bp', y, W⟩ | ⟨a', g1, g2, g3, g4, g5, W⟩
        · skip
          have eb : fdO tf tn 60 0 = nI b := by
            rw [← hF]
            rcases y with ⟨y1, rfl⟩ | ⟨y1, y2, rfl⟩ | ⟨y1, y2, y3, rfl⟩
            · by_cases q : psN tf n < 60
              · rw [show 60 - n = (60 - (n + 1)) + 1 by omega]
                rw [hr_in T0 pl q] at y1
                exact fd_0 h80 pl q _ y1
              · rw [fd_end (by omega), show psN tf n = 60 by omega]
                exact if_pos (by omega)
            · have q : psN tf n < 60 := Decidable.not_not.mp (fun z => by
                rw [hr_out (fun z2 => z z2.2)] at y1
                exact absurd y1 (by decide))
              rw [hr_in T0 pl q] at y1 y2
              rw [show 60 - n = (60 - (n + 1)) + 1 by omega]
              exact fd_1 h80 T0 pl q _ (fun z => by unfold dn at y1; rw [z] at y1; exact absurd y1 (by decide)) y1 y2
            · have q : psN tf n < 60 := Decidable.not_not.mp (fun z => by
                rw [hr_out (fun z2 => z z2.2)] at y1
                exact absurd y1 (by decide))
              rw [hr_in T0 pl q] at y1 y2 y3
              rw [show 60 - n = (60 - (n + 1)) + 1 by omega]
              exact fd_2 h80 T0 pl q _ (fun z => by unfold dn at y1; rw [z] at y1; exact absurd y1 (by decide)) y1 y2 y3
          have b80 : b ≤ 80 := by
            rcases y with ⟨-, rfl⟩ | ⟨-, -, rfl⟩ | ⟨-, -, -, rfl⟩ <;> omega
          refine xr_inc1 dX12_day_38 (nI_inc n) (by decide) rfl ?_
          refine xr_goto (tgt := 13) dX12_day_41 (by decide) ?_
          refine xr_al0 dX12_day_13 ?_
          refine xr_Vpi0 (r_fine W) kX12_115 (by decide) (Nat.le_of_ble_eq_true rfl) (Nat.zero_add _) (Nat.zero_add _) dX12_day_14 (fun zv14 zh1 zq1 => ?_)
          obtain ⟨rfl, W⟩ := zq1
          refine xr_ifeq (tgt := 44) dX12_day_17 (by decide) (fun zc17 => ?_) (fun zc17 => ?_)
          · skip
            refine lp_dayBad C Z bp' b80 ?_ eb W
            rw [if_neg (nI_m1 (by omega))]
            split <;> rfl
          · skip
            exact absurd (bI_f (nI_m1 (by omega))) zc17
        refine xr_inc1 dX12_day_38 (nI_inc n) (by decide) rfl ?_
        refine xr_goto (tgt := 13) dX12_day_41 (by decide) ?_
        have q60 : psN tf n < 60 := Decidable.not_not.mp (fun z => by
          rw [hr_out (fun z2 => z z2.2)] at g1
          exact g1 (by decide))
        have hp := hr_in T0 pl q60
        rw [hp] at g1 g2 g3 g4 W
        have l2 := (dgb_n g1).2
        have pn' := psN_s tf n
        have bnd : psN tf (n + 1) ≤ tn ∧ psN tf (n + 1) ≤ 60 := by
          rw [pn']
          rcases (show dn (tf (psN tf n)) = 0 ∨ dn (tf (psN tf n)) = 1 ∨ dn (tf (psN tf n)) = 2 by omega) with e | e | e
          · omega
          · have := msb_hr T0 (g3 (by omega)).1
            omega
          · have := msb_hr T0 (g4 e).1
            omega
        refine ih (n + 1) ?_ ?_ (by rw [pn']; exact W) bnd.2 bnd.1 (by have := psN_le tf (n + 1); omega)
        · intro i hi
          by_cases e : i = n
          · subst e
            refine ⟨bnd.1, bnd.2, g1, g2, fun d1 => ?_, fun d2 => ?_⟩
            · have z := g3 d1
              have z2 := msb_hr T0 z.1
              rw [z2.2.2] at z
              exact z
            · have z := g4 d2
              have z2 := msb_hr T0 z.1
              rw [z2.2.2] at z
              exact z
          · obtain ⟨i1, i2, i3, i4, i5, i6⟩ := hI i (by omega)
            exact ⟨i1, i2, i3, (g5 _ (by omega)).trans i4, fun d1 => ⟨(i5 d1).1, (g5 _ (by omega)).trans (i5 d1).2⟩, fun d2 => ⟨(i6 d2).1, (g5 _ (by omega)).trans (i6 d2).2⟩⟩
        · rw [← hF, show 60 - n = (60 - (n + 1)) + 1 by omega, fd_ok h80 T0 pl q60 _ g1 (fun d1 => (g3 d1).1) (fun d2 => (g4 d2).1), ← pn']
set_option maxRecDepth 20000 in
theorem a_day {K : xK} {B : Nat} {l : Launch} {h0 h : xH} {Y : Nat} {th : Int32} {tn : Nat} {tf : xs} {rk : Int32} {rv : Nat → Int64} {σ : xs} {pn : Nat} {τ : Nat → xs} {ks : Nat → Bool} {κ : Nat → xs} {φ : xs → Int32} {hn : Nat} {hf hg : xs} {wn : Nat} {wf wg : xs} (A : xMa K B l h0 h Y th tn tf rk rv σ pn τ ks κ φ hn hf hg wn wf wg)  : xV K B l 207 mX12_day 0 0 (Y) [] h (xPi (fun zr g => (¬ (fdO tf tn 60 0) = -1 ∧ zr = -1 - (fdO tf tn 60 0) ∧ xMa K B l h0 g Y 0 0 tf rk rv σ pn τ ks κ φ hn hf hg wn wf wg) ∨ ((fdO tf tn 60 0) = -1 ∧ zr = (daN φ tf tn 60 0 0 (σ, rk, rv)).1 ∧ ∀ rw' : Nat → Int64, xMa K B l h0 g Y 0 0 tf 2 (daV rw' (daN φ tf tn 60 0 0 (σ, rk, rv)).2.1 ((daN φ tf tn 60 0 0 (σ, rk, rv)).2.2 14)) ((daN φ tf tn 60 0 0 (σ, rk, rv)).2.2) (if (daN φ tf tn 60 0 0 (σ, rk, rv)).1 ≤ 0 then pn else psn pn) (if (daN φ tf tn 60 0 0 (σ, rk, rv)).1 ≤ 0 then τ else psh pn τ σ) ks κ φ hn hf hg wn wf wg))) := by
  obtain ⟨m, rd, u, v, W, T, Rw, ⟨R, ok, iv⟩, P, Kp, L, H, Sw, hth⟩ := A
  refine ⟨⟨_, _, _, _, W.o, rfl⟩, qX12_day, ?_⟩
  refine xS.intro RX12 false ⟨rfl, rfl, by decide, by decide, Nat.le_of_ble_eq_true rfl⟩ (ls := [some (.ref Y), none, none]) rfl ?_
  refine xr_al0 dX12_day_0 ?_
  refine xr_ic0 dX12_day_1 ?_
  refine xr_put W.o fX12_82 (Nat.le_of_ble_eq_true rfl) rfl rfl dX12_day_2 ?_
  refine xT.nm (fun zh1 zg1 => ?_)
  have W := W.f5 zg1
  refine xr_al0 dX12_day_5 ?_
  refine xr_bipush (v := 60) dX12_day_6 (by decide) ?_
  refine xr_Vpv1 (s_mBeginText W _) kX12_135 (by decide) (Nat.le_of_ble_eq_true rfl) (Nat.zero_add _) (Nat.zero_add _) dX12_day_8 (fun zh2 zq2 => ?_)
  have W := zq2
  rw [begin_rdm] at W
  have W : xMw K h0 zh2 Y (rdm (pM m tn 60) 0 (-1)) (.ref (Y + 2)) (Y + 6) (Y + 7) (uu u 12 (u 12)) v := by
    rw [uu_id]
    unfold pM
    rw [show nI 60 = 60 from rfl, ← T.1]
    exact W
  refine xr_ic0 dX12_day_11 ?_
  refine xr_is1 dX12_day_12 (by decide) rfl ?_
  have C : maC K B l Y m u v tn tf rk rv σ pn τ ks κ φ hn hf hg wn wf wg := ⟨T, Rw, ⟨R, ok, iv⟩, P, Kp, L, H, Sw⟩
  exact lp_dayR C ⟨rfl, rfl, T.2.1, Or.inl ⟨rfl, by decide⟩⟩ T.2.2 60 0 (fun i hi => absurd hi (by omega)) rfl W (Nat.zero_le _) (Nat.zero_le _) rfl
