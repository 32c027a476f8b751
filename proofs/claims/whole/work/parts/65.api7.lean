/-! The model in the class's words: holds, soonest, years (written by wip/whole/mod24.py) -/
theorem nob_run (φ : xs → Int32) {γ : xs} (h : γ 10 + γ 11 = 0) : hRun φ γ 10 + hRun φ γ 11 = 0 := by
  have c : ¬ hGo γ := fun q => q.1 h
  rw [show hRun φ γ 10 = γ 10 from stay_at φ c (s := 0) (by decide), show hRun φ γ 11 = γ 11 from stay_at φ c (s := 1) (by decide)]
  exact h
theorem nob_it (φ : xs → Int32) : ∀ (r : Nat) {γ : xs}, γ 10 + γ 11 = 0 → itR φ r γ 10 + itR φ r γ 11 = 0 := by
  intro r
  induction r with
  | zero => intro γ h; exact h
  | succ r ih => intro γ h; exact ih (nob_run φ h)
theorem rt_it (φ : xs → Int32) : ∀ (r k : Nat) (γ : xs), ((rtN φ r k γ).1 ≤ k + r ↔ itR φ r γ 10 + itR φ r γ 11 = 0) := by
  intro r
  induction r with
  | zero =>
    intro k γ
    rw [rtN_0]
    show _ ↔ γ 10 + γ 11 = 0
    by_cases c : γ 10 + γ 11 = 0
    · rw [if_pos c]
      exact ⟨fun _ => c, fun _ => Nat.le_refl k⟩
    · rw [if_neg c]
      exact ⟨fun q => absurd q (by show ¬ k + 1 ≤ k + 0; omega), fun q => absurd q c⟩
  | succ r ih =>
    intro k γ
    rw [rtN_s]
    by_cases c : γ 10 + γ 11 = 0
    · rw [if_pos c]
      exact ⟨fun _ => nob_it φ (r + 1) c, fun _ => by show k ≤ k + (r + 1); omega⟩
    · rw [if_neg c, itR_s, ← ih (k + 1) (hRun φ γ), show k + 1 + r = k + (r + 1) by omega]
def hdQ (c : Nat) (b : Int32) : Int32 := if c = 0 then -2 else b
/-- and what idle holds is anything -/
def xMz22 (K : xK) (h0 h : xH) (Y : Nat) (m : Nat → Int32) (ru ot : Nat) (u : Nat → Nat → Int32) (v : Nat → Int64) : Prop := ∃ x : Int32, xMz K h0 h Y (upd m 22 x) ru ot u v
theorem xMz_jj2 {K : xK} {h0 h : xH} {Y : Nat} {m : Nat → Int32} {ru ot : Nat} {u : Nat → Nat → Int32} {v : Nat → Int64} {x y a b c d e a' b' c' d' e' : Int32} {w w8 w8' : xs} (S : xMz K h0 h Y (scm (upd (scm (upd m 22 x) a b c d e) 22 y) a' b' c' d' e') ru ot (uu (uu (uu u 8 w8) 8 w8') 11 w) v) : xMz22 K h0 h Y m ru ot (uu u 11 w) v := by
  refine ⟨y, ?_⟩
  rw [uu_uu] at S
  have q := xMz_jj (by decide) S
  obtain ⟨p1, p2, p3, p4, p5, rd, w', q⟩ := q
  rw [← scm_upd (upd m 22 x) _ _ _ _ _ _ (by decide), upd_upd, scm_scm] at q
  exact ⟨p1, p2, p3, p4, p5, rd, w', q⟩
set_option maxRecDepth 20000 in
theorem lp_mHolds {K : xK} {B : Nat} {l : Launch} {h0 : xH} {Y : Nat} {m : xs} {u : Nat → Nat → Int32} {v : Nat → Int64} {tn : Nat} {tf : xs} {rk : Int32} {rv : Nat → Int64} {σ : xs} {pn : Nat} {τ : Nat → xs} {ks : Nat → Bool} {κ : Nat → xs} {φ : xs → Int32} {hn : Nat} {hf hg : xs} {wn : Nat} {wf wg : xs} (C : maC K B l Y m u v tn tf rk rv σ pn τ ks κ φ hn hf hg wn wf wg) (h5 : m 5 = 0) {N : Nat} (hN : N ≤ 60) : ∀ (r k : Nat) {b : Int32} {c : Nat} {h : xH} {w : xs} (hb : 0 < c → ¬ b = -1) (hb0 : c = 0 → b = -1) (hc : c ≤ k) (q9 : xMz22 K h0 h Y m (Y + 6) (Y + 7) (uu u 11 w) v), k + r = 10 → xT K B l 206 RX12 false cX12_holds 5 (some .int) 0 0 0 0 (xPi (fun zr g => zr = (hdE rk rv (hdN φ σ N r k (hdQ c b) (nI c))).1 ∧ xMa K B l h0 g Y 0 tn tf ((hdE rk rv (hdN φ σ N r k (hdQ c b) (nI c))).2.1) ((hdE rk rv (hdN φ σ N r k (hdQ c b) (nI c))).2.2) σ pn τ ks κ φ hn hf hg wn wf wg)) 24 [some (.ref Y), some (.int (nI N)), some (.int b), some (.int (nI c)), some (.int (nI k))] [] h := by
  obtain ⟨T, Rw, ⟨R, ok, iv⟩, P, Kp, L, H, Sw⟩ := id C
  intro r
  induction r with
  | zero =>
    intro k b c h w hb hb0 hc q9 hk
    obtain ⟨x22, q9⟩ := q9
    obtain ⟨za, zb, zc, zd, ze, zrd, z8, W⟩ := xMz_out (by decide) q9
    refine xr_il4 dX12_holds_24 ?_
    refine xr_bipush (v := 9) dX12_holds_26 (by decide) ?_
    refine xr_icmpgt (tgt := 87) dX12_holds_28 (by decide) (fun zc28 => ?_) (fun zc28 => ?_)
    · skip
      refine xr_il2 dX12_holds_87 ?_
      refine xr_icm1 dX12_holds_88 ?_
      refine xr_icmpne (tgt := 95) dX12_holds_89 (by decide) (fun zc89 => ?_) (fun zc89 => ?_)
      · skip
        refine xr_al0 dX12_holds_95 ?_
        refine xr_ic0 dX12_holds_96 ?_
        refine xr_put W.o fX12_86 (Nat.le_of_ble_eq_true rfl) rfl rfl dX12_holds_97 ?_
        refine xT.nm (fun zh1 zg1 => ?_)
        have W := W.f4 zg1
        refine xr_al0 dX12_holds_100 ?_
        refine xr_il3 dX12_holds_101 ?_
        refine xr_i2l dX12_holds_102 ?_
        refine xr_Vpv1 (s_mTell W (k := 0) rfl (by decide) _) kX12_253 (by decide) (Nat.le_of_ble_eq_true rfl) (Nat.zero_add _) (Nat.zero_add _) dX12_holds_103 (fun zh2 zq2 => ?_)
        have W := zq2
        refine xr_il2 dX12_holds_106 ?_
        refine xr_iret dX12_holds_107 rfl ?_
        have c0 : 0 < c := Nat.pos_of_ne_zero (fun q => zc89 (hb0 q))
        have e : hdE rk rv (hdQ c b, nI c) = (b, 1, tl1 rv (nI c)) := by
          unfold hdE hdQ
          rw [if_neg (by show ¬ nI c ≤ 0; exact nI_nle c0 (by omega)), if_neg (by omega)]
        rw [show hdN φ σ N 0 k (hdQ c b) (nI c) = (hdQ c b, nI c) from rfl, e]
        exact ⟨_, rfl, rfl, ⟨_, _, _, _, W, T, maR1 _, ⟨R, ok, iv⟩, P, Kp, L, H, Sw, h5⟩⟩
      · skip
        refine xr_bipush (v := (-2)) dX12_holds_92 (by decide) ?_
        refine xr_iret dX12_holds_94 rfl ?_
        have c0 : c = 0 := Nat.eq_zero_of_not_pos (fun q => (hb q) zc89)
        subst c0
        exact ⟨_, rfl, rfl, ⟨_, _, _, _, W, T, Rw, ⟨R, ok, iv⟩, P, Kp, L, H, Sw, h5⟩⟩
    · skip
      exact absurd (nI_lt (a := 9) (by omega) (by omega)) zc28
  | succ r ih =>
    intro k b c h w hb hb0 hc q9 hk
    obtain ⟨x22, q9⟩ := q9
    obtain ⟨za, zb, zc, zd, ze, zrd, z8, W⟩ := xMz_out (by decide) q9
    refine xr_il4 dX12_holds_24 ?_
    refine xr_bipush (v := 9) dX12_holds_26 (by decide) ?_
    refine xr_icmpgt (tgt := 87) dX12_holds_28 (by decide) (fun zc28 => ?_) (fun zc28 => ?_)
    · skip
      exact absurd zc28 (nI_nlt (a := 9) (by omega) (by decide))
    · skip
      refine xr_al0 dX12_holds_31 ?_
      refine xr_get W.o fX12_9 rfl dX12_holds_32 ?_
      refine xr_al0 dX12_holds_35 ?_
      refine xr_get W.o fX12_42 rfl dX12_holds_36 ?_
      refine xr_ic0 dX12_holds_39 ?_
      refine xr_Sv3 (s_mLay (k := 0) W.a1 W.a11 (by omega) (by decide) (by decide)) kX12_210 (by decide) (Nat.le_of_ble_eq_true rfl) (Nat.zero_add _) (Nat.zero_add _) dX12_holds_40 ?_
      refine xT.nm (fun zh1 zg1 => ?_)
      have W := W.p11 zg1
      have Rt := rr_lay R ok w
      refine xr_al0 dX12_holds_43 ?_
      refine xr_get W.o fX12_42 rfl dX12_holds_44 ?_
      refine xr_bipush (v := 13) dX12_holds_47 (by decide) ?_
      refine xr_il4 dX12_holds_49 ?_
      refine xr_iast W.a11 (xix_lit (j := 13) (by decide)) dX12_holds_51 ?_
      refine xT.nm (fun zh2 zg2 => ?_)
      have W := W.p11 zg2
      have Rt := rr_upd Rt (i := 13) (by decide) (nI k)
      have okt : hOk (upd σ 13 (nI k)) := hOk_upd ok (by decide) _
      have W : xMw K h0 zh2 Y (scm (upd m 22 x22) za zb zc zd ze) zrd (Y + 6) (Y + 7) (uu (uu u 8 z8) 11 (upd (lyK w (u 1) 0 19) 13 (nI k))) v := by
        rw [uu_uu, uu_uu] at W
        exact W
      refine xr_al0 dX12_holds_52 ?_
      refine xr_al0 dX12_holds_53 ?_
      refine xr_get W.o fX12_42 rfl dX12_holds_54 ?_
      refine xr_il1 dX12_holds_57 ?_
      refine xr_Vpi2 (s_mRuns0 (Or.inr rfl) W (L _) okt Rt (N := N) (by omega)) kX12_276 (by decide) (Nat.le_of_ble_eq_true rfl) (Nat.zero_add _) (Nat.zero_add _) dX12_holds_58 (fun zv58 zh3 zq3 => ?_)
      obtain ⟨rfl, w9, R9, q9⟩ := zq3
      rw [rfN_it] at R9
      obtain ⟨za1, zb1, zc1, zd1, ze1, zrd1, z81, W⟩ := xMz_out (by decide) q9
      refine xr_pop dX12_holds_61 rfl ?_
      refine xr_al0 dX12_holds_62 ?_
      refine xr_get W.o fX12_42 rfl dX12_holds_63 ?_
      refine xr_Si1 (s_mWaits W.a11) kX12_240 (by decide) (Nat.le_of_ble_eq_true rfl) (Nat.zero_add _) (Nat.zero_add _) dX12_holds_66 ?_
      refine xr_eqi (y := itR φ N (upd σ 13 (nI k)) 10 + itR φ N (upd σ 13 (nI k)) 11) (rr_sum R9) ?_
      refine xr_ifle (tgt := 75) dX12_holds_69 (by decide) (fun zc69 => ?_) (fun zc69 => ?_)
      · skip
        refine xr_il4 dX12_holds_75 ?_
        refine xr_is2 dX12_holds_77 (by decide) rfl ?_
        refine xr_inc3 dX12_holds_78 (nI_inc c) (by decide) rfl ?_
        refine xr_inc4 dX12_holds_81 (nI_inc k) (by decide) rfl ?_
        refine xr_goto (tgt := 24) dX12_holds_84 (by decide) ?_
        have hq := rt_it φ N 0 (upd σ 13 (nI k))
        rw [Nat.zero_add] at hq
        have on := hOk_it φ N okt
        have q9' := xMz_jj2 (xMz_of W)
        have c2 : ¬ N < (rtN φ N 0 (upd σ 13 (nI k))).1 := Nat.not_lt.mpr (hq.mpr ((sum0 on).mp zc69))
        rw [(hdN_s φ σ N r k _ _).trans (if_neg c2), nI_1, show nI k = hdQ (c + 1) (nI k) from (if_neg (by omega)).symm]
        exact ih (k + 1) (fun _ q => absurd (by rw [q]; decide : nI k < 0) (nI_pos (by omega))) (fun q => absurd q (by omega)) (by omega) q9' (by omega)
      · skip
        refine xr_goto (tgt := 81) dX12_holds_72 (by decide) ?_
        refine xr_inc4 dX12_holds_81 (nI_inc k) (by decide) rfl ?_
        refine xr_goto (tgt := 24) dX12_holds_84 (by decide) ?_
        have hq := rt_it φ N 0 (upd σ 13 (nI k))
        rw [Nat.zero_add] at hq
        have on := hOk_it φ N okt
        have q9' := xMz_jj2 (xMz_of W)
        have c2 : N < (rtN φ N 0 (upd σ 13 (nI k))).1 := Nat.lt_of_not_le (fun q => zc69 ((sum0 on).mpr (hq.mp q)))
        rw [(hdN_s φ σ N r k _ _).trans (if_pos c2)]
        exact ih (k + 1) hb hb0 (by omega) q9' (by omega)
theorem upd_same (m : xs) (i : Nat) : upd m i (m i) = m := by
  funext j
  unfold upd
  by_cases h : j = i
  · rw [if_pos h, h]
  · rw [if_neg h]
set_option maxRecDepth 20000 in
theorem a_holds {K : xK} {B : Nat} {l : Launch} {h0 h : xH} {Y : Nat} {th : Int32} {tn : Nat} {tf : xs} {rk : Int32} {rv : Nat → Int64} {σ : xs} {pn : Nat} {τ : Nat → xs} {ks : Nat → Bool} {κ : Nat → xs} {φ : xs → Int32} {hn : Nat} {hf hg : xs} {wn : Nat} {wf wg : xs} (A : xMa K B l h0 h Y th tn tf rk rv σ pn τ ks κ φ hn hf hg wn wf wg) (x : Int32) : xV K B l 206 mX12_holds 0 0 (Y) [.int x] h (xPi (fun zr g => zr = (hdR φ σ rk rv x).1 ∧ xMa K B l h0 g Y 0 tn tf ((hdR φ σ rk rv x).2.1) ((hdR φ σ rk rv x).2.2) σ pn τ ks κ φ hn hf hg wn wf wg)) := by
  obtain ⟨m, rd, u, v, W, T, Rw, ⟨R, ok, iv⟩, P, Kp, L, H, Sw, hth⟩ := A
  refine ⟨⟨_, _, _, _, W.o, rfl⟩, qX12_holds, ?_⟩
  refine xS.intro RX12 false ⟨rfl, rfl, by decide, by decide, Nat.le_of_ble_eq_true rfl⟩ (ls := [some (.ref Y), some (.int x), none, none, none]) rfl ?_
  refine xr_al0 dX12_holds_0 ?_
  refine xr_ic0 dX12_holds_1 ?_
  refine xr_put W.o fX12_82 (Nat.le_of_ble_eq_true rfl) rfl rfl dX12_holds_2 ?_
  refine xT.nm (fun zh1 zg1 => ?_)
  have W := W.f5 zg1
  refine xr_il1 dX12_holds_5 ?_
  refine xr_ic0 dX12_holds_6 ?_
  refine xr_bipush (v := 60) dX12_holds_7 (by decide) ?_
  refine xr_Si3 (s_mIn _ _ _) kX12_89 (by decide) (Nat.le_of_ble_eq_true rfl) (Nat.zero_add _) (Nat.zero_add _) dX12_holds_9 ?_
  refine xr_ifne (tgt := 17) dX12_holds_12 (by decide) (fun zc12 => ?_) (fun zc12 => ?_)
  · skip
    obtain ⟨N, hN, rfl⟩ := in_at (N := 60) rfl (by decide) zc12
    refine xr_icm1 dX12_holds_17 ?_
    refine xr_is2 dX12_holds_18 (by decide) rfl ?_
    refine xr_ic0 dX12_holds_19 ?_
    refine xr_is3 dX12_holds_20 (by decide) rfl ?_
    refine xr_ic0 dX12_holds_21 ?_
    refine xr_is4 dX12_holds_22 (by decide) rfl ?_
    have e : (hdR φ σ rk rv (nI N)) = hdE rk rv (hdN φ σ N 10 0 (hdQ 0 (-1)) (nI 0)) := by
      unfold hdR
      rw [if_neg (fun q => zc12 (mIn_0.mpr q)), nI_clamp (by omega)]
      rfl
    rw [e]
    have C : maC K B l Y (upd m 5 0) u v tn tf rk rv σ pn τ ks κ φ hn hf hg wn wf wg := ⟨T, Rw, ⟨R, ok, iv⟩, P, Kp, L, H, Sw⟩
    exact lp_mHolds C rfl hN 10 0 (w := u 11) (fun q => absurd q (by omega)) (fun _ => rfl) (by omega) ⟨m 22, xMz_of (by rw [uu_id, show upd (upd m 5 0) 22 (m 22) = upd m 5 0 from upd_same (upd m 5 0) 22]; exact W)⟩ rfl
  · skip
    refine xr_icm1 dX12_holds_15 ?_
    refine xr_iret dX12_holds_16 rfl ?_
    have e : (hdR φ σ rk rv x) = _ := if_pos (mIn_0.mp zc12)
    rw [e]
    exact ⟨_, rfl, rfl, ⟨_, _, _, _, W, T, Rw, ⟨R, ok, iv⟩, P, Kp, L, H, Sw, rfl⟩⟩
theorem iMin_nn {a b : Nat} (ha : a < 2 ^ 31) (hb : b < 2 ^ 31) : iMin (nI a) (nI b) = nI (min a b) := by
  unfold iMin
  by_cases c : b < a
  · rw [if_pos (nI_lt c ha), Nat.min_eq_right (by omega)]
  · rw [if_neg (nI_nlt (by omega) (by omega)), Nat.min_eq_left (by omega)]
theorem so_e {φ : xs → Int32} {σ : xs} {rk : Int32} {rv : Nat → Int64} (c : ¬ σ 10 + σ 11 = 0) {a b d : Nat} (ea : soN φ σ 1 = nI a) (eb : soN φ σ 2 = nI b) (ed : soN φ σ 3 = nI d) (ha : a ≤ 100) (hb : b ≤ 100) (hd : d ≤ 100) : soR φ σ rk rv = if min a (min b d) ≤ 99 then ((if min a (min b d) = a then 1 else if min a (min b d) = b then 2 else 3), 3, tl3 rv (nI a) (nI b) (nI d)) else (-2, rk, rv) := by
  unfold soR
  rw [if_neg c, ea, eb, ed, iMin_nn (a := b) (b := d) (by omega) (by omega), iMin_nn (a := a) (by omega) (by omega)]
  have h1 : (nI (min a (min b d)) ≤ 99) ↔ min a (min b d) ≤ 99 := nI_leI (b := 99) (by omega) (by decide)
  have h2 : (nI (min a (min b d)) = nI a) ↔ min a (min b d) = a := nI_eq (by omega) (by omega)
  have h3 : (nI (min a (min b d)) = nI b) ↔ min a (min b d) = b := nI_eq (by omega) (by omega)
  by_cases c1 : min a (min b d) ≤ 99
  · rw [if_pos c1, if_pos (h1.mpr c1)]
    by_cases c2 : min a (min b d) = a
    · rw [if_pos c2, if_pos (h2.mpr c2)]
    · rw [if_neg c2, if_neg (fun q => c2 (h2.mp q))]
      by_cases c3 : min a (min b d) = b
      · rw [if_pos c3, if_pos (h3.mpr c3)]
      · rw [if_neg c3, if_neg (fun q => c3 (h3.mp q))]
  · rw [if_neg c1, if_neg (fun q => c1 (h1.mp q))]
set_option maxRecDepth 20000 in
theorem lp_mSoonI {K : xK} {B : Nat} {l : Launch} {h0 : xH} {Y : Nat} {m : xs} {u : Nat → Nat → Int32} {v : Nat → Int64} {φ : xs → Int32} (L : maL K B l Y (m 15) (u 6) φ) {x1 x2 : Int32} {Q : Option Value → xH → Prop} : ∀ (r k : Nat) {h : xH} {w γ : xs} (hc : ∀ {h : xH} {w : xs}, xMz K h0 h Y m (Y + 6) (Y + 7) (uu u 11 w) v → xT K B l 206 RX12 false cX12_soonest 4 (some .int) 0 0 0 0 (Q) 88 [some (.ref Y), some (.int x1), some (.int x2), some (.int (nI (rtN φ r k γ).1))] [] h) (okt : hOk γ) (Rt : rr γ w) (q9 : xMz K h0 h Y m (Y + 6) (Y + 7) (uu u 11 w) v), k + r = 99 → xT K B l 206 RX12 false cX12_soonest 4 (some .int) 0 0 0 0 (Q) 57 [some (.ref Y), some (.int x1), some (.int x2), some (.int (nI k))] [] h := by
  intro r
  induction r with
  | zero =>
    intro k h w γ hc okt Rt q9 hk
    obtain ⟨za, zb, zc, zd, ze, zrd, z8, W⟩ := xMz_out (by decide) q9
    refine xr_il3 dX12_soonest_57 ?_
    refine xr_bipush (v := 99) dX12_soonest_58 (by decide) ?_
    refine xr_icmpgt (tgt := 88) dX12_soonest_60 (by decide) (fun zc60 => ?_) (fun zc60 => ?_)
    · skip
      exact absurd zc60 (nI_nlt (a := 99) (by omega) (by decide))
    · skip
      refine xr_al0 dX12_soonest_63 ?_
      refine xr_get W.o fX12_42 rfl dX12_soonest_64 ?_
      refine xr_Si1 (s_mWaits W.a11) kX12_240 (by decide) (Nat.le_of_ble_eq_true rfl) (Nat.zero_add _) (Nat.zero_add _) dX12_soonest_67 ?_
      refine xr_eqi (y := γ 10 + γ 11) (rr_sum Rt) ?_
      refine xr_ifle (tgt := 88) dX12_soonest_70 (by decide) (fun zc70 => ?_) (fun zc70 => ?_)
      · skip
        rw [rtN_0, if_pos ((sum0 okt).mp zc70)] at hc
        exact hc (xMz_jj (by decide) (xMz_of W))
      · skip
        refine xr_al0 dX12_soonest_73 ?_
        refine xr_al0 dX12_soonest_74 ?_
        refine xr_get W.o fX12_42 rfl dX12_soonest_75 ?_
        refine xr_Vpi1 (s_mGo (Or.inr rfl) W (L _) okt Rt) kX12_273 (by decide) (Nat.le_of_ble_eq_true rfl) (Nat.zero_add _) (Nat.zero_add _) dX12_soonest_78 (fun zv78 zh1 zq1 => ?_)
        obtain ⟨rfl, w9, R9, q9⟩ := zq1
        have q9 := xMz_jj (by decide) q9
        have okn := hOk_run okt φ
        obtain ⟨za, zb, zc, zd, ze, zrd, z8, W⟩ := xMz_out (by decide) q9
        refine xr_pop dX12_soonest_81 rfl ?_
        refine xr_inc3 dX12_soonest_82 (nI_inc k) (by decide) rfl ?_
        refine xr_goto (tgt := 57) dX12_soonest_85 (by decide) ?_
        have nz : ¬ γ 10 + γ 11 = 0 := fun q => zc70 ((sum0 okt).mpr q)
        refine xr_il3 dX12_soonest_57 ?_
        refine xr_bipush (v := 99) dX12_soonest_58 (by decide) ?_
        refine xr_icmpgt (tgt := 88) dX12_soonest_60 (by decide) (fun zc60 => ?_) (fun zc60 => ?_)
        · skip
          rw [rtN_0, if_neg nz] at hc
          exact hc q9
        · skip
          exact absurd (nI_lt (a := 99) (by omega) (by omega)) zc60
  | succ r ih =>
    intro k h w γ hc okt Rt q9 hk
    obtain ⟨za, zb, zc, zd, ze, zrd, z8, W⟩ := xMz_out (by decide) q9
    refine xr_il3 dX12_soonest_57 ?_
    refine xr_bipush (v := 99) dX12_soonest_58 (by decide) ?_
    refine xr_icmpgt (tgt := 88) dX12_soonest_60 (by decide) (fun zc60 => ?_) (fun zc60 => ?_)
    · skip
      exact absurd zc60 (nI_nlt (a := 99) (by omega) (by decide))
    · skip
      refine xr_al0 dX12_soonest_63 ?_
      refine xr_get W.o fX12_42 rfl dX12_soonest_64 ?_
      refine xr_Si1 (s_mWaits W.a11) kX12_240 (by decide) (Nat.le_of_ble_eq_true rfl) (Nat.zero_add _) (Nat.zero_add _) dX12_soonest_67 ?_
      refine xr_eqi (y := γ 10 + γ 11) (rr_sum Rt) ?_
      refine xr_ifle (tgt := 88) dX12_soonest_70 (by decide) (fun zc70 => ?_) (fun zc70 => ?_)
      · skip
        rw [(rtN_s φ r k γ).trans (if_pos ((sum0 okt).mp zc70))] at hc
        exact hc (xMz_jj (by decide) (xMz_of W))
      · skip
        refine xr_al0 dX12_soonest_73 ?_
        refine xr_al0 dX12_soonest_74 ?_
        refine xr_get W.o fX12_42 rfl dX12_soonest_75 ?_
        refine xr_Vpi1 (s_mGo (Or.inr rfl) W (L _) okt Rt) kX12_273 (by decide) (Nat.le_of_ble_eq_true rfl) (Nat.zero_add _) (Nat.zero_add _) dX12_soonest_78 (fun zv78 zh1 zq1 => ?_)
        obtain ⟨rfl, w9, R9, q9⟩ := zq1
        have q9 := xMz_jj (by decide) q9
        have okn := hOk_run okt φ
        obtain ⟨za, zb, zc, zd, ze, zrd, z8, W⟩ := xMz_out (by decide) q9
        refine xr_pop dX12_soonest_81 rfl ?_
        refine xr_inc3 dX12_soonest_82 (nI_inc k) (by decide) rfl ?_
        refine xr_goto (tgt := 57) dX12_soonest_85 (by decide) ?_
        rw [(rtN_s φ r k γ).trans (if_neg (fun q => zc70 ((sum0 okt).mpr q)))] at hc
        exact ih (k + 1) hc okn R9 q9 (by omega)
set_option maxRecDepth 20000 in
theorem a_soonest {K : xK} {B : Nat} {l : Launch} {h0 h : xH} {Y : Nat} {th : Int32} {tn : Nat} {tf : xs} {rk : Int32} {rv : Nat → Int64} {σ : xs} {pn : Nat} {τ : Nat → xs} {ks : Nat → Bool} {κ : Nat → xs} {φ : xs → Int32} {hn : Nat} {hf hg : xs} {wn : Nat} {wf wg : xs} (A : xMa K B l h0 h Y th tn tf rk rv σ pn τ ks κ φ hn hf hg wn wf wg)  : xV K B l 206 mX12_soonest 0 0 (Y) [] h (xPi (fun zr g => zr = (soR φ σ rk rv).1 ∧ xMa K B l h0 g Y 0 tn tf ((soR φ σ rk rv).2.1) ((soR φ σ rk rv).2.2) σ pn τ ks κ φ hn hf hg wn wf wg)) := by
  obtain ⟨m, rd, u, v, W, T, Rw, ⟨R, ok, iv⟩, P, Kp, L, H, Sw, hth⟩ := A
  refine ⟨⟨_, _, _, _, W.o, rfl⟩, qX12_soonest, ?_⟩
  refine xS.intro RX12 false ⟨rfl, rfl, by decide, by decide, Nat.le_of_ble_eq_true rfl⟩ (ls := [some (.ref Y), none, none, none]) rfl ?_
  refine xr_al0 dX12_soonest_0 ?_
  refine xr_ic0 dX12_soonest_1 ?_
  refine xr_put W.o fX12_82 (Nat.le_of_ble_eq_true rfl) rfl rfl dX12_soonest_2 ?_
  refine xT.nm (fun zh1 zg1 => ?_)
  have W := W.f5 zg1
  refine xr_al0 dX12_soonest_5 ?_
  refine xr_get W.o fX12_9 rfl dX12_soonest_6 ?_
  refine xr_Si1 (s_mWaits W.a1) kX12_240 (by decide) (Nat.le_of_ble_eq_true rfl) (Nat.zero_add _) (Nat.zero_add _) dX12_soonest_9 ?_
  refine xr_eqi (y := σ 10 + σ 11) (rr_sum R) ?_
  refine xr_ifne (tgt := 18) dX12_soonest_12 (by decide) (fun zc12 => ?_) (fun zc12 => ?_)
  · skip
    refine xr_ic0 dX12_soonest_18 ?_
    refine xr_is1 dX12_soonest_19 (by decide) rfl ?_
    refine xr_al0 dX12_soonest_20 ?_
    refine xr_get W.o fX12_48 rfl dX12_soonest_21 ?_
    refine xr_ic0 dX12_soonest_24 ?_
    refine xr_bipush (v := 100) dX12_soonest_25 (by decide) ?_
    refine xr_iast W.a13 (xix_lit (j := 0) (by decide)) dX12_soonest_27 ?_
    refine xT.nm (fun zh2 zg2 => ?_)
    have W := W.p13 zg2
    refine xr_ic1 dX12_soonest_28 ?_
    refine xr_is2 dX12_soonest_29 (by decide) rfl ?_
    refine xr_il2 dX12_soonest_30 ?_
    refine xr_ic3 dX12_soonest_31 ?_
    refine xr_icmpgt (tgt := 127) dX12_soonest_32 (by decide) (fun zc32 => ?_) (fun zc32 => ?_)
    · skip
      exact absurd zc32 (by decide)
    · skip
      refine xr_al0 dX12_soonest_35 ?_
      refine xr_get W.o fX12_9 rfl dX12_soonest_36 ?_
      refine xr_al0 dX12_soonest_39 ?_
      refine xr_get W.o fX12_42 rfl dX12_soonest_40 ?_
      refine xr_ic0 dX12_soonest_43 ?_
      refine xr_Sv3 (s_mLay (k := 0) W.a1 W.a11 (by omega) (by decide) (by decide)) kX12_210 (by decide) (Nat.le_of_ble_eq_true rfl) (Nat.zero_add _) (Nat.zero_add _) dX12_soonest_44 ?_
      refine xT.nm (fun zh1 zg1 => ?_)
      have W := W.p11 zg1
      refine xr_al0 dX12_soonest_47 ?_
      refine xr_get W.o fX12_42 rfl dX12_soonest_48 ?_
      refine xr_bipush (v := 12) dX12_soonest_51 (by decide) ?_
      refine xr_il2 dX12_soonest_53 ?_
      refine xr_iast W.a11 (xix_lit (j := 12) (by decide)) dX12_soonest_54 ?_
      refine xT.nm (fun zh2 zg2 => ?_)
      have W := W.p11 zg2
      refine xr_ic0 dX12_soonest_55 ?_
      refine xr_is3 dX12_soonest_56 (by decide) rfl ?_
      have okt1 : hOk (upd σ 12 1) := hOk_seats ok (by decide) (by decide)
      refine lp_mSoonI (by exact L) 99 0 (fun {h} {w} q9 => ?_) okt1 (by exact rr_upd (rr_lay R ok _) (i := 12) (by decide) 1) (xMz_of W) rfl
      have e1 : soN φ σ 1 = nI (rtN φ 99 0 (upd σ 12 1)).1 := rfl
      have h1 : (rtN φ 99 0 (upd σ 12 1)).1 ≤ 100 := rtN_le φ 99 0 _
      generalize (rtN φ 99 0 (upd σ 12 1)).1 = a1 at *
      obtain ⟨za, zb, zc, zd, ze, zrd, z8, W⟩ := xMz_out (by decide) q9
      refine xr_al0 dX12_soonest_88 ?_
      refine xr_get W.o fX12_48 rfl dX12_soonest_89 ?_
      refine xr_il2 dX12_soonest_92 ?_
      refine xr_il3 dX12_soonest_93 ?_
      refine xr_bipush (v := 100) dX12_soonest_94 (by decide) ?_
      refine xr_min kmX12_195 ms_min wz_J9 mc_min (by decide) (Nat.le_of_ble_eq_true rfl) dX12_soonest_96 ?_
      refine xr_eqi (y := nI a1) ((iMin_nn (b := 100) (by omega) (by decide)).trans (by rw [Nat.min_eq_left h1])) ?_
      refine xr_iast W.a13 (xix_lit (j := 1) (by decide)) dX12_soonest_99 ?_
      refine xT.nm (fun zh1 zg1 => ?_)
      have W := W.p13 zg1
      refine xr_al0 dX12_soonest_100 ?_
      refine xr_get W.o fX12_48 rfl dX12_soonest_101 ?_
      refine xr_il2 dX12_soonest_104 ?_
      refine xr_iald W.a13 (xix_lit (j := 1) (by decide)) dX12_soonest_105 ?_
      refine xr_eqi (y := nI a1) rfl ?_
      refine xr_al0 dX12_soonest_106 ?_
      refine xr_get W.o fX12_48 rfl dX12_soonest_107 ?_
      refine xr_il1 dX12_soonest_110 ?_
      refine xr_iald W.a13 (xix_lit (j := 0) (by decide)) dX12_soonest_111 ?_
      refine xr_eqi (y := 100) rfl ?_
      refine xr_icmpge (tgt := 119) dX12_soonest_112 (by decide) (fun zc112 => ?_) (fun zc112 => ?_)
      · skip
        refine xr_il1 dX12_soonest_119 ?_
        refine xr_is1 dX12_soonest_120 (by decide) rfl ?_
        refine xr_inc2 dX12_soonest_121 (show (1 : Int32) + Int32.ofInt 1 = 2 from rfl) (by decide) rfl ?_
        refine xr_goto (tgt := 30) dX12_soonest_124 (by decide) ?_
        have y1 : 100 ≤ a1 := (nI_leI (a := 100) (b := a1) (by omega) (by omega)).mp zc112
        refine xr_il2 dX12_soonest_30 ?_
        refine xr_ic3 dX12_soonest_31 ?_
        refine xr_icmpgt (tgt := 127) dX12_soonest_32 (by decide) (fun zc32 => ?_) (fun zc32 => ?_)
        · skip
          exact absurd zc32 (by decide)
        · skip
          refine xr_al0 dX12_soonest_35 ?_
          refine xr_get W.o fX12_9 rfl dX12_soonest_36 ?_
          refine xr_al0 dX12_soonest_39 ?_
          refine xr_get W.o fX12_42 rfl dX12_soonest_40 ?_
          refine xr_ic0 dX12_soonest_43 ?_
          refine xr_Sv3 (s_mLay (k := 0) W.a1 W.a11 (by omega) (by decide) (by decide)) kX12_210 (by decide) (Nat.le_of_ble_eq_true rfl) (Nat.zero_add _) (Nat.zero_add _) dX12_soonest_44 ?_
          refine xT.nm (fun zh1 zg1 => ?_)
          have W := W.p11 zg1
          refine xr_al0 dX12_soonest_47 ?_
          refine xr_get W.o fX12_42 rfl dX12_soonest_48 ?_
          refine xr_bipush (v := 12) dX12_soonest_51 (by decide) ?_
          refine xr_il2 dX12_soonest_53 ?_
          refine xr_iast W.a11 (xix_lit (j := 12) (by decide)) dX12_soonest_54 ?_
          refine xT.nm (fun zh2 zg2 => ?_)
          have W := W.p11 zg2
          refine xr_ic0 dX12_soonest_55 ?_
          refine xr_is3 dX12_soonest_56 (by decide) rfl ?_
          have okt2 : hOk (upd σ 12 2) := hOk_seats ok (by decide) (by decide)
          refine lp_mSoonI (by exact L) 99 0 (fun {h} {w} q9 => ?_) okt2 (by exact rr_upd (rr_lay R ok _) (i := 12) (by decide) 2) (xMz_of W) rfl
          have e2 : soN φ σ 2 = nI (rtN φ 99 0 (upd σ 12 2)).1 := rfl
          have h2 : (rtN φ 99 0 (upd σ 12 2)).1 ≤ 100 := rtN_le φ 99 0 _
          generalize (rtN φ 99 0 (upd σ 12 2)).1 = a2 at *
          obtain ⟨za, zb, zc, zd, ze, zrd, z8, W⟩ := xMz_out (by decide) q9
          refine xr_al0 dX12_soonest_88 ?_
          refine xr_get W.o fX12_48 rfl dX12_soonest_89 ?_
          refine xr_il2 dX12_soonest_92 ?_
          refine xr_il3 dX12_soonest_93 ?_
          refine xr_bipush (v := 100) dX12_soonest_94 (by decide) ?_
          refine xr_min kmX12_195 ms_min wz_J9 mc_min (by decide) (Nat.le_of_ble_eq_true rfl) dX12_soonest_96 ?_
          refine xr_eqi (y := nI a2) ((iMin_nn (b := 100) (by omega) (by decide)).trans (by rw [Nat.min_eq_left h2])) ?_
          refine xr_iast W.a13 (xix_lit (j := 2) (by decide)) dX12_soonest_99 ?_
          refine xT.nm (fun zh1 zg1 => ?_)
          have W := W.p13 zg1
          refine xr_al0 dX12_soonest_100 ?_
          refine xr_get W.o fX12_48 rfl dX12_soonest_101 ?_
          refine xr_il2 dX12_soonest_104 ?_
          refine xr_iald W.a13 (xix_lit (j := 2) (by decide)) dX12_soonest_105 ?_
          refine xr_eqi (y := nI a2) rfl ?_
          refine xr_al0 dX12_soonest_106 ?_
          refine xr_get W.o fX12_48 rfl dX12_soonest_107 ?_
          refine xr_il1 dX12_soonest_110 ?_
          refine xr_iald W.a13 (xix_lit (j := 0) (by decide)) dX12_soonest_111 ?_
          refine xr_eqi (y := 100) rfl ?_
          refine xr_icmpge (tgt := 119) dX12_soonest_112 (by decide) (fun zc112 => ?_) (fun zc112 => ?_)
          · skip
            refine xr_il1 dX12_soonest_119 ?_
            refine xr_is1 dX12_soonest_120 (by decide) rfl ?_
            refine xr_inc2 dX12_soonest_121 (show (2 : Int32) + Int32.ofInt 1 = 3 from rfl) (by decide) rfl ?_
            refine xr_goto (tgt := 30) dX12_soonest_124 (by decide) ?_
            have y2 : 100 ≤ a2 := (nI_leI (a := 100) (b := a2) (by omega) (by omega)).mp zc112
            refine xr_il2 dX12_soonest_30 ?_
            refine xr_ic3 dX12_soonest_31 ?_
            refine xr_icmpgt (tgt := 127) dX12_soonest_32 (by decide) (fun zc32 => ?_) (fun zc32 => ?_)
            · skip
              exact absurd zc32 (by decide)
            · skip
              refine xr_al0 dX12_soonest_35 ?_
              refine xr_get W.o fX12_9 rfl dX12_soonest_36 ?_
              refine xr_al0 dX12_soonest_39 ?_
              refine xr_get W.o fX12_42 rfl dX12_soonest_40 ?_
              refine xr_ic0 dX12_soonest_43 ?_
              refine xr_Sv3 (s_mLay (k := 0) W.a1 W.a11 (by omega) (by decide) (by decide)) kX12_210 (by decide) (Nat.le_of_ble_eq_true rfl) (Nat.zero_add _) (Nat.zero_add _) dX12_soonest_44 ?_
              refine xT.nm (fun zh1 zg1 => ?_)
              have W := W.p11 zg1
              refine xr_al0 dX12_soonest_47 ?_
              refine xr_get W.o fX12_42 rfl dX12_soonest_48 ?_
              refine xr_bipush (v := 12) dX12_soonest_51 (by decide) ?_
              refine xr_il2 dX12_soonest_53 ?_
              refine xr_iast W.a11 (xix_lit (j := 12) (by decide)) dX12_soonest_54 ?_
              refine xT.nm (fun zh2 zg2 => ?_)
              have W := W.p11 zg2
              refine xr_ic0 dX12_soonest_55 ?_
              refine xr_is3 dX12_soonest_56 (by decide) rfl ?_
              have okt3 : hOk (upd σ 12 3) := hOk_seats ok (by decide) (by decide)
              refine lp_mSoonI (by exact L) 99 0 (fun {h} {w} q9 => ?_) okt3 (by exact rr_upd (rr_lay R ok _) (i := 12) (by decide) 3) (xMz_of W) rfl
              have e3 : soN φ σ 3 = nI (rtN φ 99 0 (upd σ 12 3)).1 := rfl
              have h3 : (rtN φ 99 0 (upd σ 12 3)).1 ≤ 100 := rtN_le φ 99 0 _
              generalize (rtN φ 99 0 (upd σ 12 3)).1 = a3 at *
              obtain ⟨za, zb, zc, zd, ze, zrd, z8, W⟩ := xMz_out (by decide) q9
              refine xr_al0 dX12_soonest_88 ?_
              refine xr_get W.o fX12_48 rfl dX12_soonest_89 ?_
              refine xr_il2 dX12_soonest_92 ?_
              refine xr_il3 dX12_soonest_93 ?_
              refine xr_bipush (v := 100) dX12_soonest_94 (by decide) ?_
              refine xr_min kmX12_195 ms_min wz_J9 mc_min (by decide) (Nat.le_of_ble_eq_true rfl) dX12_soonest_96 ?_
              refine xr_eqi (y := nI a3) ((iMin_nn (b := 100) (by omega) (by decide)).trans (by rw [Nat.min_eq_left h3])) ?_
              refine xr_iast W.a13 (xix_lit (j := 3) (by decide)) dX12_soonest_99 ?_
              refine xT.nm (fun zh1 zg1 => ?_)
              have W := W.p13 zg1
              refine xr_al0 dX12_soonest_100 ?_
              refine xr_get W.o fX12_48 rfl dX12_soonest_101 ?_
              refine xr_il2 dX12_soonest_104 ?_
              refine xr_iald W.a13 (xix_lit (j := 3) (by decide)) dX12_soonest_105 ?_
              refine xr_eqi (y := nI a3) rfl ?_
              refine xr_al0 dX12_soonest_106 ?_
              refine xr_get W.o fX12_48 rfl dX12_soonest_107 ?_
              refine xr_il1 dX12_soonest_110 ?_
              refine xr_iald W.a13 (xix_lit (j := 0) (by decide)) dX12_soonest_111 ?_
              refine xr_eqi (y := 100) rfl ?_
              refine xr_icmpge (tgt := 119) dX12_soonest_112 (by decide) (fun zc112 => ?_) (fun zc112 => ?_)
              · skip
                refine xr_il1 dX12_soonest_119 ?_
                refine xr_is1 dX12_soonest_120 (by decide) rfl ?_
                refine xr_inc2 dX12_soonest_121 (show (3 : Int32) + Int32.ofInt 1 = 4 from rfl) (by decide) rfl ?_
                refine xr_goto (tgt := 30) dX12_soonest_124 (by decide) ?_
                have y3 : 100 ≤ a3 := (nI_leI (a := 100) (b := a3) (by omega) (by omega)).mp zc112
                refine xr_il2 dX12_soonest_30 ?_
                refine xr_ic3 dX12_soonest_31 ?_
                refine xr_icmpgt (tgt := 127) dX12_soonest_32 (by decide) (fun zc32 => ?_) (fun zc32 => ?_)
                · skip
                  refine xr_il1 dX12_soonest_127 ?_
                  refine xr_ifne (tgt := 134) dX12_soonest_128 (by decide) (fun zc128 => ?_) (fun zc128 => ?_)
                  · skip
                    exact absurd rfl zc128
                  · skip
                    refine xr_bipush (v := (-2)) dX12_soonest_131 (by decide) ?_
                    refine xr_iret dX12_soonest_133 rfl ?_
                    have e : soR φ σ rk rv = (-2, rk, rv) := (so_e zc12 (a := a1) (b := a2) (d := a3) e1 e2 e3 (by omega) (by omega) (by omega)).trans (if_neg (by omega))
                    rw [e]
                    exact ⟨_, rfl, rfl, ⟨_, _, _, _, W, T, Rw, ⟨R, ok, iv⟩, P, Kp, L, H, Sw, rfl⟩⟩
                · skip
                  exact absurd (by decide) zc32
              · skip
                refine xr_il2 dX12_soonest_115 ?_
                refine xr_goto (tgt := 120) dX12_soonest_116 (by decide) ?_
                refine xr_is1 dX12_soonest_120 (by decide) rfl ?_
                refine xr_inc2 dX12_soonest_121 (show (3 : Int32) + Int32.ofInt 1 = 4 from rfl) (by decide) rfl ?_
                refine xr_goto (tgt := 30) dX12_soonest_124 (by decide) ?_
                have y3 : ¬ 100 ≤ a3 := fun q => zc112 (nI_le (a := 100) (b := a3) q (by omega))
                refine xr_il2 dX12_soonest_30 ?_
                refine xr_ic3 dX12_soonest_31 ?_
                refine xr_icmpgt (tgt := 127) dX12_soonest_32 (by decide) (fun zc32 => ?_) (fun zc32 => ?_)
                · skip
                  refine xr_il1 dX12_soonest_127 ?_
                  refine xr_ifne (tgt := 134) dX12_soonest_128 (by decide) (fun zc128 => ?_) (fun zc128 => ?_)
                  · skip
                    refine xr_al0 dX12_soonest_134 ?_
                    refine xr_ic0 dX12_soonest_135 ?_
                    refine xr_put W.o fX12_86 (Nat.le_of_ble_eq_true rfl) rfl rfl dX12_soonest_136 ?_
                    refine xT.nm (fun zh1 zg1 => ?_)
                    have W := W.f4 zg1
                    refine xr_ic1 dX12_soonest_139 ?_
                    refine xr_is2 dX12_soonest_140 (by decide) rfl ?_
                    refine xr_il2 dX12_soonest_141 ?_
                    refine xr_ic3 dX12_soonest_142 ?_
                    refine xr_icmpgt (tgt := 163) dX12_soonest_143 (by decide) (fun zc143 => ?_) (fun zc143 => ?_)
                    · skip
                      exact absurd zc143 (by decide)
                    · skip
                      refine xr_al0 dX12_soonest_146 ?_
                      refine xr_al0 dX12_soonest_147 ?_
                      refine xr_get W.o fX12_48 rfl dX12_soonest_148 ?_
                      refine xr_il2 dX12_soonest_151 ?_
                      refine xr_iald W.a13 (xix_lit (j := 1) (by decide)) dX12_soonest_152 ?_
                      refine xr_eqi (y := nI a1) rfl ?_
                      refine xr_i2l dX12_soonest_153 ?_
                      refine xr_Vpv1 (s_mTell W (k := 0) rfl (by decide) _) kX12_253 (by decide) (Nat.le_of_ble_eq_true rfl) (Nat.zero_add _) (Nat.zero_add _) dX12_soonest_154 (fun zh1 zq1 => ?_)
                      have W := zq1
                      refine xr_inc2 dX12_soonest_157 (show (1 : Int32) + Int32.ofInt 1 = 2 from rfl) (by decide) rfl ?_
                      refine xr_goto (tgt := 141) dX12_soonest_160 (by decide) ?_
                      refine xr_il2 dX12_soonest_141 ?_
                      refine xr_ic3 dX12_soonest_142 ?_
                      refine xr_icmpgt (tgt := 163) dX12_soonest_143 (by decide) (fun zc143 => ?_) (fun zc143 => ?_)
                      · skip
                        exact absurd zc143 (by decide)
                      · skip
                        refine xr_al0 dX12_soonest_146 ?_
                        refine xr_al0 dX12_soonest_147 ?_
                        refine xr_get W.o fX12_48 rfl dX12_soonest_148 ?_
                        refine xr_il2 dX12_soonest_151 ?_
                        refine xr_iald W.a13 (xix_lit (j := 2) (by decide)) dX12_soonest_152 ?_
                        refine xr_eqi (y := nI a2) rfl ?_
                        refine xr_i2l dX12_soonest_153 ?_
                        refine xr_Vpv1 (s_mTell W (k := 1) rfl (by decide) _) kX12_253 (by decide) (Nat.le_of_ble_eq_true rfl) (Nat.zero_add _) (Nat.zero_add _) dX12_soonest_154 (fun zh1 zq1 => ?_)
                        have W := zq1
                        refine xr_inc2 dX12_soonest_157 (show (2 : Int32) + Int32.ofInt 1 = 3 from rfl) (by decide) rfl ?_
                        refine xr_goto (tgt := 141) dX12_soonest_160 (by decide) ?_
                        refine xr_il2 dX12_soonest_141 ?_
                        refine xr_ic3 dX12_soonest_142 ?_
                        refine xr_icmpgt (tgt := 163) dX12_soonest_143 (by decide) (fun zc143 => ?_) (fun zc143 => ?_)
                        · skip
                          exact absurd zc143 (by decide)
                        · skip
                          refine xr_al0 dX12_soonest_146 ?_
                          refine xr_al0 dX12_soonest_147 ?_
                          refine xr_get W.o fX12_48 rfl dX12_soonest_148 ?_
                          refine xr_il2 dX12_soonest_151 ?_
                          refine xr_iald W.a13 (xix_lit (j := 3) (by decide)) dX12_soonest_152 ?_
                          refine xr_eqi (y := nI a3) rfl ?_
                          refine xr_i2l dX12_soonest_153 ?_
                          refine xr_Vpv1 (s_mTell W (k := 2) rfl (by decide) _) kX12_253 (by decide) (Nat.le_of_ble_eq_true rfl) (Nat.zero_add _) (Nat.zero_add _) dX12_soonest_154 (fun zh1 zq1 => ?_)
                          have W := zq1
                          refine xr_inc2 dX12_soonest_157 (show (3 : Int32) + Int32.ofInt 1 = 4 from rfl) (by decide) rfl ?_
                          refine xr_goto (tgt := 141) dX12_soonest_160 (by decide) ?_
                          refine xr_il2 dX12_soonest_141 ?_
                          refine xr_ic3 dX12_soonest_142 ?_
                          refine xr_icmpgt (tgt := 163) dX12_soonest_143 (by decide) (fun zc143 => ?_) (fun zc143 => ?_)
                          · skip
                            refine xr_il1 dX12_soonest_163 ?_
                            refine xr_iret dX12_soonest_164 rfl ?_
                            have e : soR φ σ rk rv = (3, 3, tl3 rv (nI a1) (nI a2) (nI a3)) := (so_e zc12 (a := a1) (b := a2) (d := a3) e1 e2 e3 (by omega) (by omega) (by omega)).trans ((if_pos (by omega)).trans (by rw [if_neg (by omega), if_neg (by omega)]))
                            rw [e]
                            exact ⟨_, rfl, rfl, ⟨_, _, _, _, W, T, maR3 _ _ _, ⟨R, ok, iv⟩, P, Kp, L, H, Sw, rfl⟩⟩
                          · skip
                            exact absurd (by decide) zc143
                  · skip
                    exact absurd zc128 (by decide)
                · skip
                  exact absurd (by decide) zc32
          · skip
            refine xr_il2 dX12_soonest_115 ?_
            refine xr_goto (tgt := 120) dX12_soonest_116 (by decide) ?_
            refine xr_is1 dX12_soonest_120 (by decide) rfl ?_
            refine xr_inc2 dX12_soonest_121 (show (2 : Int32) + Int32.ofInt 1 = 3 from rfl) (by decide) rfl ?_
            refine xr_goto (tgt := 30) dX12_soonest_124 (by decide) ?_
            have y2 : ¬ 100 ≤ a2 := fun q => zc112 (nI_le (a := 100) (b := a2) q (by omega))
            refine xr_il2 dX12_soonest_30 ?_
            refine xr_ic3 dX12_soonest_31 ?_
            refine xr_icmpgt (tgt := 127) dX12_soonest_32 (by decide) (fun zc32 => ?_) (fun zc32 => ?_)
            · skip
              exact absurd zc32 (by decide)
            · skip
              refine xr_al0 dX12_soonest_35 ?_
              refine xr_get W.o fX12_9 rfl dX12_soonest_36 ?_
              refine xr_al0 dX12_soonest_39 ?_
              refine xr_get W.o fX12_42 rfl dX12_soonest_40 ?_
              refine xr_ic0 dX12_soonest_43 ?_
              refine xr_Sv3 (s_mLay (k := 0) W.a1 W.a11 (by omega) (by decide) (by decide)) kX12_210 (by decide) (Nat.le_of_ble_eq_true rfl) (Nat.zero_add _) (Nat.zero_add _) dX12_soonest_44 ?_
              refine xT.nm (fun zh1 zg1 => ?_)
              have W := W.p11 zg1
              refine xr_al0 dX12_soonest_47 ?_
              refine xr_get W.o fX12_42 rfl dX12_soonest_48 ?_
              refine xr_bipush (v := 12) dX12_soonest_51 (by decide) ?_
              refine xr_il2 dX12_soonest_53 ?_
              refine xr_iast W.a11 (xix_lit (j := 12) (by decide)) dX12_soonest_54 ?_
              refine xT.nm (fun zh2 zg2 => ?_)
              have W := W.p11 zg2
              refine xr_ic0 dX12_soonest_55 ?_
              refine xr_is3 dX12_soonest_56 (by decide) rfl ?_
              have okt3 : hOk (upd σ 12 3) := hOk_seats ok (by decide) (by decide)
              refine lp_mSoonI (by exact L) 99 0 (fun {h} {w} q9 => ?_) okt3 (by exact rr_upd (rr_lay R ok _) (i := 12) (by decide) 3) (xMz_of W) rfl
              have e3 : soN φ σ 3 = nI (rtN φ 99 0 (upd σ 12 3)).1 := rfl
              have h3 : (rtN φ 99 0 (upd σ 12 3)).1 ≤ 100 := rtN_le φ 99 0 _
              generalize (rtN φ 99 0 (upd σ 12 3)).1 = a3 at *
              obtain ⟨za, zb, zc, zd, ze, zrd, z8, W⟩ := xMz_out (by decide) q9
              refine xr_al0 dX12_soonest_88 ?_
              refine xr_get W.o fX12_48 rfl dX12_soonest_89 ?_
              refine xr_il2 dX12_soonest_92 ?_
              refine xr_il3 dX12_soonest_93 ?_
              refine xr_bipush (v := 100) dX12_soonest_94 (by decide) ?_
              refine xr_min kmX12_195 ms_min wz_J9 mc_min (by decide) (Nat.le_of_ble_eq_true rfl) dX12_soonest_96 ?_
              refine xr_eqi (y := nI a3) ((iMin_nn (b := 100) (by omega) (by decide)).trans (by rw [Nat.min_eq_left h3])) ?_
              refine xr_iast W.a13 (xix_lit (j := 3) (by decide)) dX12_soonest_99 ?_
              refine xT.nm (fun zh1 zg1 => ?_)
              have W := W.p13 zg1
              refine xr_al0 dX12_soonest_100 ?_
              refine xr_get W.o fX12_48 rfl dX12_soonest_101 ?_
              refine xr_il2 dX12_soonest_104 ?_
              refine xr_iald W.a13 (xix_lit (j := 3) (by decide)) dX12_soonest_105 ?_
              refine xr_eqi (y := nI a3) rfl ?_
              refine xr_al0 dX12_soonest_106 ?_
              refine xr_get W.o fX12_48 rfl dX12_soonest_107 ?_
              refine xr_il1 dX12_soonest_110 ?_
              refine xr_iald W.a13 (xix_lit (j := 2) (by decide)) dX12_soonest_111 ?_
              refine xr_eqi (y := nI a2) rfl ?_
              refine xr_icmpge (tgt := 119) dX12_soonest_112 (by decide) (fun zc112 => ?_) (fun zc112 => ?_)
              · skip
                refine xr_il1 dX12_soonest_119 ?_
                refine xr_is1 dX12_soonest_120 (by decide) rfl ?_
                refine xr_inc2 dX12_soonest_121 (show (3 : Int32) + Int32.ofInt 1 = 4 from rfl) (by decide) rfl ?_
                refine xr_goto (tgt := 30) dX12_soonest_124 (by decide) ?_
                have y3 : a2 ≤ a3 := (nI_leI (a := a2) (b := a3) (by omega) (by omega)).mp zc112
                refine xr_il2 dX12_soonest_30 ?_
                refine xr_ic3 dX12_soonest_31 ?_
                refine xr_icmpgt (tgt := 127) dX12_soonest_32 (by decide) (fun zc32 => ?_) (fun zc32 => ?_)
                · skip
                  refine xr_il1 dX12_soonest_127 ?_
                  refine xr_ifne (tgt := 134) dX12_soonest_128 (by decide) (fun zc128 => ?_) (fun zc128 => ?_)
                  · skip
                    refine xr_al0 dX12_soonest_134 ?_
                    refine xr_ic0 dX12_soonest_135 ?_
                    refine xr_put W.o fX12_86 (Nat.le_of_ble_eq_true rfl) rfl rfl dX12_soonest_136 ?_
                    refine xT.nm (fun zh1 zg1 => ?_)
                    have W := W.f4 zg1
                    refine xr_ic1 dX12_soonest_139 ?_
                    refine xr_is2 dX12_soonest_140 (by decide) rfl ?_
                    refine xr_il2 dX12_soonest_141 ?_
                    refine xr_ic3 dX12_soonest_142 ?_
                    refine xr_icmpgt (tgt := 163) dX12_soonest_143 (by decide) (fun zc143 => ?_) (fun zc143 => ?_)
                    · skip
                      exact absurd zc143 (by decide)
                    · skip
                      refine xr_al0 dX12_soonest_146 ?_
                      refine xr_al0 dX12_soonest_147 ?_
                      refine xr_get W.o fX12_48 rfl dX12_soonest_148 ?_
                      refine xr_il2 dX12_soonest_151 ?_
                      refine xr_iald W.a13 (xix_lit (j := 1) (by decide)) dX12_soonest_152 ?_
                      refine xr_eqi (y := nI a1) rfl ?_
                      refine xr_i2l dX12_soonest_153 ?_
                      refine xr_Vpv1 (s_mTell W (k := 0) rfl (by decide) _) kX12_253 (by decide) (Nat.le_of_ble_eq_true rfl) (Nat.zero_add _) (Nat.zero_add _) dX12_soonest_154 (fun zh1 zq1 => ?_)
                      have W := zq1
                      refine xr_inc2 dX12_soonest_157 (show (1 : Int32) + Int32.ofInt 1 = 2 from rfl) (by decide) rfl ?_
                      refine xr_goto (tgt := 141) dX12_soonest_160 (by decide) ?_
                      refine xr_il2 dX12_soonest_141 ?_
                      refine xr_ic3 dX12_soonest_142 ?_
                      refine xr_icmpgt (tgt := 163) dX12_soonest_143 (by decide) (fun zc143 => ?_) (fun zc143 => ?_)
                      · skip
                        exact absurd zc143 (by decide)
                      · skip
                        refine xr_al0 dX12_soonest_146 ?_
                        refine xr_al0 dX12_soonest_147 ?_
                        refine xr_get W.o fX12_48 rfl dX12_soonest_148 ?_
                        refine xr_il2 dX12_soonest_151 ?_
                        refine xr_iald W.a13 (xix_lit (j := 2) (by decide)) dX12_soonest_152 ?_
                        refine xr_eqi (y := nI a2) rfl ?_
                        refine xr_i2l dX12_soonest_153 ?_
                        refine xr_Vpv1 (s_mTell W (k := 1) rfl (by decide) _) kX12_253 (by decide) (Nat.le_of_ble_eq_true rfl) (Nat.zero_add _) (Nat.zero_add _) dX12_soonest_154 (fun zh1 zq1 => ?_)
                        have W := zq1
                        refine xr_inc2 dX12_soonest_157 (show (2 : Int32) + Int32.ofInt 1 = 3 from rfl) (by decide) rfl ?_
                        refine xr_goto (tgt := 141) dX12_soonest_160 (by decide) ?_
                        refine xr_il2 dX12_soonest_141 ?_
                        refine xr_ic3 dX12_soonest_142 ?_
                        refine xr_icmpgt (tgt := 163) dX12_soonest_143 (by decide) (fun zc143 => ?_) (fun zc143 => ?_)
                        · skip
                          exact absurd zc143 (by decide)
                        · skip
                          refine xr_al0 dX12_soonest_146 ?_
                          refine xr_al0 dX12_soonest_147 ?_
                          refine xr_get W.o fX12_48 rfl dX12_soonest_148 ?_
                          refine xr_il2 dX12_soonest_151 ?_
                          refine xr_iald W.a13 (xix_lit (j := 3) (by decide)) dX12_soonest_152 ?_
                          refine xr_eqi (y := nI a3) rfl ?_
                          refine xr_i2l dX12_soonest_153 ?_
                          refine xr_Vpv1 (s_mTell W (k := 2) rfl (by decide) _) kX12_253 (by decide) (Nat.le_of_ble_eq_true rfl) (Nat.zero_add _) (Nat.zero_add _) dX12_soonest_154 (fun zh1 zq1 => ?_)
                          have W := zq1
                          refine xr_inc2 dX12_soonest_157 (show (3 : Int32) + Int32.ofInt 1 = 4 from rfl) (by decide) rfl ?_
                          refine xr_goto (tgt := 141) dX12_soonest_160 (by decide) ?_
                          refine xr_il2 dX12_soonest_141 ?_
                          refine xr_ic3 dX12_soonest_142 ?_
                          refine xr_icmpgt (tgt := 163) dX12_soonest_143 (by decide) (fun zc143 => ?_) (fun zc143 => ?_)
                          · skip
                            refine xr_il1 dX12_soonest_163 ?_
                            refine xr_iret dX12_soonest_164 rfl ?_
                            have e : soR φ σ rk rv = (2, 3, tl3 rv (nI a1) (nI a2) (nI a3)) := (so_e zc12 (a := a1) (b := a2) (d := a3) e1 e2 e3 (by omega) (by omega) (by omega)).trans ((if_pos (by omega)).trans (by rw [if_neg (by omega), if_pos (by omega)]))
                            rw [e]
                            exact ⟨_, rfl, rfl, ⟨_, _, _, _, W, T, maR3 _ _ _, ⟨R, ok, iv⟩, P, Kp, L, H, Sw, rfl⟩⟩
                          · skip
                            exact absurd (by decide) zc143
                  · skip
                    exact absurd zc128 (by decide)
                · skip
                  exact absurd (by decide) zc32
              · skip
                refine xr_il2 dX12_soonest_115 ?_
                refine xr_goto (tgt := 120) dX12_soonest_116 (by decide) ?_
                refine xr_is1 dX12_soonest_120 (by decide) rfl ?_
                refine xr_inc2 dX12_soonest_121 (show (3 : Int32) + Int32.ofInt 1 = 4 from rfl) (by decide) rfl ?_
                refine xr_goto (tgt := 30) dX12_soonest_124 (by decide) ?_
                have y3 : ¬ a2 ≤ a3 := fun q => zc112 (nI_le (a := a2) (b := a3) q (by omega))
                refine xr_il2 dX12_soonest_30 ?_
                refine xr_ic3 dX12_soonest_31 ?_
                refine xr_icmpgt (tgt := 127) dX12_soonest_32 (by decide) (fun zc32 => ?_) (fun zc32 => ?_)
                · skip
                  refine xr_il1 dX12_soonest_127 ?_
                  refine xr_ifne (tgt := 134) dX12_soonest_128 (by decide) (fun zc128 => ?_) (fun zc128 => ?_)
                  · skip
                    refine xr_al0 dX12_soonest_134 ?_
                    refine xr_ic0 dX12_soonest_135 ?_
                    refine xr_put W.o fX12_86 (Nat.le_of_ble_eq_true rfl) rfl rfl dX12_soonest_136 ?_
                    refine xT.nm (fun zh1 zg1 => ?_)
                    have W := W.f4 zg1
                    refine xr_ic1 dX12_soonest_139 ?_
                    refine xr_is2 dX12_soonest_140 (by decide) rfl ?_
                    refine xr_il2 dX12_soonest_141 ?_
                    refine xr_ic3 dX12_soonest_142 ?_
                    refine xr_icmpgt (tgt := 163) dX12_soonest_143 (by decide) (fun zc143 => ?_) (fun zc143 => ?_)
                    · skip
                      exact absurd zc143 (by decide)
                    · skip
                      refine xr_al0 dX12_soonest_146 ?_
                      refine xr_al0 dX12_soonest_147 ?_
                      refine xr_get W.o fX12_48 rfl dX12_soonest_148 ?_
                      refine xr_il2 dX12_soonest_151 ?_
                      refine xr_iald W.a13 (xix_lit (j := 1) (by decide)) dX12_soonest_152 ?_
                      refine xr_eqi (y := nI a1) rfl ?_
                      refine xr_i2l dX12_soonest_153 ?_
                      refine xr_Vpv1 (s_mTell W (k := 0) rfl (by decide) _) kX12_253 (by decide) (Nat.le_of_ble_eq_true rfl) (Nat.zero_add _) (Nat.zero_add _) dX12_soonest_154 (fun zh1 zq1 => ?_)
                      have W := zq1
                      refine xr_inc2 dX12_soonest_157 (show (1 : Int32) + Int32.ofInt 1 = 2 from rfl) (by decide) rfl ?_
                      refine xr_goto (tgt := 141) dX12_soonest_160 (by decide) ?_
                      refine xr_il2 dX12_soonest_141 ?_
                      refine xr_ic3 dX12_soonest_142 ?_
                      refine xr_icmpgt (tgt := 163) dX12_soonest_143 (by decide) (fun zc143 => ?_) (fun zc143 => ?_)
                      · skip
                        exact absurd zc143 (by decide)
                      · skip
                        refine xr_al0 dX12_soonest_146 ?_
                        refine xr_al0 dX12_soonest_147 ?_
                        refine xr_get W.o fX12_48 rfl dX12_soonest_148 ?_
                        refine xr_il2 dX12_soonest_151 ?_
                        refine xr_iald W.a13 (xix_lit (j := 2) (by decide)) dX12_soonest_152 ?_
                        refine xr_eqi (y := nI a2) rfl ?_
                        refine xr_i2l dX12_soonest_153 ?_
                        refine xr_Vpv1 (s_mTell W (k := 1) rfl (by decide) _) kX12_253 (by decide) (Nat.le_of_ble_eq_true rfl) (Nat.zero_add _) (Nat.zero_add _) dX12_soonest_154 (fun zh1 zq1 => ?_)
                        have W := zq1
                        refine xr_inc2 dX12_soonest_157 (show (2 : Int32) + Int32.ofInt 1 = 3 from rfl) (by decide) rfl ?_
                        refine xr_goto (tgt := 141) dX12_soonest_160 (by decide) ?_
                        refine xr_il2 dX12_soonest_141 ?_
                        refine xr_ic3 dX12_soonest_142 ?_
                        refine xr_icmpgt (tgt := 163) dX12_soonest_143 (by decide) (fun zc143 => ?_) (fun zc143 => ?_)
                        · skip
                          exact absurd zc143 (by decide)
                        · skip
                          refine xr_al0 dX12_soonest_146 ?_
                          refine xr_al0 dX12_soonest_147 ?_
                          refine xr_get W.o fX12_48 rfl dX12_soonest_148 ?_
                          refine xr_il2 dX12_soonest_151 ?_
                          refine xr_iald W.a13 (xix_lit (j := 3) (by decide)) dX12_soonest_152 ?_
                          refine xr_eqi (y := nI a3) rfl ?_
                          refine xr_i2l dX12_soonest_153 ?_
                          refine xr_Vpv1 (s_mTell W (k := 2) rfl (by decide) _) kX12_253 (by decide) (Nat.le_of_ble_eq_true rfl) (Nat.zero_add _) (Nat.zero_add _) dX12_soonest_154 (fun zh1 zq1 => ?_)
                          have W := zq1
                          refine xr_inc2 dX12_soonest_157 (show (3 : Int32) + Int32.ofInt 1 = 4 from rfl) (by decide) rfl ?_
                          refine xr_goto (tgt := 141) dX12_soonest_160 (by decide) ?_
                          refine xr_il2 dX12_soonest_141 ?_
                          refine xr_ic3 dX12_soonest_142 ?_
                          refine xr_icmpgt (tgt := 163) dX12_soonest_143 (by decide) (fun zc143 => ?_) (fun zc143 => ?_)
                          · skip
                            refine xr_il1 dX12_soonest_163 ?_
                            refine xr_iret dX12_soonest_164 rfl ?_
                            have e : soR φ σ rk rv = (3, 3, tl3 rv (nI a1) (nI a2) (nI a3)) := (so_e zc12 (a := a1) (b := a2) (d := a3) e1 e2 e3 (by omega) (by omega) (by omega)).trans ((if_pos (by omega)).trans (by rw [if_neg (by omega), if_neg (by omega)]))
                            rw [e]
                            exact ⟨_, rfl, rfl, ⟨_, _, _, _, W, T, maR3 _ _ _, ⟨R, ok, iv⟩, P, Kp, L, H, Sw, rfl⟩⟩
                          · skip
                            exact absurd (by decide) zc143
                  · skip
                    exact absurd zc128 (by decide)
                · skip
                  exact absurd (by decide) zc32
      · skip
        refine xr_il2 dX12_soonest_115 ?_
        refine xr_goto (tgt := 120) dX12_soonest_116 (by decide) ?_
        refine xr_is1 dX12_soonest_120 (by decide) rfl ?_
        refine xr_inc2 dX12_soonest_121 (show (1 : Int32) + Int32.ofInt 1 = 2 from rfl) (by decide) rfl ?_
        refine xr_goto (tgt := 30) dX12_soonest_124 (by decide) ?_
        have y1 : ¬ 100 ≤ a1 := fun q => zc112 (nI_le (a := 100) (b := a1) q (by omega))
        refine xr_il2 dX12_soonest_30 ?_
        refine xr_ic3 dX12_soonest_31 ?_
        refine xr_icmpgt (tgt := 127) dX12_soonest_32 (by decide) (fun zc32 => ?_) (fun zc32 => ?_)
        · skip
          exact absurd zc32 (by decide)
        · skip
          refine xr_al0 dX12_soonest_35 ?_
          refine xr_get W.o fX12_9 rfl dX12_soonest_36 ?_
          refine xr_al0 dX12_soonest_39 ?_
          refine xr_get W.o fX12_42 rfl dX12_soonest_40 ?_
          refine xr_ic0 dX12_soonest_43 ?_
          refine xr_Sv3 (s_mLay (k := 0) W.a1 W.a11 (by omega) (by decide) (by decide)) kX12_210 (by decide) (Nat.le_of_ble_eq_true rfl) (Nat.zero_add _) (Nat.zero_add _) dX12_soonest_44 ?_
          refine xT.nm (fun zh1 zg1 => ?_)
          have W := W.p11 zg1
          refine xr_al0 dX12_soonest_47 ?_
          refine xr_get W.o fX12_42 rfl dX12_soonest_48 ?_
          refine xr_bipush (v := 12) dX12_soonest_51 (by decide) ?_
          refine xr_il2 dX12_soonest_53 ?_
          refine xr_iast W.a11 (xix_lit (j := 12) (by decide)) dX12_soonest_54 ?_
          refine xT.nm (fun zh2 zg2 => ?_)
          have W := W.p11 zg2
          refine xr_ic0 dX12_soonest_55 ?_
          refine xr_is3 dX12_soonest_56 (by decide) rfl ?_
          have okt2 : hOk (upd σ 12 2) := hOk_seats ok (by decide) (by decide)
          refine lp_mSoonI (by exact L) 99 0 (fun {h} {w} q9 => ?_) okt2 (by exact rr_upd (rr_lay R ok _) (i := 12) (by decide) 2) (xMz_of W) rfl
          have e2 : soN φ σ 2 = nI (rtN φ 99 0 (upd σ 12 2)).1 := rfl
          have h2 : (rtN φ 99 0 (upd σ 12 2)).1 ≤ 100 := rtN_le φ 99 0 _
          generalize (rtN φ 99 0 (upd σ 12 2)).1 = a2 at *
          obtain ⟨za, zb, zc, zd, ze, zrd, z8, W⟩ := xMz_out (by decide) q9
          refine xr_al0 dX12_soonest_88 ?_
          refine xr_get W.o fX12_48 rfl dX12_soonest_89 ?_
          refine xr_il2 dX12_soonest_92 ?_
          refine xr_il3 dX12_soonest_93 ?_
          refine xr_bipush (v := 100) dX12_soonest_94 (by decide) ?_
          refine xr_min kmX12_195 ms_min wz_J9 mc_min (by decide) (Nat.le_of_ble_eq_true rfl) dX12_soonest_96 ?_
          refine xr_eqi (y := nI a2) ((iMin_nn (b := 100) (by omega) (by decide)).trans (by rw [Nat.min_eq_left h2])) ?_
          refine xr_iast W.a13 (xix_lit (j := 2) (by decide)) dX12_soonest_99 ?_
          refine xT.nm (fun zh1 zg1 => ?_)
          have W := W.p13 zg1
          refine xr_al0 dX12_soonest_100 ?_
          refine xr_get W.o fX12_48 rfl dX12_soonest_101 ?_
          refine xr_il2 dX12_soonest_104 ?_
          refine xr_iald W.a13 (xix_lit (j := 2) (by decide)) dX12_soonest_105 ?_
          refine xr_eqi (y := nI a2) rfl ?_
          refine xr_al0 dX12_soonest_106 ?_
          refine xr_get W.o fX12_48 rfl dX12_soonest_107 ?_
          refine xr_il1 dX12_soonest_110 ?_
          refine xr_iald W.a13 (xix_lit (j := 1) (by decide)) dX12_soonest_111 ?_
          refine xr_eqi (y := nI a1) rfl ?_
          refine xr_icmpge (tgt := 119) dX12_soonest_112 (by decide) (fun zc112 => ?_) (fun zc112 => ?_)
          · skip
            refine xr_il1 dX12_soonest_119 ?_
            refine xr_is1 dX12_soonest_120 (by decide) rfl ?_
            refine xr_inc2 dX12_soonest_121 (show (2 : Int32) + Int32.ofInt 1 = 3 from rfl) (by decide) rfl ?_
            refine xr_goto (tgt := 30) dX12_soonest_124 (by decide) ?_
            have y2 : a1 ≤ a2 := (nI_leI (a := a1) (b := a2) (by omega) (by omega)).mp zc112
            refine xr_il2 dX12_soonest_30 ?_
            refine xr_ic3 dX12_soonest_31 ?_
            refine xr_icmpgt (tgt := 127) dX12_soonest_32 (by decide) (fun zc32 => ?_) (fun zc32 => ?_)
            · skip
              exact absurd zc32 (by decide)
            · skip
              refine xr_al0 dX12_soonest_35 ?_
              refine xr_get W.o fX12_9 rfl dX12_soonest_36 ?_
              refine xr_al0 dX12_soonest_39 ?_
              refine xr_get W.o fX12_42 rfl dX12_soonest_40 ?_
              refine xr_ic0 dX12_soonest_43 ?_
              refine xr_Sv3 (s_mLay (k := 0) W.a1 W.a11 (by omega) (by decide) (by decide)) kX12_210 (by decide) (Nat.le_of_ble_eq_true rfl) (Nat.zero_add _) (Nat.zero_add _) dX12_soonest_44 ?_
              refine xT.nm (fun zh1 zg1 => ?_)
              have W := W.p11 zg1
              refine xr_al0 dX12_soonest_47 ?_
              refine xr_get W.o fX12_42 rfl dX12_soonest_48 ?_
              refine xr_bipush (v := 12) dX12_soonest_51 (by decide) ?_
              refine xr_il2 dX12_soonest_53 ?_
              refine xr_iast W.a11 (xix_lit (j := 12) (by decide)) dX12_soonest_54 ?_
              refine xT.nm (fun zh2 zg2 => ?_)
              have W := W.p11 zg2
              refine xr_ic0 dX12_soonest_55 ?_
              refine xr_is3 dX12_soonest_56 (by decide) rfl ?_
              have okt3 : hOk (upd σ 12 3) := hOk_seats ok (by decide) (by decide)
              refine lp_mSoonI (by exact L) 99 0 (fun {h} {w} q9 => ?_) okt3 (by exact rr_upd (rr_lay R ok _) (i := 12) (by decide) 3) (xMz_of W) rfl
              have e3 : soN φ σ 3 = nI (rtN φ 99 0 (upd σ 12 3)).1 := rfl
              have h3 : (rtN φ 99 0 (upd σ 12 3)).1 ≤ 100 := rtN_le φ 99 0 _
              generalize (rtN φ 99 0 (upd σ 12 3)).1 = a3 at *
              obtain ⟨za, zb, zc, zd, ze, zrd, z8, W⟩ := xMz_out (by decide) q9
              refine xr_al0 dX12_soonest_88 ?_
              refine xr_get W.o fX12_48 rfl dX12_soonest_89 ?_
              refine xr_il2 dX12_soonest_92 ?_
              refine xr_il3 dX12_soonest_93 ?_
              refine xr_bipush (v := 100) dX12_soonest_94 (by decide) ?_
              refine xr_min kmX12_195 ms_min wz_J9 mc_min (by decide) (Nat.le_of_ble_eq_true rfl) dX12_soonest_96 ?_
              refine xr_eqi (y := nI a3) ((iMin_nn (b := 100) (by omega) (by decide)).trans (by rw [Nat.min_eq_left h3])) ?_
              refine xr_iast W.a13 (xix_lit (j := 3) (by decide)) dX12_soonest_99 ?_
              refine xT.nm (fun zh1 zg1 => ?_)
              have W := W.p13 zg1
              refine xr_al0 dX12_soonest_100 ?_
              refine xr_get W.o fX12_48 rfl dX12_soonest_101 ?_
              refine xr_il2 dX12_soonest_104 ?_
              refine xr_iald W.a13 (xix_lit (j := 3) (by decide)) dX12_soonest_105 ?_
              refine xr_eqi (y := nI a3) rfl ?_
              refine xr_al0 dX12_soonest_106 ?_
              refine xr_get W.o fX12_48 rfl dX12_soonest_107 ?_
              refine xr_il1 dX12_soonest_110 ?_
              refine xr_iald W.a13 (xix_lit (j := 1) (by decide)) dX12_soonest_111 ?_
              refine xr_eqi (y := nI a1) rfl ?_
              refine xr_icmpge (tgt := 119) dX12_soonest_112 (by decide) (fun zc112 => ?_) (fun zc112 => ?_)
              · skip
                refine xr_il1 dX12_soonest_119 ?_
                refine xr_is1 dX12_soonest_120 (by decide) rfl ?_
                refine xr_inc2 dX12_soonest_121 (show (3 : Int32) + Int32.ofInt 1 = 4 from rfl) (by decide) rfl ?_
                refine xr_goto (tgt := 30) dX12_soonest_124 (by decide) ?_
                have y3 : a1 ≤ a3 := (nI_leI (a := a1) (b := a3) (by omega) (by omega)).mp zc112
                refine xr_il2 dX12_soonest_30 ?_
                refine xr_ic3 dX12_soonest_31 ?_
                refine xr_icmpgt (tgt := 127) dX12_soonest_32 (by decide) (fun zc32 => ?_) (fun zc32 => ?_)
                · skip
                  refine xr_il1 dX12_soonest_127 ?_
                  refine xr_ifne (tgt := 134) dX12_soonest_128 (by decide) (fun zc128 => ?_) (fun zc128 => ?_)
                  · skip
                    refine xr_al0 dX12_soonest_134 ?_
                    refine xr_ic0 dX12_soonest_135 ?_
                    refine xr_put W.o fX12_86 (Nat.le_of_ble_eq_true rfl) rfl rfl dX12_soonest_136 ?_
                    refine xT.nm (fun zh1 zg1 => ?_)
                    have W := W.f4 zg1
                    refine xr_ic1 dX12_soonest_139 ?_
                    refine xr_is2 dX12_soonest_140 (by decide) rfl ?_
                    refine xr_il2 dX12_soonest_141 ?_
                    refine xr_ic3 dX12_soonest_142 ?_
                    refine xr_icmpgt (tgt := 163) dX12_soonest_143 (by decide) (fun zc143 => ?_) (fun zc143 => ?_)
                    · skip
                      exact absurd zc143 (by decide)
                    · skip
                      refine xr_al0 dX12_soonest_146 ?_
                      refine xr_al0 dX12_soonest_147 ?_
                      refine xr_get W.o fX12_48 rfl dX12_soonest_148 ?_
                      refine xr_il2 dX12_soonest_151 ?_
                      refine xr_iald W.a13 (xix_lit (j := 1) (by decide)) dX12_soonest_152 ?_
                      refine xr_eqi (y := nI a1) rfl ?_
                      refine xr_i2l dX12_soonest_153 ?_
                      refine xr_Vpv1 (s_mTell W (k := 0) rfl (by decide) _) kX12_253 (by decide) (Nat.le_of_ble_eq_true rfl) (Nat.zero_add _) (Nat.zero_add _) dX12_soonest_154 (fun zh1 zq1 => ?_)
                      have W := zq1
                      refine xr_inc2 dX12_soonest_157 (show (1 : Int32) + Int32.ofInt 1 = 2 from rfl) (by decide) rfl ?_
                      refine xr_goto (tgt := 141) dX12_soonest_160 (by decide) ?_
                      refine xr_il2 dX12_soonest_141 ?_
                      refine xr_ic3 dX12_soonest_142 ?_
                      refine xr_icmpgt (tgt := 163) dX12_soonest_143 (by decide) (fun zc143 => ?_) (fun zc143 => ?_)
                      · skip
                        exact absurd zc143 (by decide)
                      · skip
                        refine xr_al0 dX12_soonest_146 ?_
                        refine xr_al0 dX12_soonest_147 ?_
                        refine xr_get W.o fX12_48 rfl dX12_soonest_148 ?_
                        refine xr_il2 dX12_soonest_151 ?_
                        refine xr_iald W.a13 (xix_lit (j := 2) (by decide)) dX12_soonest_152 ?_
                        refine xr_eqi (y := nI a2) rfl ?_
                        refine xr_i2l dX12_soonest_153 ?_
                        refine xr_Vpv1 (s_mTell W (k := 1) rfl (by decide) _) kX12_253 (by decide) (Nat.le_of_ble_eq_true rfl) (Nat.zero_add _) (Nat.zero_add _) dX12_soonest_154 (fun zh1 zq1 => ?_)
                        have W := zq1
                        refine xr_inc2 dX12_soonest_157 (show (2 : Int32) + Int32.ofInt 1 = 3 from rfl) (by decide) rfl ?_
                        refine xr_goto (tgt := 141) dX12_soonest_160 (by decide) ?_
                        refine xr_il2 dX12_soonest_141 ?_
                        refine xr_ic3 dX12_soonest_142 ?_
                        refine xr_icmpgt (tgt := 163) dX12_soonest_143 (by decide) (fun zc143 => ?_) (fun zc143 => ?_)
                        · skip
                          exact absurd zc143 (by decide)
                        · skip
                          refine xr_al0 dX12_soonest_146 ?_
                          refine xr_al0 dX12_soonest_147 ?_
                          refine xr_get W.o fX12_48 rfl dX12_soonest_148 ?_
                          refine xr_il2 dX12_soonest_151 ?_
                          refine xr_iald W.a13 (xix_lit (j := 3) (by decide)) dX12_soonest_152 ?_
                          refine xr_eqi (y := nI a3) rfl ?_
                          refine xr_i2l dX12_soonest_153 ?_
                          refine xr_Vpv1 (s_mTell W (k := 2) rfl (by decide) _) kX12_253 (by decide) (Nat.le_of_ble_eq_true rfl) (Nat.zero_add _) (Nat.zero_add _) dX12_soonest_154 (fun zh1 zq1 => ?_)
                          have W := zq1
                          refine xr_inc2 dX12_soonest_157 (show (3 : Int32) + Int32.ofInt 1 = 4 from rfl) (by decide) rfl ?_
                          refine xr_goto (tgt := 141) dX12_soonest_160 (by decide) ?_
                          refine xr_il2 dX12_soonest_141 ?_
                          refine xr_ic3 dX12_soonest_142 ?_
                          refine xr_icmpgt (tgt := 163) dX12_soonest_143 (by decide) (fun zc143 => ?_) (fun zc143 => ?_)
                          · skip
                            refine xr_il1 dX12_soonest_163 ?_
                            refine xr_iret dX12_soonest_164 rfl ?_
                            have e : soR φ σ rk rv = (1, 3, tl3 rv (nI a1) (nI a2) (nI a3)) := (so_e zc12 (a := a1) (b := a2) (d := a3) e1 e2 e3 (by omega) (by omega) (by omega)).trans ((if_pos (by omega)).trans (by rw [if_pos (by omega)]))
                            rw [e]
                            exact ⟨_, rfl, rfl, ⟨_, _, _, _, W, T, maR3 _ _ _, ⟨R, ok, iv⟩, P, Kp, L, H, Sw, rfl⟩⟩
                          · skip
                            exact absurd (by decide) zc143
                  · skip
                    exact absurd zc128 (by decide)
                · skip
                  exact absurd (by decide) zc32
              · skip
                refine xr_il2 dX12_soonest_115 ?_
                refine xr_goto (tgt := 120) dX12_soonest_116 (by decide) ?_
                refine xr_is1 dX12_soonest_120 (by decide) rfl ?_
                refine xr_inc2 dX12_soonest_121 (show (3 : Int32) + Int32.ofInt 1 = 4 from rfl) (by decide) rfl ?_
                refine xr_goto (tgt := 30) dX12_soonest_124 (by decide) ?_
                have y3 : ¬ a1 ≤ a3 := fun q => zc112 (nI_le (a := a1) (b := a3) q (by omega))
                refine xr_il2 dX12_soonest_30 ?_
                refine xr_ic3 dX12_soonest_31 ?_
                refine xr_icmpgt (tgt := 127) dX12_soonest_32 (by decide) (fun zc32 => ?_) (fun zc32 => ?_)
                · skip
                  refine xr_il1 dX12_soonest_127 ?_
                  refine xr_ifne (tgt := 134) dX12_soonest_128 (by decide) (fun zc128 => ?_) (fun zc128 => ?_)
                  · skip
                    refine xr_al0 dX12_soonest_134 ?_
                    refine xr_ic0 dX12_soonest_135 ?_
                    refine xr_put W.o fX12_86 (Nat.le_of_ble_eq_true rfl) rfl rfl dX12_soonest_136 ?_
                    refine xT.nm (fun zh1 zg1 => ?_)
                    have W := W.f4 zg1
                    refine xr_ic1 dX12_soonest_139 ?_
                    refine xr_is2 dX12_soonest_140 (by decide) rfl ?_
                    refine xr_il2 dX12_soonest_141 ?_
                    refine xr_ic3 dX12_soonest_142 ?_
                    refine xr_icmpgt (tgt := 163) dX12_soonest_143 (by decide) (fun zc143 => ?_) (fun zc143 => ?_)
                    · skip
                      exact absurd zc143 (by decide)
                    · skip
                      refine xr_al0 dX12_soonest_146 ?_
                      refine xr_al0 dX12_soonest_147 ?_
                      refine xr_get W.o fX12_48 rfl dX12_soonest_148 ?_
                      refine xr_il2 dX12_soonest_151 ?_
                      refine xr_iald W.a13 (xix_lit (j := 1) (by decide)) dX12_soonest_152 ?_
                      refine xr_eqi (y := nI a1) rfl ?_
                      refine xr_i2l dX12_soonest_153 ?_
                      refine xr_Vpv1 (s_mTell W (k := 0) rfl (by decide) _) kX12_253 (by decide) (Nat.le_of_ble_eq_true rfl) (Nat.zero_add _) (Nat.zero_add _) dX12_soonest_154 (fun zh1 zq1 => ?_)
                      have W := zq1
                      refine xr_inc2 dX12_soonest_157 (show (1 : Int32) + Int32.ofInt 1 = 2 from rfl) (by decide) rfl ?_
                      refine xr_goto (tgt := 141) dX12_soonest_160 (by decide) ?_
                      refine xr_il2 dX12_soonest_141 ?_
                      refine xr_ic3 dX12_soonest_142 ?_
                      refine xr_icmpgt (tgt := 163) dX12_soonest_143 (by decide) (fun zc143 => ?_) (fun zc143 => ?_)
                      · skip
                        exact absurd zc143 (by decide)
                      · skip
                        refine xr_al0 dX12_soonest_146 ?_
                        refine xr_al0 dX12_soonest_147 ?_
                        refine xr_get W.o fX12_48 rfl dX12_soonest_148 ?_
                        refine xr_il2 dX12_soonest_151 ?_
                        refine xr_iald W.a13 (xix_lit (j := 2) (by decide)) dX12_soonest_152 ?_
                        refine xr_eqi (y := nI a2) rfl ?_
                        refine xr_i2l dX12_soonest_153 ?_
                        refine xr_Vpv1 (s_mTell W (k := 1) rfl (by decide) _) kX12_253 (by decide) (Nat.le_of_ble_eq_true rfl) (Nat.zero_add _) (Nat.zero_add _) dX12_soonest_154 (fun zh1 zq1 => ?_)
                        have W := zq1
                        refine xr_inc2 dX12_soonest_157 (show (2 : Int32) + Int32.ofInt 1 = 3 from rfl) (by decide) rfl ?_
                        refine xr_goto (tgt := 141) dX12_soonest_160 (by decide) ?_
                        refine xr_il2 dX12_soonest_141 ?_
                        refine xr_ic3 dX12_soonest_142 ?_
                        refine xr_icmpgt (tgt := 163) dX12_soonest_143 (by decide) (fun zc143 => ?_) (fun zc143 => ?_)
                        · skip
                          exact absurd zc143 (by decide)
                        · skip
                          refine xr_al0 dX12_soonest_146 ?_
                          refine xr_al0 dX12_soonest_147 ?_
                          refine xr_get W.o fX12_48 rfl dX12_soonest_148 ?_
                          refine xr_il2 dX12_soonest_151 ?_
                          refine xr_iald W.a13 (xix_lit (j := 3) (by decide)) dX12_soonest_152 ?_
                          refine xr_eqi (y := nI a3) rfl ?_
                          refine xr_i2l dX12_soonest_153 ?_
                          refine xr_Vpv1 (s_mTell W (k := 2) rfl (by decide) _) kX12_253 (by decide) (Nat.le_of_ble_eq_true rfl) (Nat.zero_add _) (Nat.zero_add _) dX12_soonest_154 (fun zh1 zq1 => ?_)
                          have W := zq1
                          refine xr_inc2 dX12_soonest_157 (show (3 : Int32) + Int32.ofInt 1 = 4 from rfl) (by decide) rfl ?_
                          refine xr_goto (tgt := 141) dX12_soonest_160 (by decide) ?_
                          refine xr_il2 dX12_soonest_141 ?_
                          refine xr_ic3 dX12_soonest_142 ?_
                          refine xr_icmpgt (tgt := 163) dX12_soonest_143 (by decide) (fun zc143 => ?_) (fun zc143 => ?_)
                          · skip
                            refine xr_il1 dX12_soonest_163 ?_
                            refine xr_iret dX12_soonest_164 rfl ?_
                            have e : soR φ σ rk rv = (3, 3, tl3 rv (nI a1) (nI a2) (nI a3)) := (so_e zc12 (a := a1) (b := a2) (d := a3) e1 e2 e3 (by omega) (by omega) (by omega)).trans ((if_pos (by omega)).trans (by rw [if_neg (by omega), if_neg (by omega)]))
                            rw [e]
                            exact ⟨_, rfl, rfl, ⟨_, _, _, _, W, T, maR3 _ _ _, ⟨R, ok, iv⟩, P, Kp, L, H, Sw, rfl⟩⟩
                          · skip
                            exact absurd (by decide) zc143
                  · skip
                    exact absurd zc128 (by decide)
                · skip
                  exact absurd (by decide) zc32
          · skip
            refine xr_il2 dX12_soonest_115 ?_
            refine xr_goto (tgt := 120) dX12_soonest_116 (by decide) ?_
            refine xr_is1 dX12_soonest_120 (by decide) rfl ?_
            refine xr_inc2 dX12_soonest_121 (show (2 : Int32) + Int32.ofInt 1 = 3 from rfl) (by decide) rfl ?_
            refine xr_goto (tgt := 30) dX12_soonest_124 (by decide) ?_
            have y2 : ¬ a1 ≤ a2 := fun q => zc112 (nI_le (a := a1) (b := a2) q (by omega))
            refine xr_il2 dX12_soonest_30 ?_
            refine xr_ic3 dX12_soonest_31 ?_
            refine xr_icmpgt (tgt := 127) dX12_soonest_32 (by decide) (fun zc32 => ?_) (fun zc32 => ?_)
            · skip
              exact absurd zc32 (by decide)
            · skip
              refine xr_al0 dX12_soonest_35 ?_
              refine xr_get W.o fX12_9 rfl dX12_soonest_36 ?_
              refine xr_al0 dX12_soonest_39 ?_
              refine xr_get W.o fX12_42 rfl dX12_soonest_40 ?_
              refine xr_ic0 dX12_soonest_43 ?_
              refine xr_Sv3 (s_mLay (k := 0) W.a1 W.a11 (by omega) (by decide) (by decide)) kX12_210 (by decide) (Nat.le_of_ble_eq_true rfl) (Nat.zero_add _) (Nat.zero_add _) dX12_soonest_44 ?_
              refine xT.nm (fun zh1 zg1 => ?_)
              have W := W.p11 zg1
              refine xr_al0 dX12_soonest_47 ?_
              refine xr_get W.o fX12_42 rfl dX12_soonest_48 ?_
              refine xr_bipush (v := 12) dX12_soonest_51 (by decide) ?_
              refine xr_il2 dX12_soonest_53 ?_
              refine xr_iast W.a11 (xix_lit (j := 12) (by decide)) dX12_soonest_54 ?_
              refine xT.nm (fun zh2 zg2 => ?_)
              have W := W.p11 zg2
              refine xr_ic0 dX12_soonest_55 ?_
              refine xr_is3 dX12_soonest_56 (by decide) rfl ?_
              have okt3 : hOk (upd σ 12 3) := hOk_seats ok (by decide) (by decide)
              refine lp_mSoonI (by exact L) 99 0 (fun {h} {w} q9 => ?_) okt3 (by exact rr_upd (rr_lay R ok _) (i := 12) (by decide) 3) (xMz_of W) rfl
              have e3 : soN φ σ 3 = nI (rtN φ 99 0 (upd σ 12 3)).1 := rfl
              have h3 : (rtN φ 99 0 (upd σ 12 3)).1 ≤ 100 := rtN_le φ 99 0 _
              generalize (rtN φ 99 0 (upd σ 12 3)).1 = a3 at *
              obtain ⟨za, zb, zc, zd, ze, zrd, z8, W⟩ := xMz_out (by decide) q9
              refine xr_al0 dX12_soonest_88 ?_
              refine xr_get W.o fX12_48 rfl dX12_soonest_89 ?_
              refine xr_il2 dX12_soonest_92 ?_
              refine xr_il3 dX12_soonest_93 ?_
              refine xr_bipush (v := 100) dX12_soonest_94 (by decide) ?_
              refine xr_min kmX12_195 ms_min wz_J9 mc_min (by decide) (Nat.le_of_ble_eq_true rfl) dX12_soonest_96 ?_
              refine xr_eqi (y := nI a3) ((iMin_nn (b := 100) (by omega) (by decide)).trans (by rw [Nat.min_eq_left h3])) ?_
              refine xr_iast W.a13 (xix_lit (j := 3) (by decide)) dX12_soonest_99 ?_
              refine xT.nm (fun zh1 zg1 => ?_)
              have W := W.p13 zg1
              refine xr_al0 dX12_soonest_100 ?_
              refine xr_get W.o fX12_48 rfl dX12_soonest_101 ?_
              refine xr_il2 dX12_soonest_104 ?_
              refine xr_iald W.a13 (xix_lit (j := 3) (by decide)) dX12_soonest_105 ?_
              refine xr_eqi (y := nI a3) rfl ?_
              refine xr_al0 dX12_soonest_106 ?_
              refine xr_get W.o fX12_48 rfl dX12_soonest_107 ?_
              refine xr_il1 dX12_soonest_110 ?_
              refine xr_iald W.a13 (xix_lit (j := 2) (by decide)) dX12_soonest_111 ?_
              refine xr_eqi (y := nI a2) rfl ?_
              refine xr_icmpge (tgt := 119) dX12_soonest_112 (by decide) (fun zc112 => ?_) (fun zc112 => ?_)
              · skip
                refine xr_il1 dX12_soonest_119 ?_
                refine xr_is1 dX12_soonest_120 (by decide) rfl ?_
                refine xr_inc2 dX12_soonest_121 (show (3 : Int32) + Int32.ofInt 1 = 4 from rfl) (by decide) rfl ?_
                refine xr_goto (tgt := 30) dX12_soonest_124 (by decide) ?_
                have y3 : a2 ≤ a3 := (nI_leI (a := a2) (b := a3) (by omega) (by omega)).mp zc112
                refine xr_il2 dX12_soonest_30 ?_
                refine xr_ic3 dX12_soonest_31 ?_
                refine xr_icmpgt (tgt := 127) dX12_soonest_32 (by decide) (fun zc32 => ?_) (fun zc32 => ?_)
                · skip
                  refine xr_il1 dX12_soonest_127 ?_
                  refine xr_ifne (tgt := 134) dX12_soonest_128 (by decide) (fun zc128 => ?_) (fun zc128 => ?_)
                  · skip
                    refine xr_al0 dX12_soonest_134 ?_
                    refine xr_ic0 dX12_soonest_135 ?_
                    refine xr_put W.o fX12_86 (Nat.le_of_ble_eq_true rfl) rfl rfl dX12_soonest_136 ?_
                    refine xT.nm (fun zh1 zg1 => ?_)
                    have W := W.f4 zg1
                    refine xr_ic1 dX12_soonest_139 ?_
                    refine xr_is2 dX12_soonest_140 (by decide) rfl ?_
                    refine xr_il2 dX12_soonest_141 ?_
                    refine xr_ic3 dX12_soonest_142 ?_
                    refine xr_icmpgt (tgt := 163) dX12_soonest_143 (by decide) (fun zc143 => ?_) (fun zc143 => ?_)
                    · skip
                      exact absurd zc143 (by decide)
                    · skip
                      refine xr_al0 dX12_soonest_146 ?_
                      refine xr_al0 dX12_soonest_147 ?_
                      refine xr_get W.o fX12_48 rfl dX12_soonest_148 ?_
                      refine xr_il2 dX12_soonest_151 ?_
                      refine xr_iald W.a13 (xix_lit (j := 1) (by decide)) dX12_soonest_152 ?_
                      refine xr_eqi (y := nI a1) rfl ?_
                      refine xr_i2l dX12_soonest_153 ?_
                      refine xr_Vpv1 (s_mTell W (k := 0) rfl (by decide) _) kX12_253 (by decide) (Nat.le_of_ble_eq_true rfl) (Nat.zero_add _) (Nat.zero_add _) dX12_soonest_154 (fun zh1 zq1 => ?_)
                      have W := zq1
                      refine xr_inc2 dX12_soonest_157 (show (1 : Int32) + Int32.ofInt 1 = 2 from rfl) (by decide) rfl ?_
                      refine xr_goto (tgt := 141) dX12_soonest_160 (by decide) ?_
                      refine xr_il2 dX12_soonest_141 ?_
                      refine xr_ic3 dX12_soonest_142 ?_
                      refine xr_icmpgt (tgt := 163) dX12_soonest_143 (by decide) (fun zc143 => ?_) (fun zc143 => ?_)
                      · skip
                        exact absurd zc143 (by decide)
                      · skip
                        refine xr_al0 dX12_soonest_146 ?_
                        refine xr_al0 dX12_soonest_147 ?_
                        refine xr_get W.o fX12_48 rfl dX12_soonest_148 ?_
                        refine xr_il2 dX12_soonest_151 ?_
                        refine xr_iald W.a13 (xix_lit (j := 2) (by decide)) dX12_soonest_152 ?_
                        refine xr_eqi (y := nI a2) rfl ?_
                        refine xr_i2l dX12_soonest_153 ?_
                        refine xr_Vpv1 (s_mTell W (k := 1) rfl (by decide) _) kX12_253 (by decide) (Nat.le_of_ble_eq_true rfl) (Nat.zero_add _) (Nat.zero_add _) dX12_soonest_154 (fun zh1 zq1 => ?_)
                        have W := zq1
                        refine xr_inc2 dX12_soonest_157 (show (2 : Int32) + Int32.ofInt 1 = 3 from rfl) (by decide) rfl ?_
                        refine xr_goto (tgt := 141) dX12_soonest_160 (by decide) ?_
                        refine xr_il2 dX12_soonest_141 ?_
                        refine xr_ic3 dX12_soonest_142 ?_
                        refine xr_icmpgt (tgt := 163) dX12_soonest_143 (by decide) (fun zc143 => ?_) (fun zc143 => ?_)
                        · skip
                          exact absurd zc143 (by decide)
                        · skip
                          refine xr_al0 dX12_soonest_146 ?_
                          refine xr_al0 dX12_soonest_147 ?_
                          refine xr_get W.o fX12_48 rfl dX12_soonest_148 ?_
                          refine xr_il2 dX12_soonest_151 ?_
                          refine xr_iald W.a13 (xix_lit (j := 3) (by decide)) dX12_soonest_152 ?_
                          refine xr_eqi (y := nI a3) rfl ?_
                          refine xr_i2l dX12_soonest_153 ?_
                          refine xr_Vpv1 (s_mTell W (k := 2) rfl (by decide) _) kX12_253 (by decide) (Nat.le_of_ble_eq_true rfl) (Nat.zero_add _) (Nat.zero_add _) dX12_soonest_154 (fun zh1 zq1 => ?_)
                          have W := zq1
                          refine xr_inc2 dX12_soonest_157 (show (3 : Int32) + Int32.ofInt 1 = 4 from rfl) (by decide) rfl ?_
                          refine xr_goto (tgt := 141) dX12_soonest_160 (by decide) ?_
                          refine xr_il2 dX12_soonest_141 ?_
                          refine xr_ic3 dX12_soonest_142 ?_
                          refine xr_icmpgt (tgt := 163) dX12_soonest_143 (by decide) (fun zc143 => ?_) (fun zc143 => ?_)
                          · skip
                            refine xr_il1 dX12_soonest_163 ?_
                            refine xr_iret dX12_soonest_164 rfl ?_
                            have e : soR φ σ rk rv = (2, 3, tl3 rv (nI a1) (nI a2) (nI a3)) := (so_e zc12 (a := a1) (b := a2) (d := a3) e1 e2 e3 (by omega) (by omega) (by omega)).trans ((if_pos (by omega)).trans (by rw [if_neg (by omega), if_pos (by omega)]))
                            rw [e]
                            exact ⟨_, rfl, rfl, ⟨_, _, _, _, W, T, maR3 _ _ _, ⟨R, ok, iv⟩, P, Kp, L, H, Sw, rfl⟩⟩
                          · skip
                            exact absurd (by decide) zc143
                  · skip
                    exact absurd zc128 (by decide)
                · skip
                  exact absurd (by decide) zc32
              · skip
                refine xr_il2 dX12_soonest_115 ?_
                refine xr_goto (tgt := 120) dX12_soonest_116 (by decide) ?_
                refine xr_is1 dX12_soonest_120 (by decide) rfl ?_
                refine xr_inc2 dX12_soonest_121 (show (3 : Int32) + Int32.ofInt 1 = 4 from rfl) (by decide) rfl ?_
                refine xr_goto (tgt := 30) dX12_soonest_124 (by decide) ?_
                have y3 : ¬ a2 ≤ a3 := fun q => zc112 (nI_le (a := a2) (b := a3) q (by omega))
                refine xr_il2 dX12_soonest_30 ?_
                refine xr_ic3 dX12_soonest_31 ?_
                refine xr_icmpgt (tgt := 127) dX12_soonest_32 (by decide) (fun zc32 => ?_) (fun zc32 => ?_)
                · skip
                  refine xr_il1 dX12_soonest_127 ?_
                  refine xr_ifne (tgt := 134) dX12_soonest_128 (by decide) (fun zc128 => ?_) (fun zc128 => ?_)
                  · skip
                    refine xr_al0 dX12_soonest_134 ?_
                    refine xr_ic0 dX12_soonest_135 ?_
                    refine xr_put W.o fX12_86 (Nat.le_of_ble_eq_true rfl) rfl rfl dX12_soonest_136 ?_
                    refine xT.nm (fun zh1 zg1 => ?_)
                    have W := W.f4 zg1
                    refine xr_ic1 dX12_soonest_139 ?_
                    refine xr_is2 dX12_soonest_140 (by decide) rfl ?_
                    refine xr_il2 dX12_soonest_141 ?_
                    refine xr_ic3 dX12_soonest_142 ?_
                    refine xr_icmpgt (tgt := 163) dX12_soonest_143 (by decide) (fun zc143 => ?_) (fun zc143 => ?_)
                    · skip
                      exact absurd zc143 (by decide)
                    · skip
                      refine xr_al0 dX12_soonest_146 ?_
                      refine xr_al0 dX12_soonest_147 ?_
                      refine xr_get W.o fX12_48 rfl dX12_soonest_148 ?_
                      refine xr_il2 dX12_soonest_151 ?_
                      refine xr_iald W.a13 (xix_lit (j := 1) (by decide)) dX12_soonest_152 ?_
                      refine xr_eqi (y := nI a1) rfl ?_
                      refine xr_i2l dX12_soonest_153 ?_
                      refine xr_Vpv1 (s_mTell W (k := 0) rfl (by decide) _) kX12_253 (by decide) (Nat.le_of_ble_eq_true rfl) (Nat.zero_add _) (Nat.zero_add _) dX12_soonest_154 (fun zh1 zq1 => ?_)
                      have W := zq1
                      refine xr_inc2 dX12_soonest_157 (show (1 : Int32) + Int32.ofInt 1 = 2 from rfl) (by decide) rfl ?_
                      refine xr_goto (tgt := 141) dX12_soonest_160 (by decide) ?_
                      refine xr_il2 dX12_soonest_141 ?_
                      refine xr_ic3 dX12_soonest_142 ?_
                      refine xr_icmpgt (tgt := 163) dX12_soonest_143 (by decide) (fun zc143 => ?_) (fun zc143 => ?_)
                      · skip
                        exact absurd zc143 (by decide)
                      · skip
                        refine xr_al0 dX12_soonest_146 ?_
                        refine xr_al0 dX12_soonest_147 ?_
                        refine xr_get W.o fX12_48 rfl dX12_soonest_148 ?_
                        refine xr_il2 dX12_soonest_151 ?_
                        refine xr_iald W.a13 (xix_lit (j := 2) (by decide)) dX12_soonest_152 ?_
                        refine xr_eqi (y := nI a2) rfl ?_
                        refine xr_i2l dX12_soonest_153 ?_
                        refine xr_Vpv1 (s_mTell W (k := 1) rfl (by decide) _) kX12_253 (by decide) (Nat.le_of_ble_eq_true rfl) (Nat.zero_add _) (Nat.zero_add _) dX12_soonest_154 (fun zh1 zq1 => ?_)
                        have W := zq1
                        refine xr_inc2 dX12_soonest_157 (show (2 : Int32) + Int32.ofInt 1 = 3 from rfl) (by decide) rfl ?_
                        refine xr_goto (tgt := 141) dX12_soonest_160 (by decide) ?_
                        refine xr_il2 dX12_soonest_141 ?_
                        refine xr_ic3 dX12_soonest_142 ?_
                        refine xr_icmpgt (tgt := 163) dX12_soonest_143 (by decide) (fun zc143 => ?_) (fun zc143 => ?_)
                        · skip
                          exact absurd zc143 (by decide)
                        · skip
                          refine xr_al0 dX12_soonest_146 ?_
                          refine xr_al0 dX12_soonest_147 ?_
                          refine xr_get W.o fX12_48 rfl dX12_soonest_148 ?_
                          refine xr_il2 dX12_soonest_151 ?_
                          refine xr_iald W.a13 (xix_lit (j := 3) (by decide)) dX12_soonest_152 ?_
                          refine xr_eqi (y := nI a3) rfl ?_
                          refine xr_i2l dX12_soonest_153 ?_
                          refine xr_Vpv1 (s_mTell W (k := 2) rfl (by decide) _) kX12_253 (by decide) (Nat.le_of_ble_eq_true rfl) (Nat.zero_add _) (Nat.zero_add _) dX12_soonest_154 (fun zh1 zq1 => ?_)
                          have W := zq1
                          refine xr_inc2 dX12_soonest_157 (show (3 : Int32) + Int32.ofInt 1 = 4 from rfl) (by decide) rfl ?_
                          refine xr_goto (tgt := 141) dX12_soonest_160 (by decide) ?_
                          refine xr_il2 dX12_soonest_141 ?_
                          refine xr_ic3 dX12_soonest_142 ?_
                          refine xr_icmpgt (tgt := 163) dX12_soonest_143 (by decide) (fun zc143 => ?_) (fun zc143 => ?_)
                          · skip
                            refine xr_il1 dX12_soonest_163 ?_
                            refine xr_iret dX12_soonest_164 rfl ?_
                            have e : soR φ σ rk rv = (3, 3, tl3 rv (nI a1) (nI a2) (nI a3)) := (so_e zc12 (a := a1) (b := a2) (d := a3) e1 e2 e3 (by omega) (by omega) (by omega)).trans ((if_pos (by omega)).trans (by rw [if_neg (by omega), if_neg (by omega)]))
                            rw [e]
                            exact ⟨_, rfl, rfl, ⟨_, _, _, _, W, T, maR3 _ _ _, ⟨R, ok, iv⟩, P, Kp, L, H, Sw, rfl⟩⟩
                          · skip
                            exact absurd (by decide) zc143
                  · skip
                    exact absurd zc128 (by decide)
                · skip
                  exact absurd (by decide) zc32
  · skip
    refine xr_bipush (v := (-3)) dX12_soonest_15 (by decide) ?_
    refine xr_iret dX12_soonest_17 rfl ?_
    have e : soR φ σ rk rv = _ := if_pos zc12
    rw [e]
    exact ⟨_, rfl, rfl, ⟨_, _, _, _, W, T, Rw, ⟨R, ok, iv⟩, P, Kp, L, H, Sw, rfl⟩⟩
