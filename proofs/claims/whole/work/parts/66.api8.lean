/-! The model in the class's words: years, spare, best (written by wip/whole/mod25.py) -/
theorem ushr_16 (x : Int32) : ∃ q : Nat, q < 65536 ∧ ushr x 16 = nI q := by
  have h : (ushr x 16).toBitVec.toNat = x.toBitVec.toNat / 2 ^ 16 := pk_ushr x 16 16 (by decide)
  have b := x.toBitVec.isLt
  refine ⟨x.toBitVec.toNat / 2 ^ 16, by omega, ?_⟩
  apply Int32.toBitVec_inj.mp
  apply BitVec.eq_of_toNat_eq
  rw [h, pk_tn (by omega)]
theorem drN_lt (x : Int32) {n : Nat} (h0 : 0 < n) (hn : n < 2 ^ 31) : ∃ j : Nat, j < n ∧ drN x (nI n) = nI j := by
  obtain ⟨q, hq, e⟩ := ushr_16 x
  unfold drN
  rw [e, pk_rem (by omega) h0 hn]
  exact ⟨_, Nat.mod_lt _ h0, rfl⟩
theorem rr_come {γ w : xs} (R : rr γ w) (ok : hOk γ) {s : Nat} (hs : s < 2) (h5 : ln γ s < 5) (x : Int32) : rr (hCome γ s x) (upd (upd w (5 * s + ln γ s) x) (10 + s) (nI (ln γ s + 1))) := by
  unfold hCome
  rw [if_pos h5]
  refine ⟨fun i h1 h2 => ?_, fun s' hs' k hk => ?_⟩
  · rw [upd_hi (upd γ (10 + s) (nI (ln γ s + 1))) _ (by omega)]
    by_cases e : i = 10 + s
    · subst e
      rw [pk_us, pk_us]
    · rw [upd_hi _ _ e, upd_hi _ _ e, upd_hi _ _ (by omega)]
      exact R.1 i h1 h2
  · have o5 := (ok.1 s' hs').2
    rw [ln_upd _ (by omega)] at hk
    by_cases es : s' = s
    · subst es
      have hk2 : k < ln γ s' + 1 := by
        have : ln (upd γ (10 + s') (nI (ln γ s' + 1))) s' = ln γ s' + 1 := by
          show (upd γ (10 + s') (nI (ln γ s' + 1)) (10 + s')).toNatClampNeg = _
          rw [pk_us]
          exact nI_clamp (by omega)
        omega
      rw [upd_hi _ _ (show 5 * s' + k ≠ 10 + s' by omega)]
      by_cases ek : k = ln γ s'
      · subst ek
        rw [pk_us, pk_us]
      · rw [upd_hi _ _ (by omega), upd_hi _ _ (by omega), upd_hi _ _ (by omega)]
        exact R.2 s' hs' k (by omega)
    · rw [ln_upd _ (by omega)] at hk
      rw [upd_hi _ _ (show 5 * s' + k ≠ 10 + s by omega), upd_hi _ _ (by omega), upd_hi _ _ (by omega), upd_hi _ _ (by omega)]
      exact R.2 s' hs' k hk
theorem rr_full {γ w : xs} (R : rr γ w) {s : Nat} (h5 : ¬ ln γ s < 5) (x : Int32) : rr (hCome γ s x) w := by
  unfold hCome
  rw [if_neg h5]
  exact R
theorem one_add (x : Int32) : 1 + x = x + 1 := Int32.add_comm 1 x
theorem uu11 {K : xK} {h0 h : xH} {Y : Nat} {m : Nat → Int32} {rd : Value} {ru ot : Nat} {u : Nat → Nat → Int32} {v : Nat → Int64} {a b : xs} (W : xMw K h0 h Y m rd ru ot (uu (uu u 11 a) 11 b) v) : xMw K h0 h Y m rd ru ot (uu u 11 b) v := by
  rw [uu_uu] at W
  exact W
theorem sc37 {K : xK} {h0 h : xH} {Y : Nat} {m : Nat → Int32} {rd : Value} {ru ot : Nat} {u : Nat → Nat → Int32} {v : Nat → Int64} {s t a b c d e : Int32} (W : xMw K h0 h Y (upd (scm (upd m 37 s) a b c d e) 37 t) rd ru ot u v) : xMw K h0 h Y (scm (upd m 37 t) a b c d e) rd ru ot u v := by
  rw [← scm_upd _ _ _ _ _ _ _ (by decide), upd_upd] at W
  exact W
set_option maxRecDepth 20000 in
theorem lp_mYears {K : xK} {B : Nat} {l : Launch} {h0 : xH} {Y : Nat} {m : xs} {u : Nat → Nat → Int32} {v : Nat → Int64} {tn : Nat} {tf : xs} {rk : Int32} {rv : Nat → Int64} {σ : xs} {pn : Nat} {τ : Nat → xs} {ks : Nat → Bool} {κ : Nat → xs} {φ : xs → Int32} {hn : Nat} {hf hg : xs} {wn : Nat} {wf wg : xs} (C : maC K B l Y m u v tn tf rk rv σ pn τ ks κ φ hn hf hg wn wf wg) (h5 : m 5 = 0) {N : Nat} (hN : N ≤ 60) {x1 : Option Value} : ∀ (r k : Nat) {s : Int32} {x4 x5 x6 : Option Value} {h : xH} {w γ : xs} (okt : hOk γ) (Rt : rr γ w) (q9 : xMz K h0 h Y (upd m 37 s) (Y + 6) (Y + 7) (uu u 11 w) v), k + r = N → xT K B l 206 RX12 false cX12_years 7 (some .int) 0 0 0 0 (xPi (fun zr g => zr = (yrE rv (itG (yrF φ) r (s, γ)).2).1 ∧ xMa K B l h0 g Y 0 tn tf ((yrE rv (itG (yrF φ) r (s, γ)).2).2.1) ((yrE rv (itG (yrF φ) r (s, γ)).2).2.2) σ pn τ ks κ φ hn hf hg wn wf wg)) 36 [some (.ref Y), x1, some (.int (nI N)), some (.int (nI k)), x4, x5, x6] [] h := by
  obtain ⟨T, Rw, ⟨R, ok, iv⟩, P, Kp, L, H, Sw⟩ := id C
  intro r
  induction r with
  | zero =>
    intro k s x4 x5 x6 h w γ okt Rt q9 hk
    obtain ⟨za, zb, zc, zd, ze, zrd, z8, W⟩ := xMz_out (by decide) q9
    refine xr_il3 dX12_years_36 ?_
    refine xr_il2 dX12_years_37 ?_
    refine xr_icmpge (tgt := 170) dX12_years_38 (by decide) (fun zc38 => ?_) (fun zc38 => ?_)
    · skip
      refine xr_al0 dX12_years_170 ?_
      refine xr_ic0 dX12_years_171 ?_
      refine xr_put W.o fX12_86 (Nat.le_of_ble_eq_true rfl) rfl rfl dX12_years_172 ?_
      refine xT.nm (fun zh1 zg1 => ?_)
      have W := W.f4 zg1
      refine xr_al0 dX12_years_175 ?_
      refine xr_al0 dX12_years_176 ?_
      refine xr_get W.o fX12_42 rfl dX12_years_177 ?_
      refine xr_bipush (v := 15) dX12_years_180 (by decide) ?_
      refine xr_iald W.a11 (xix_lit (j := 15) (by decide)) dX12_years_182 ?_
      refine xr_eqi (y := γ 15) (Rt.1 15 (by omega) (by omega)) ?_
      refine xr_al0 dX12_years_183 ?_
      refine xr_get W.o fX12_42 rfl dX12_years_184 ?_
      refine xr_bipush (v := 16) dX12_years_187 (by decide) ?_
      refine xr_iald W.a11 (xix_lit (j := 16) (by decide)) dX12_years_189 ?_
      refine xr_eqi (y := γ 16) (Rt.1 16 (by omega) (by omega)) ?_
      refine xr_iadd dX12_years_190 ?_
      refine xr_i2l dX12_years_191 ?_
      refine xr_Vpv1 (s_mTell W (k := 0) rfl (by decide) _) kX12_253 (by decide) (Nat.le_of_ble_eq_true rfl) (Nat.zero_add _) (Nat.zero_add _) dX12_years_192 (fun zh2 zq2 => ?_)
      have W := zq2
      refine xr_al0 dX12_years_195 ?_
      refine xr_al0 dX12_years_196 ?_
      refine xr_get W.o fX12_42 rfl dX12_years_197 ?_
      refine xr_bipush (v := 14) dX12_years_200 (by decide) ?_
      refine xr_iald W.a11 (xix_lit (j := 14) (by decide)) dX12_years_202 ?_
      refine xr_eqi (y := γ 14) (Rt.1 14 (by omega) (by omega)) ?_
      refine xr_i2l dX12_years_203 ?_
      refine xr_Vpv1 (s_mTell W (k := 1) rfl (by decide) _) kX12_253 (by decide) (Nat.le_of_ble_eq_true rfl) (Nat.zero_add _) (Nat.zero_add _) dX12_years_204 (fun zh3 zq3 => ?_)
      have W := zq3
      refine xr_al0 dX12_years_207 ?_
      refine xr_get W.o fX12_42 rfl dX12_years_208 ?_
      refine xr_Si1 (s_mWaits W.a11) kX12_240 (by decide) (Nat.le_of_ble_eq_true rfl) (Nat.zero_add _) (Nat.zero_add _) dX12_years_211 ?_
      refine xr_eqi (y := γ 10 + γ 11) (rr_sum Rt) ?_
      refine xr_iret dX12_years_214 rfl ?_
      exact ⟨_, rfl, rfl, ⟨_, _, _, _, W, T, maR2 _ _, ⟨R, ok, iv⟩, P, Kp, L, H, Sw, h5⟩⟩
    · skip
      exact absurd (nI_le (by omega) (by omega)) zc38
  | succ r ih =>
    intro k s x4 x5 x6 h w γ okt Rt q9 hk
    obtain ⟨za, zb, zc, zd, ze, zrd, z8, W⟩ := xMz_out (by decide) q9
    refine xr_il3 dX12_years_36 ?_
    refine xr_il2 dX12_years_37 ?_
    refine xr_icmpge (tgt := 170) dX12_years_38 (by decide) (fun zc38 => ?_) (fun zc38 => ?_)
    · skip
      exact absurd zc38 (nI_ge (by omega) (by omega))
    · skip
      refine xr_al0 dX12_years_41 ?_
      refine xr_ic4 dX12_years_42 ?_
      refine xr_Vpi1 (s_mDraw W (x := 4) (by decide)) kX12_378 (by decide) (Nat.le_of_ble_eq_true rfl) (Nat.zero_add _) (Nat.zero_add _) dX12_years_43 (fun zv43 zh1 zq1 => ?_)
      obtain ⟨rfl, W⟩ := zq1
      have W := sc37 W
      refine xr_eqi (y := drN (dr s) 4) rfl ?_
      refine xr_is4 dX12_years_46 (by decide) rfl ?_
      refine xr_il4 dX12_years_48 ?_
      refine xr_ifne (tgt := 62) dX12_years_50 (by decide) (fun zc50 => ?_) (fun zc50 => ?_)
      · skip
        refine xr_il4 dX12_years_62 ?_
        refine xr_ic3 dX12_years_64 ?_
        refine xr_icmpne (tgt := 81) dX12_years_65 (by decide) (fun zc65 => ?_) (fun zc65 => ?_)
        · skip
          refine xr_il4 dX12_years_81 ?_
          refine xr_ifeq (tgt := 164) dX12_years_83 (by decide) (fun zc83 => ?_) (fun zc83 => ?_)
          · skip
            exact absurd zc83 zc50
          · skip
            refine xr_il4 dX12_years_86 ?_
            refine xr_ic3 dX12_years_88 ?_
            refine xr_icmpne (tgt := 95) dX12_years_89 (by decide) (fun zc89 => ?_) (fun zc89 => ?_)
            · skip
              obtain ⟨sd, hs, ed, esd⟩ : ∃ sd : Nat, sd < 2 ∧ drN (dr s) 4 = nI (sd + 1) ∧ (if drN (dr s) 4 = 1 then 0 else 1) = sd := by
                obtain ⟨j, hj, ej⟩ := drN_lt (dr s) (n := 4) (by decide) (by decide)
                have ej : drN (dr s) 4 = nI j := ej
                rw [ej] at zc50 zc65 ⊢
                rcases (show j = 0 ∨ j = 1 ∨ j = 2 ∨ j = 3 by omega) with rfl | rfl | rfl | rfl
                · exact absurd rfl zc50
                · exact ⟨0, by decide, rfl, rfl⟩
                · exact ⟨1, by decide, rfl, rfl⟩
                · exact absurd rfl zc65
              have l5 := (okt.1 sd hs).2
              have en := (okt.1 sd hs).1
              refine xr_ic1 dX12_years_95 ?_
              refine xr_al0 dX12_years_96 ?_
              refine xr_bipush (v := 9) dX12_years_97 (by decide) ?_
              refine xr_Vpi1 (s_mDraw W (x := 9) (by decide)) kX12_378 (by decide) (Nat.le_of_ble_eq_true rfl) (Nat.zero_add _) (Nat.zero_add _) dX12_years_99 (fun zv99 zh2 zq2 => ?_)
              obtain ⟨rfl, W⟩ := zq2
              have W := sc37 W
              refine xr_eqi (y := drN (dr (dr s)) 9) rfl ?_
              refine xr_iadd dX12_years_102 ?_
              refine xr_eqi (one_add _) ?_
              refine xr_is5 dX12_years_103 (by decide) rfl ?_
              refine xr_il4 dX12_years_105 ?_
              refine xr_ic1 dX12_years_107 ?_
              refine xr_isub dX12_years_108 ?_
              refine xr_eqi (y := nI sd) (by rw [ed, show nI (sd + 1) - 1 = nI sd from nI_pred sd]) ?_
              refine xr_is6 dX12_years_109 (by decide) rfl ?_
              refine xr_al0 dX12_years_111 ?_
              refine xr_get W.o fX12_42 rfl dX12_years_112 ?_
              refine xr_bipush (v := 10) dX12_years_115 (by decide) ?_
              refine xr_il6 dX12_years_117 ?_
              refine xr_iadd dX12_years_119 ?_
              refine xr_eqi (y := nI (10 + sd)) (nI_add 10 sd) ?_
              refine xr_iald W.a11 (xix_nI (n := 19) (j := 10 + sd) (by omega) (by decide)) dX12_years_120 ?_
              refine xr_eqi (y := nI (ln γ sd)) ((Rt.1 _ (by omega) (by omega)).trans en) ?_
              refine xr_ic5 dX12_years_121 ?_
              refine xr_icmpne (tgt := 128) dX12_years_122 (by decide) (fun zc122 => ?_) (fun zc122 => ?_)
              · skip
                refine xr_al0 dX12_years_128 ?_
                refine xr_get W.o fX12_42 rfl dX12_years_129 ?_
                refine xr_ic5 dX12_years_132 ?_
                refine xr_il6 dX12_years_133 ?_
                refine xr_imul dX12_years_135 ?_
                refine xr_eqi (y := nI (5 * sd)) (pk_mul 5 sd) ?_
                refine xr_al0 dX12_years_136 ?_
                refine xr_get W.o fX12_42 rfl dX12_years_137 ?_
                refine xr_bipush (v := 10) dX12_years_140 (by decide) ?_
                refine xr_il6 dX12_years_142 ?_
                refine xr_iadd dX12_years_144 ?_
                refine xr_eqi (y := nI (10 + sd)) (nI_add 10 sd) ?_
                refine xr_iald W.a11 (xix_nI (n := 19) (j := 10 + sd) (by omega) (by decide)) dX12_years_145 ?_
                refine xr_eqi (y := nI (ln γ sd)) ((Rt.1 _ (by omega) (by omega)).trans en) ?_
                refine xr_iadd dX12_years_146 ?_
                refine xr_eqi (y := nI (5 * sd + ln γ sd)) (nI_add _ _) ?_
                refine xr_il5 dX12_years_147 ?_
                refine xr_iast W.a11 (xix_nI (n := 19) (j := 5 * sd + ln γ sd) (by omega) (by decide)) dX12_years_149 ?_
                refine xT.nm (fun zh3 zg3 => ?_)
                have W := uu11 (W.p11 zg3)
                refine xr_al0 dX12_years_150 ?_
                refine xr_get W.o fX12_42 rfl dX12_years_151 ?_
                refine xr_bipush (v := 10) dX12_years_154 (by decide) ?_
                refine xr_il6 dX12_years_156 ?_
                refine xr_iadd dX12_years_158 ?_
                refine xr_eqi (y := nI (10 + sd)) (nI_add 10 sd) ?_
                refine xr_dup2 dX12_years_159 rfl rfl ?_
                refine xr_iald W.a11 (xix_nI (n := 19) (j := 10 + sd) (by omega) (by decide)) dX12_years_160 ?_
                refine xr_eqi (y := nI (ln γ sd)) ((upd_hi _ _ (by omega)).trans ((Rt.1 _ (by omega) (by omega)).trans en)) ?_
                refine xr_ic1 dX12_years_161 ?_
                refine xr_iadd dX12_years_162 ?_
                refine xr_eqi (y := nI (ln γ sd + 1)) (nI_1 _) ?_
                skip
                refine xr_iast W.a11 (xix_nI (n := 19) (j := 10 + sd) (by omega) (by decide)) dX12_years_163 ?_
                refine xT.nm (fun zh4 zg4 => ?_)
                have W := uu11 (W.p11 zg4)
                refine xr_inc3 dX12_years_164 (nI_inc k) (by decide) rfl ?_
                refine xr_goto (tgt := 36) dX12_years_167 (by decide) ?_
                rw [itG_s, show yrF φ (s, γ) = (dr (dr s), hCome γ sd (drN (dr (dr s)) 9 + 1)) from (if_neg zc50).trans ((if_neg zc65).trans (by rw [esd]))]
                have l5' : ln γ sd < 5 := Nat.lt_of_le_of_ne l5 (fun q => zc122 (by rw [q]; rfl))
                skip
                exact ih (k + 1) (hOk_come okt hs _) (rr_come Rt okt hs l5' _) (xMz_jj (by decide) (xMz_of W)) (by omega)
              · skip
                refine xr_goto (tgt := 164) dX12_years_125 (by decide) ?_
                refine xr_inc3 dX12_years_164 (nI_inc k) (by decide) rfl ?_
                refine xr_goto (tgt := 36) dX12_years_167 (by decide) ?_
                rw [itG_s, show yrF φ (s, γ) = (dr (dr s), hCome γ sd (drN (dr (dr s)) 9 + 1)) from (if_neg zc50).trans ((if_neg zc65).trans (by rw [esd]))]
                exact ih (k + 1) (hOk_come okt hs _) (rr_full Rt (fun q => absurd ((nI_eq (a := ln γ sd) (b := 5) (by omega) (by decide)).mp zc122) (by omega)) _) (xMz_jj (by decide) (xMz_of W)) (by omega)
            · skip
              exact absurd zc89 zc65
        · skip
          refine xr_al0 dX12_years_68 ?_
          refine xr_get W.o fX12_42 rfl dX12_years_69 ?_
          refine xr_bipush (v := 13) dX12_years_72 (by decide) ?_
          refine xr_al0 dX12_years_74 ?_
          refine xr_bipush (v := 10) dX12_years_75 (by decide) ?_
          refine xr_Vpi1 (s_mDraw W (x := 10) (by decide)) kX12_378 (by decide) (Nat.le_of_ble_eq_true rfl) (Nat.zero_add _) (Nat.zero_add _) dX12_years_77 (fun zv77 zh2 zq2 => ?_)
          obtain ⟨rfl, W⟩ := zq2
          have W := sc37 W
          refine xr_eqi (y := drN (dr (dr s)) 10) rfl ?_
          refine xr_iast W.a11 (xix_lit (j := 13) (by decide)) dX12_years_80 ?_
          refine xT.nm (fun zh3 zg3 => ?_)
          have W := uu11 (W.p11 zg3)
          refine xr_il4 dX12_years_81 ?_
          refine xr_ifeq (tgt := 164) dX12_years_83 (by decide) (fun zc83 => ?_) (fun zc83 => ?_)
          · skip
            exact absurd zc83 zc50
          · skip
            refine xr_il4 dX12_years_86 ?_
            refine xr_ic3 dX12_years_88 ?_
            refine xr_icmpne (tgt := 95) dX12_years_89 (by decide) (fun zc89 => ?_) (fun zc89 => ?_)
            · skip
              exact absurd zc65 zc89
            · skip
              refine xr_goto (tgt := 164) dX12_years_92 (by decide) ?_
              refine xr_inc3 dX12_years_164 (nI_inc k) (by decide) rfl ?_
              refine xr_goto (tgt := 36) dX12_years_167 (by decide) ?_
              rw [itG_s, show yrF φ (s, γ) = (dr (dr s), upd γ 13 (drN (dr (dr s)) 10)) from (if_neg zc50).trans (if_pos zc65)]
              exact ih (k + 1) (hOk_upd okt (by decide) _) (rr_upd Rt (by decide) _) (xMz_jj (by decide) (xMz_of W)) (by omega)
      · skip
        refine xr_al0 dX12_years_53 ?_
        refine xr_al0 dX12_years_54 ?_
        refine xr_get W.o fX12_42 rfl dX12_years_55 ?_
        refine xr_Vpi1 (s_mGo (Or.inr rfl) W (L _) okt Rt) kX12_273 (by decide) (Nat.le_of_ble_eq_true rfl) (Nat.zero_add _) (Nat.zero_add _) dX12_years_58 (fun zv58 zh2 zq2 => ?_)
        obtain ⟨rfl, w9, R9, q9⟩ := zq2
        have q9 := xMz_jj (by decide) q9
        have okn := hOk_run okt φ
        obtain ⟨za, zb, zc, zd, ze, zrd, z8, W⟩ := xMz_out (by decide) q9
        refine xr_pop dX12_years_61 rfl ?_
        refine xr_il4 dX12_years_62 ?_
        refine xr_ic3 dX12_years_64 ?_
        refine xr_icmpne (tgt := 81) dX12_years_65 (by decide) (fun zc65 => ?_) (fun zc65 => ?_)
        · skip
          refine xr_il4 dX12_years_81 ?_
          refine xr_ifeq (tgt := 164) dX12_years_83 (by decide) (fun zc83 => ?_) (fun zc83 => ?_)
          · skip
            refine xr_inc3 dX12_years_164 (nI_inc k) (by decide) rfl ?_
            refine xr_goto (tgt := 36) dX12_years_167 (by decide) ?_
            rw [itG_s, show yrF φ (s, γ) = (dr s, hRun φ γ) from if_pos zc50]
            exact ih (k + 1) okn R9 q9 (by omega)
          · skip
            exact absurd zc50 zc83
        · skip
          exact absurd (zc50.symm.trans zc65) (by decide)
theorem in1_at {x : Int32} (h : ¬ mIn x 1 60 = 0) : ∃ j, j ≤ 60 ∧ x = nI j := by
  obtain ⟨a, b⟩ := mIn_y h
  obtain ⟨j, hj, rfl⟩ := nI_of (x := x) (fun z => a (Int32.lt_trans z (by decide)))
  exact ⟨j, Nat.le_of_not_lt (fun z => b (nI_lt (a := 60) z hj)), rfl⟩
set_option maxRecDepth 20000 in
theorem a_years {K : xK} {B : Nat} {l : Launch} {h0 h : xH} {Y : Nat} {th : Int32} {tn : Nat} {tf : xs} {rk : Int32} {rv : Nat → Int64} {σ : xs} {pn : Nat} {τ : Nat → xs} {ks : Nat → Bool} {κ : Nat → xs} {φ : xs → Int32} {hn : Nat} {hf hg : xs} {wn : Nat} {wf wg : xs} (A : xMa K B l h0 h Y th tn tf rk rv σ pn τ ks κ φ hn hf hg wn wf wg) (x y : Int32) : xV K B l 206 mX12_years 0 0 (Y) [.int x, .int y] h (xPi (fun zr g => zr = (yrR φ σ rk rv x y).1 ∧ xMa K B l h0 g Y 0 tn tf ((yrR φ σ rk rv x y).2.1) ((yrR φ σ rk rv x y).2.2) σ pn τ ks κ φ hn hf hg wn wf wg)) := by
  obtain ⟨m, rd, u, v, W, T, Rw, ⟨R, ok, iv⟩, P, Kp, L, H, Sw, hth⟩ := A
  refine ⟨⟨_, _, _, _, W.o, rfl⟩, qX12_years, ?_⟩
  refine xS.intro RX12 false ⟨rfl, rfl, by decide, by decide, Nat.le_of_ble_eq_true rfl⟩ (ls := [some (.ref Y), some (.int x), some (.int y), none, none, none, none]) rfl ?_
  refine xr_al0 dX12_years_0 ?_
  refine xr_ic0 dX12_years_1 ?_
  refine xr_put W.o fX12_82 (Nat.le_of_ble_eq_true rfl) rfl rfl dX12_years_2 ?_
  refine xT.nm (fun zh1 zg1 => ?_)
  have W := W.f5 zg1
  refine xr_il2 dX12_years_5 ?_
  refine xr_ic1 dX12_years_6 ?_
  refine xr_bipush (v := 60) dX12_years_7 (by decide) ?_
  refine xr_Si3 (s_mIn _ _ _) kX12_89 (by decide) (Nat.le_of_ble_eq_true rfl) (Nat.zero_add _) (Nat.zero_add _) dX12_years_9 ?_
  refine xr_ifne (tgt := 17) dX12_years_12 (by decide) (fun zc12 => ?_) (fun zc12 => ?_)
  · skip
    obtain ⟨N, hN, rfl⟩ := in1_at zc12
    refine xr_al0 dX12_years_17 ?_
    refine xr_il1 dX12_years_18 ?_
    refine xr_put W.o fX12_374 (Nat.le_of_ble_eq_true rfl) rfl rfl dX12_years_19 ?_
    refine xT.nm (fun zh2 zg2 => ?_)
    have W := W.f37 zg2
    refine xr_al0 dX12_years_22 ?_
    refine xr_get W.o fX12_9 rfl dX12_years_23 ?_
    refine xr_al0 dX12_years_26 ?_
    refine xr_get W.o fX12_42 rfl dX12_years_27 ?_
    refine xr_ic0 dX12_years_30 ?_
    refine xr_Sv3 (s_mLay (k := 0) W.a1 W.a11 (by omega) (by decide) (by decide)) kX12_210 (by decide) (Nat.le_of_ble_eq_true rfl) (Nat.zero_add _) (Nat.zero_add _) dX12_years_31 ?_
    refine xT.nm (fun zh3 zg3 => ?_)
    have W := W.p11 zg3
    have Rt := rr_lay R ok (u 11)
    have okt := ok
    refine xr_ic0 dX12_years_34 ?_
    refine xr_is3 dX12_years_35 (by decide) rfl ?_
    have e : (yrR φ σ rk rv x (nI N)) = yrE rv (itG (yrF φ) N (x, σ)).2 := by
      unfold yrR
      rw [if_neg (fun q => zc12 (mIn_0.mpr q)), nI_clamp (by omega)]
    rw [e]
    have C : maC K B l Y (upd m 5 0) u v tn tf rk rv σ pn τ ks κ φ hn hf hg wn wf wg := ⟨T, Rw, ⟨R, ok, iv⟩, P, Kp, L, H, Sw⟩
    exact lp_mYears C rfl hN N 0 okt Rt (xMz_of W) (by omega)
  · skip
    refine xr_icm1 dX12_years_15 ?_
    refine xr_iret dX12_years_16 rfl ?_
    have e : (yrR φ σ rk rv x y) = _ := if_pos (mIn_0.mp zc12)
    rw [e]
    exact ⟨_, rfl, rfl, ⟨_, _, _, _, W, T, Rw, ⟨R, ok, iv⟩, P, Kp, L, H, Sw, rfl⟩⟩
theorem next_take {γ : xs} (ok : hOk γ) (g : Int32) : hNext (hTake γ 0 g) 1 = hNext γ 1 := by
  unfold hNext
  have e12 : hTake γ 0 g 12 = γ 12 := take_hi ok (by decide) g (by decide) (by decide)
  have q : hTake γ 0 g 11 = γ 11 := take_hi (s := 0) ok (by decide) g (by decide) (by decide)
  have e11 : hWaits (hTake γ 0 g) 1 = hWaits γ 1 := by
    show hTake γ 0 g 11 = γ 11
    exact q
  rw [e12, e11]
theorem takeNext_e {γ : xs} (ok : hOk γ) : hTakeNext γ = hTake (hTake γ 0 (hNext γ 0)) 1 (hNext γ 1) := by
  unfold hTakeNext
  rw [next_take ok]
theorem rr_takeNext {γ w : xs} (R : rr γ w) (ok : hOk γ) : rr (hTakeNext γ) (mOut (mOut w 0 (hNext γ 0)) 1 (hNext γ 1)) := by
  rw [takeNext_e ok]
  exact rr_take (rr_take R ok (by decide) _) (hOk_take ok (by decide) _) (by decide) _
theorem ln_takeNext {γ : xs} (ok : hOk γ) {s : Nat} (hs : s < 2) : ln (hTakeNext γ) s = ln γ s - min (sn γ) (ln γ s) := by
  have h3 := ok.2.2.2
  have h5 := (ok.1 s hs).2
  have e0 : hNext γ 0 = nI (2 ^ min (sn γ) (ln γ 0) - 1) := hNext_p ok (s := 0) (by decide)
  have e1 : hNext γ 1 = nI (2 ^ min (sn γ) (ln γ 1) - 1) := hNext_p ok (s := 1) (by decide)
  have o4 := hOk_take ok (s := 0) (by decide) (hNext γ 0)
  rw [takeNext_e ok]
  rcases (show s = 0 ∨ s = 1 by omega) with rfl | rfl
  · show (hTake (hTake γ 0 (hNext γ 0)) 1 (hNext γ 1) 10).toNatClampNeg = _
    rw [take_hi o4 (by decide) _ (by decide) (by decide), e0, show hTake γ 0 (nI (2 ^ min (sn γ) (ln γ 0) - 1)) 10 = _ from take_len ok (s := 0) (by decide) (by omega), nI_clamp (by omega)]
    omega
  · show (hTake (hTake γ 0 (hNext γ 0)) 1 (hNext γ 1) 11).toNatClampNeg = _
    have l4 : ln (hTake γ 0 (hNext γ 0)) 1 = ln γ 1 := by
      unfold ln
      rw [take_hi ok (by decide) _ (by decide) (by decide)]
    rw [e1, show hTake (hTake γ 0 (hNext γ 0)) 1 (nI (2 ^ min (sn γ) (ln γ 1) - 1)) 11 = _ from take_len o4 (s := 1) (by decide) (by omega), nI_clamp (by omega), l4]
    omega
theorem hIv_takeNext {γ : xs} (iv : hIv γ) (ok : hOk γ) : hIv (hTakeNext γ) := by
  rw [takeNext_e ok]
  exact hIv_take (hIv_take iv ok (by decide) _) (hOk_take ok (by decide) _) (by decide) _
set_option maxRecDepth 20000 in
theorem lp_mSpare {K : xK} {B : Nat} {l : Launch} {h0 : xH} {Y : Nat} {m : xs} {u : Nat → Nat → Int32} {v : Nat → Int64} {tn : Nat} {tf : xs} {rk : Int32} {rv : Nat → Int64} {σ : xs} {pn : Nat} {τ : Nat → xs} {ks : Nat → Bool} {κ : Nat → xs} {φ : xs → Int32} {hn : Nat} {hf hg : xs} {wn : Nat} {wf wg : xs} (C : maC K B l Y m u v tn tf rk rv σ pn τ ks κ φ hn hf hg wn wf wg) (h5 : m 5 = 0)  : ∀ (r k : Nat) {a b c : Int32} {x4 x5 x6 : Option Value} {h : xH} {w γ : xs} (okt : hOk γ) (Rt : rr γ w) (q9 : xMz K h0 h Y m (Y + 6) (Y + 7) (uu u 11 w) v), ln γ 0 ≤ r ∧ ln γ 1 ≤ r → xT K B l 206 RX12 false cX12_spare 7 (some .int) 0 0 0 0 (xPi (fun zr g => zr = (spE rv (spL r a b c γ)).1 ∧ xMa K B l h0 g Y 0 tn tf ((spE rv (spL r a b c γ)).2.1) ((spE rv (spL r a b c γ)).2.2) σ pn τ ks κ φ hn hf hg wn wf wg)) 23 [some (.ref Y), some (.int a), some (.int b), some (.int c), x4, x5, x6] [] h := by
  obtain ⟨T, Rw, ⟨R, ok, iv⟩, P, Kp, L, H, Sw⟩ := id C
  intro r
  induction r with
  | zero =>
    intro k a b c x4 x5 x6 h w γ okt Rt q9 hk
    obtain ⟨za, zb, zc, zd, ze, zrd, z8, W⟩ := xMz_out (by decide) q9
    refine xr_al0 dX12_spare_23 ?_
    refine xr_get W.o fX12_42 rfl dX12_spare_24 ?_
    refine xr_Si1 (s_mWaits W.a11) kX12_240 (by decide) (Nat.le_of_ble_eq_true rfl) (Nat.zero_add _) (Nat.zero_add _) dX12_spare_27 ?_
    refine xr_eqi (y := γ 10 + γ 11) (rr_sum Rt) ?_
    refine xr_ifle (tgt := 132) dX12_spare_30 (by decide) (fun zc30 => ?_) (fun zc30 => ?_)
    · skip
      refine xr_al0 dX12_spare_132 ?_
      refine xr_ic0 dX12_spare_133 ?_
      refine xr_put W.o fX12_86 (Nat.le_of_ble_eq_true rfl) rfl rfl dX12_spare_134 ?_
      refine xT.nm (fun zh1 zg1 => ?_)
      have W := W.f4 zg1
      refine xr_al0 dX12_spare_137 ?_
      refine xr_il2 dX12_spare_138 ?_
      refine xr_i2l dX12_spare_139 ?_
      refine xr_Vpv1 (s_mTell W (k := 0) rfl (by decide) _) kX12_253 (by decide) (Nat.le_of_ble_eq_true rfl) (Nat.zero_add _) (Nat.zero_add _) dX12_spare_140 (fun zh2 zq2 => ?_)
      have W := zq2
      refine xr_al0 dX12_spare_143 ?_
      refine xr_il3 dX12_spare_144 ?_
      refine xr_i2l dX12_spare_145 ?_
      refine xr_Vpv1 (s_mTell W (k := 1) rfl (by decide) _) kX12_253 (by decide) (Nat.le_of_ble_eq_true rfl) (Nat.zero_add _) (Nat.zero_add _) dX12_spare_146 (fun zh3 zq3 => ?_)
      have W := zq3
      refine xr_il1 dX12_spare_149 ?_
      refine xr_iret dX12_spare_150 rfl ?_
      exact ⟨_, rfl, rfl, ⟨_, _, _, _, W, T, maR2 _ _, ⟨R, ok, iv⟩, P, Kp, L, H, Sw, h5⟩⟩
    · skip
      exact absurd ((sum0 okt).mpr ((sumL0 okt).mpr ⟨by omega, by omega⟩)) zc30
  | succ r ih =>
    intro k a b c x4 x5 x6 h w γ okt Rt q9 hk
    obtain ⟨za, zb, zc, zd, ze, zrd, z8, W⟩ := xMz_out (by decide) q9
    refine xr_al0 dX12_spare_23 ?_
    refine xr_get W.o fX12_42 rfl dX12_spare_24 ?_
    refine xr_Si1 (s_mWaits W.a11) kX12_240 (by decide) (Nat.le_of_ble_eq_true rfl) (Nat.zero_add _) (Nat.zero_add _) dX12_spare_27 ?_
    refine xr_eqi (y := γ 10 + γ 11) (rr_sum Rt) ?_
    refine xr_ifle (tgt := 132) dX12_spare_30 (by decide) (fun zc30 => ?_) (fun zc30 => ?_)
    · skip
      refine xr_al0 dX12_spare_132 ?_
      refine xr_ic0 dX12_spare_133 ?_
      refine xr_put W.o fX12_86 (Nat.le_of_ble_eq_true rfl) rfl rfl dX12_spare_134 ?_
      refine xT.nm (fun zh1 zg1 => ?_)
      have W := W.f4 zg1
      refine xr_al0 dX12_spare_137 ?_
      refine xr_il2 dX12_spare_138 ?_
      refine xr_i2l dX12_spare_139 ?_
      refine xr_Vpv1 (s_mTell W (k := 0) rfl (by decide) _) kX12_253 (by decide) (Nat.le_of_ble_eq_true rfl) (Nat.zero_add _) (Nat.zero_add _) dX12_spare_140 (fun zh2 zq2 => ?_)
      have W := zq2
      refine xr_al0 dX12_spare_143 ?_
      refine xr_il3 dX12_spare_144 ?_
      refine xr_i2l dX12_spare_145 ?_
      refine xr_Vpv1 (s_mTell W (k := 1) rfl (by decide) _) kX12_253 (by decide) (Nat.le_of_ble_eq_true rfl) (Nat.zero_add _) (Nat.zero_add _) dX12_spare_146 (fun zh3 zq3 => ?_)
      have W := zq3
      refine xr_il1 dX12_spare_149 ?_
      refine xr_iret dX12_spare_150 rfl ?_
      have e := (spL_s r a b c γ).trans (if_pos ((sum0 okt).mp zc30))
      rw [e]
      exact ⟨_, rfl, rfl, ⟨_, _, _, _, W, T, maR2 _ _, ⟨R, ok, iv⟩, P, Kp, L, H, Sw, h5⟩⟩
    · skip
      refine xr_al0 dX12_spare_33 ?_
      refine xr_get W.o fX12_42 rfl dX12_spare_34 ?_
      refine xr_ic0 dX12_spare_37 ?_
      refine xr_Si2 (s_mNextOf W.a11 (rr_ok Rt okt) (s := 0) (by decide)) kX12_234 (by decide) (Nat.le_of_ble_eq_true rfl) (Nat.zero_add _) (Nat.zero_add _) dX12_spare_38 ?_
      refine xr_eqi (y := hNext γ 0) (rr_next Rt 0) ?_
      refine xr_is4 dX12_spare_41 (by decide) rfl ?_
      refine xr_al0 dX12_spare_43 ?_
      refine xr_get W.o fX12_42 rfl dX12_spare_44 ?_
      refine xr_ic1 dX12_spare_47 ?_
      refine xr_Si2 (s_mNextOf W.a11 (rr_ok Rt okt) (s := 1) (by decide)) kX12_234 (by decide) (Nat.le_of_ble_eq_true rfl) (Nat.zero_add _) (Nat.zero_add _) dX12_spare_48 ?_
      refine xr_eqi (y := hNext γ 1) (rr_next Rt 1) ?_
      refine xr_is5 dX12_spare_51 (by decide) rfl ?_
      refine xr_al0 dX12_spare_53 ?_
      refine xr_get W.o fX12_42 rfl dX12_spare_54 ?_
      refine xr_ic0 dX12_spare_57 ?_
      refine xr_il4 dX12_spare_58 ?_
      refine xr_Si3 (s_mWeightOf W.a11 (rr_ok Rt okt) (s := 0) (by decide) _) kX12_191 (by decide) (Nat.le_of_ble_eq_true rfl) (Nat.zero_add _) (Nat.zero_add _) dX12_spare_60 ?_
      refine xr_eqi (y := wt γ 0 (hNext γ 0)) (rr_wt Rt (by decide) _) ?_
      refine xr_al0 dX12_spare_63 ?_
      refine xr_get W.o fX12_42 rfl dX12_spare_64 ?_
      refine xr_ic1 dX12_spare_67 ?_
      refine xr_il5 dX12_spare_68 ?_
      refine xr_Si3 (s_mWeightOf W.a11 (rr_ok Rt okt) (s := 1) (by decide) _) kX12_191 (by decide) (Nat.le_of_ble_eq_true rfl) (Nat.zero_add _) (Nat.zero_add _) dX12_spare_70 ?_
      refine xr_eqi (y := wt γ 1 (hNext γ 1)) (rr_wt Rt (by decide) _) ?_
      refine xr_isub dX12_spare_73 ?_
      refine xr_al0 dX12_spare_74 ?_
      refine xr_get W.o fX12_42 rfl dX12_spare_75 ?_
      refine xr_bipush (v := 13) dX12_spare_78 (by decide) ?_
      refine xr_iald W.a11 (xix_lit (j := 13) (by decide)) dX12_spare_80 ?_
      refine xr_eqi (y := γ 13) (Rt.1 13 (by omega) (by omega)) ?_
      refine xr_isub dX12_spare_81 ?_
      refine xr_eqi (y := spM γ) rfl ?_
      refine xr_is6 dX12_spare_82 (by decide) rfl ?_
      refine xr_il1 dX12_spare_84 ?_
      refine xr_ic0 dX12_spare_85 ?_
      refine xr_il6 dX12_spare_86 ?_
      refine xr_max kmX12_201 ms_max wz_J9 mc_max (by decide) (Nat.le_of_ble_eq_true rfl) dX12_spare_88 ?_
      refine xr_iadd dX12_spare_91 ?_
      refine xr_is1 dX12_spare_92 (by decide) rfl ?_
      refine xr_il2 dX12_spare_93 ?_
      refine xr_il6 dX12_spare_94 ?_
      refine xr_ifle (tgt := 103) dX12_spare_96 (by decide) (fun zc96 => ?_) (fun zc96 => ?_)
      · skip
        refine xr_ic0 dX12_spare_103 ?_
        refine xr_iadd dX12_spare_104 ?_
        refine xr_is2 dX12_spare_105 (by decide) rfl ?_
        refine xr_inc3 dX12_spare_106 (show c + Int32.ofInt 1 = c + 1 from rfl) (by decide) rfl ?_
        refine xr_al0 dX12_spare_109 ?_
        refine xr_get W.o fX12_42 rfl dX12_spare_110 ?_
        refine xr_ic0 dX12_spare_113 ?_
        refine xr_il4 dX12_spare_114 ?_
        refine xr_Sv3 (s_mOut W.a11 (rr_ok Rt okt) (s := 0) (by decide) _) kX12_221 (by decide) (Nat.le_of_ble_eq_true rfl) (Nat.zero_add _) (Nat.zero_add _) dX12_spare_116 ?_
        refine xT.nm (fun zh1 zg1 => ?_)
        have W := uu11 (W.p11 zg1)
        refine xr_al0 dX12_spare_119 ?_
        refine xr_get W.o fX12_42 rfl dX12_spare_120 ?_
        refine xr_ic1 dX12_spare_123 ?_
        refine xr_il5 dX12_spare_124 ?_
        refine xr_Sv3 (s_mOut W.a11 (mOut_ok (rr_ok Rt okt) (by decide) _) (s := 1) (by decide) _) kX12_221 (by decide) (Nat.le_of_ble_eq_true rfl) (Nat.zero_add _) (Nat.zero_add _) dX12_spare_126 ?_
        refine xT.nm (fun zh2 zg2 => ?_)
        have W := uu11 (W.p11 zg2)
        refine xr_goto (tgt := 23) dX12_spare_129 (by decide) ?_
        have s1 := okt.2.2.1
        have l0 := ln_takeNext okt (s := 0) (by decide)
        have l1 := ln_takeNext okt (s := 1) (by decide)
        have e1 : a + (if 0 < spM γ then spM γ else 0) = a := by
          rw [if_neg (Int32.not_lt.mpr zc96), Int32.add_zero]
        rw [(spL_s r a b c γ).trans ((if_neg (fun q => zc30 ((sum0 okt).mpr q))).trans (if_pos zc96)), e1, show b + 0 = b from Int32.add_zero b]
        exact ih 0 (hOk_takeNext okt) (rr_takeNext Rt okt) (xMz_jj (by decide) (xMz_of W)) ⟨by omega, by omega⟩
      · skip
        refine xr_ic1 dX12_spare_99 ?_
        refine xr_goto (tgt := 104) dX12_spare_100 (by decide) ?_
        refine xr_iadd dX12_spare_104 ?_
        refine xr_is2 dX12_spare_105 (by decide) rfl ?_
        refine xr_inc3 dX12_spare_106 (show c + Int32.ofInt 1 = c + 1 from rfl) (by decide) rfl ?_
        refine xr_al0 dX12_spare_109 ?_
        refine xr_get W.o fX12_42 rfl dX12_spare_110 ?_
        refine xr_ic0 dX12_spare_113 ?_
        refine xr_il4 dX12_spare_114 ?_
        refine xr_Sv3 (s_mOut W.a11 (rr_ok Rt okt) (s := 0) (by decide) _) kX12_221 (by decide) (Nat.le_of_ble_eq_true rfl) (Nat.zero_add _) (Nat.zero_add _) dX12_spare_116 ?_
        refine xT.nm (fun zh1 zg1 => ?_)
        have W := uu11 (W.p11 zg1)
        refine xr_al0 dX12_spare_119 ?_
        refine xr_get W.o fX12_42 rfl dX12_spare_120 ?_
        refine xr_ic1 dX12_spare_123 ?_
        refine xr_il5 dX12_spare_124 ?_
        refine xr_Sv3 (s_mOut W.a11 (mOut_ok (rr_ok Rt okt) (by decide) _) (s := 1) (by decide) _) kX12_221 (by decide) (Nat.le_of_ble_eq_true rfl) (Nat.zero_add _) (Nat.zero_add _) dX12_spare_126 ?_
        refine xT.nm (fun zh2 zg2 => ?_)
        have W := uu11 (W.p11 zg2)
        refine xr_goto (tgt := 23) dX12_spare_129 (by decide) ?_
        have s1 := okt.2.2.1
        have l0 := ln_takeNext okt (s := 0) (by decide)
        have l1 := ln_takeNext okt (s := 1) (by decide)
        have e1 : a + (if 0 < spM γ then spM γ else 0) = a + spM γ := by
          rw [if_pos (Int32.not_le.mp zc96)]
        rw [(spL_s r a b c γ).trans ((if_neg (fun q => zc30 ((sum0 okt).mpr q))).trans (if_neg zc96)), e1]
        exact ih 0 (hOk_takeNext okt) (rr_takeNext Rt okt) (xMz_jj (by decide) (xMz_of W)) ⟨by omega, by omega⟩
set_option maxRecDepth 20000 in
theorem a_spare {K : xK} {B : Nat} {l : Launch} {h0 h : xH} {Y : Nat} {th : Int32} {tn : Nat} {tf : xs} {rk : Int32} {rv : Nat → Int64} {σ : xs} {pn : Nat} {τ : Nat → xs} {ks : Nat → Bool} {κ : Nat → xs} {φ : xs → Int32} {hn : Nat} {hf hg : xs} {wn : Nat} {wf wg : xs} (A : xMa K B l h0 h Y th tn tf rk rv σ pn τ ks κ φ hn hf hg wn wf wg)  : xV K B l 206 mX12_spare 0 0 (Y) [] h (xPi (fun zr g => zr = (spE rv (spL 5 0 0 0 σ)).1 ∧ xMa K B l h0 g Y 0 tn tf ((spE rv (spL 5 0 0 0 σ)).2.1) ((spE rv (spL 5 0 0 0 σ)).2.2) σ pn τ ks κ φ hn hf hg wn wf wg)) := by
  obtain ⟨m, rd, u, v, W, T, Rw, ⟨R, ok, iv⟩, P, Kp, L, H, Sw, hth⟩ := A
  refine ⟨⟨_, _, _, _, W.o, rfl⟩, qX12_spare, ?_⟩
  refine xS.intro RX12 false ⟨rfl, rfl, by decide, by decide, Nat.le_of_ble_eq_true rfl⟩ (ls := [some (.ref Y), none, none, none, none, none, none]) rfl ?_
  refine xr_al0 dX12_spare_0 ?_
  refine xr_ic0 dX12_spare_1 ?_
  refine xr_put W.o fX12_82 (Nat.le_of_ble_eq_true rfl) rfl rfl dX12_spare_2 ?_
  refine xT.nm (fun zh1 zg1 => ?_)
  have W := W.f5 zg1
  refine xr_ic0 dX12_spare_5 ?_
  refine xr_is1 dX12_spare_6 (by decide) rfl ?_
  refine xr_ic0 dX12_spare_7 ?_
  refine xr_is2 dX12_spare_8 (by decide) rfl ?_
  refine xr_ic0 dX12_spare_9 ?_
  refine xr_is3 dX12_spare_10 (by decide) rfl ?_
  refine xr_al0 dX12_spare_11 ?_
  refine xr_get W.o fX12_9 rfl dX12_spare_12 ?_
  refine xr_al0 dX12_spare_15 ?_
  refine xr_get W.o fX12_42 rfl dX12_spare_16 ?_
  refine xr_ic0 dX12_spare_19 ?_
  refine xr_Sv3 (s_mLay (k := 0) W.a1 W.a11 (by omega) (by decide) (by decide)) kX12_210 (by decide) (Nat.le_of_ble_eq_true rfl) (Nat.zero_add _) (Nat.zero_add _) dX12_spare_20 ?_
  refine xT.nm (fun zh2 zg2 => ?_)
  have W := W.p11 zg2
  have Rt := rr_lay R ok (u 11)
  have okt := ok
  have C : maC K B l Y (upd m 5 0) u v tn tf rk rv σ pn τ ks κ φ hn hf hg wn wf wg := ⟨T, Rw, ⟨R, ok, iv⟩, P, Kp, L, H, Sw⟩
  exact lp_mSpare C rfl 5 0 okt Rt (xMz_of W) ⟨(ok.1 0 (by decide)).2, (ok.1 1 (by decide)).2⟩
