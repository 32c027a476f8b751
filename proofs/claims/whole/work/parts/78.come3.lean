/-! The model in the class's words: parties, the call (written by wip/whole/mod37.py) -/
def pM (m : xs) (tn T : Nat) : xs := upd (upd (upd (upd m 5 0) 7 (nI tn)) 8 (nI T)) 2 0
theorem begin_rdm (m : xs) (a b : Int32) : upd (upd (upd (upd (upd m 7 a) 8 b) 9 0) 10 (-1)) 2 0 = rdm (upd (upd (upd m 7 a) 8 b) 2 0) 0 (-1) := by
  unfold rdm
  rw [upd_cm _ _ _ (show 10 ≠ 2 by decide), upd_cm _ _ _ (show 9 ≠ 2 by decide)]
  rfl
theorem pt_bad {tf : xs} {tn : Nat} {σ : xs} {pn : Nat} {b : Nat} (hb : b ≤ 80) (e : fbN tf tn σ tn 0 0 (5 - hWaits σ 0) = nI b) : (ptR tf tn σ pn) = (-1 - nI b, σ, pn) := by
  unfold ptR
  rw [e, if_neg (nI_m1 (by omega))]
theorem pt_ok {tf : xs} {tn : Nat} {σ : xs} {pn : Nat} {c : Nat} {γ : xs} (c0 : 0 < c) (hc : c ≤ 80) (e : fbN tf tn σ tn 0 0 (5 - hWaits σ 0) = -1) (g : lcN tf tn tn 0 0 0 σ = (nI c, γ)) : (ptR tf tn σ pn) = (nI c, γ, 0) := by
  unfold ptR
  rw [if_pos e, g]
  refine Prod.ext rfl (Prod.ext rfl ?_)
  exact if_neg (nI_nle c0 (by omega))
set_option maxRecDepth 20000 in
theorem lp_ptBad {K : xK} {B : Nat} {l : Launch} {h0 : xH} {Y : Nat} {m : xs} {u : Nat → Nat → Int32} {v : Nat → Int64} {tn : Nat} {tf : xs} {rk : Int32} {rv : Nat → Int64} {σ : xs} {pn : Nat} {τ : Nat → xs} {ks : Nat → Bool} {κ : Nat → xs} {φ : xs → Int32} {hn : Nat} {hf hg : xs} {wn : Nat} {wf wg : xs} (C : maC K B l Y m u v tn tf rk rv σ pn τ ks κ φ hn hf hg wn wf wg) {h : xH} {t tm : xs} {p b : Nat} {w : Int32} (Z : rQ (pM m tn 11) 2 tn 11) (bp : p ≤ 80) (hb : b ≤ 80) (ew : (if p < tn then (if w = -1 then nI p else w) else w) = nI b) (eb : fbN tf tn σ tn 0 0 (5 - hWaits σ 0) = nI b) (W : xMw K h0 h Y (rdm (pM m tn 11) p w) (.ref (Y + 2)) (Y + 6) (Y + 7) (uu (uu u 4 t) 5 tm) v) : xT K B l 206 RX12 false cX12_parties 3 (some .int) 0 0 0 0 (xPi (fun zr g => zr = (ptR tf tn σ pn).1 ∧ xMa K B l h0 g Y 0 0 tf rk rv ((ptR tf tn σ pn).2.1) ((ptR tf tn σ pn).2.2) τ ks κ φ hn hf hg wn wf wg)) 86 [some (.ref Y), none, none] [] h := by
  obtain ⟨T, Rw, ⟨R, ok, iv⟩, P, Kp, L, H, Sw⟩ := id C
  refine xr_al0 dX12_parties_86 ?_
  refine xr_Vpi0 (r_right Z bp W) kX12_144 (by decide) (Nat.le_of_ble_eq_true rfl) (Nat.zero_add _) (Nat.zero_add _) dX12_parties_87 (fun zv87 zh1 zq1 => ?_)
  obtain ⟨rfl, W⟩ := zq1
  rw [ew] at W
  refine xr_eqi (y := 0) (by rw [ew]; exact bI_f (nI_m1 (by omega))) ?_
  refine xr_ifne (tgt := 100) dX12_parties_90 (by decide) (fun zc90 => ?_) (fun zc90 => ?_)
  · skip
    exact absurd rfl zc90
  · skip
    refine xr_icm1 dX12_parties_93 ?_
    refine xr_al0 dX12_parties_94 ?_
    refine xr_get W.o fX12_108 rfl dX12_parties_95 ?_
    refine xr_eqi (y := nI b) rfl ?_
    refine xr_isub dX12_parties_98 ?_
    refine xr_iret dX12_parties_99 rfl ?_
    rw [pt_bad hb eb]
    exact ⟨_, rfl, rfl, ⟨_, _, _, _, W, ⟨rfl, by omega, fun j hj => absurd hj (by omega)⟩, Rw, ⟨R, ok, iv⟩, P, Kp, L, H, Sw, rfl⟩⟩
theorem ln_cm (t : xs) {s : Nat} (hs : s < 2) {s' : Nat} (hs' : s' < 2) (ne : s' ≠ s) : ∀ (r k : Nat) {γ : xs}, hOk γ → ln γ s + r ≤ 5 → ln (cmN t s r k γ) s' = ln γ s' := by
  intro r
  induction r with
  | zero => intro k γ _ _; rfl
  | succ r ih =>
    intro k γ ok h
    have a := ln_come ok hs (by omega) (t (5 * s + k)) s hs
    have b := ln_come ok hs (by omega) (t (5 * s + k)) s' hs'
    rw [if_pos rfl] at a
    rw [if_neg ne] at b
    rw [cmN_s, ih (k + 1) (hOk_come ok hs _) (by omega), b]
set_option maxRecDepth 20000 in
theorem lp_ptOk {K : xK} {B : Nat} {l : Launch} {h0 : xH} {Y : Nat} {m : xs} {u : Nat → Nat → Int32} {v : Nat → Int64} {tn : Nat} {tf : xs} {rk : Int32} {rv : Nat → Int64} {σ : xs} {pn : Nat} {τ : Nat → xs} {ks : Nat → Bool} {κ : Nat → xs} {φ : xs → Int32} {hn : Nat} {hf hg : xs} {wn : Nat} {wf wg : xs} (C : maC K B l Y m u v tn tf rk rv σ pn τ ks κ φ hn hf hg wn wf wg) {h : xH} {t tm : xs} {p c0 c1 : Nat} (hm0 : tm 0 = nI c0) (hm1 : tm 1 = nI c1) (hd0 : ∀ k, k < c0 → w19 (t (5 * 0 + k))) (hd1 : ∀ k, k < c1 → w19 (t (5 * 1 + k))) (cp : 0 < c0 + c1) (l50 : ln σ 0 + c0 ≤ 5) (l51' : ln σ 1 + c1 ≤ 5) (ef : fbN tf tn σ tn 0 0 (5 - hWaits σ 0) = -1) (eg : lcN tf tn tn 0 0 0 σ = (nI (c0 + c1), cmN t 1 c1 0 (cmN t 0 c0 0 σ))) (W : xMw K h0 h Y (rdm (pM m tn 11) p (-1)) (.ref (Y + 2)) (Y + 6) (Y + 7) (uu (uu u 4 t) 5 tm) v) : xT K B l 206 RX12 false cX12_parties 3 (some .int) 0 0 0 0 (xPi (fun zr g => zr = (ptR tf tn σ pn).1 ∧ xMa K B l h0 g Y 0 0 tf rk rv ((ptR tf tn σ pn).2.1) ((ptR tf tn σ pn).2.2) τ ks κ φ hn hf hg wn wf wg)) 100 [some (.ref Y), none, none] [] h := by
  obtain ⟨T, Rw, ⟨R, ok, iv⟩, P, Kp, L, H, Sw⟩ := id C
  refine xr_ic0 dX12_parties_100 ?_
  refine xr_is1 dX12_parties_101 (by decide) rfl ?_
  have l51 : ln (cmN t 0 c0 0 σ) 1 + c1 ≤ 5 := by
    rw [ln_cm t (s := 0) (by decide) (s' := 1) (by decide) (by decide) c0 0 ok (by omega)]
    exact l51'
  refine xr_il1 dX12_parties_102 ?_
  refine xr_ic2 dX12_parties_103 ?_
  refine xr_icmpge (tgt := 172) dX12_parties_104 (by decide) (fun zc104 => ?_) (fun zc104 => ?_)
  · skip
    exact absurd zc104 (by decide)
  · skip
    refine xr_ic0 dX12_parties_107 ?_
    refine xr_is2 dX12_parties_108 (by decide) rfl ?_
    refine lp_mComeI (u := uu (uu u 4 t) 5 tm) (s := 0) (cs := c0) (by decide) (by omega) hm0 hd0 c0 0 ok iv R (fun {h} {w} {x2} okt ivt Rt W => ?_) (xMw_id1 W) (by omega) l50
    refine xr_inc1 dX12_parties_166 (show (nI 0 : Int32) + Int32.ofInt 1 = nI 1 from rfl) (by decide) rfl ?_
    refine xr_goto (tgt := 102) dX12_parties_169 (by decide) ?_
    refine xr_il1 dX12_parties_102 ?_
    refine xr_ic2 dX12_parties_103 ?_
    refine xr_icmpge (tgt := 172) dX12_parties_104 (by decide) (fun zc104 => ?_) (fun zc104 => ?_)
    · skip
      exact absurd zc104 (by decide)
    · skip
      refine xr_ic0 dX12_parties_107 ?_
      refine xr_is2 dX12_parties_108 (by decide) rfl ?_
      refine lp_mComeI (u := uu (uu u 4 t) 5 tm) (s := 1) (cs := c1) (by decide) (by omega) hm1 hd1 c1 0 okt ivt Rt (fun {h} {w} {x2} okt ivt Rt W => ?_) W (by omega) l51
      refine xr_inc1 dX12_parties_166 (show (nI 1 : Int32) + Int32.ofInt 1 = nI 2 from rfl) (by decide) rfl ?_
      refine xr_goto (tgt := 102) dX12_parties_169 (by decide) ?_
      refine xr_il1 dX12_parties_102 ?_
      refine xr_ic2 dX12_parties_103 ?_
      refine xr_icmpge (tgt := 172) dX12_parties_104 (by decide) (fun zc104 => ?_) (fun zc104 => ?_)
      · skip
        refine xr_al0 dX12_parties_172 ?_
        refine xr_ic0 dX12_parties_173 ?_
        refine xr_put W.o fX12_147 (Nat.le_of_ble_eq_true rfl) rfl rfl dX12_parties_174 ?_
        refine xT.nm (fun zh1 zg1 => ?_)
        have W := W.f19 zg1
        refine xr_al0 dX12_parties_177 ?_
        refine xr_get W.o fX12_24 rfl dX12_parties_178 ?_
        refine xr_ic0 dX12_parties_181 ?_
        refine xr_iald W.a5 (xix_lit (j := 0) (by decide)) dX12_parties_182 ?_
        refine xr_eqi (y := nI c0) hm0 ?_
        refine xr_al0 dX12_parties_183 ?_
        refine xr_get W.o fX12_24 rfl dX12_parties_184 ?_
        refine xr_ic1 dX12_parties_187 ?_
        refine xr_iald W.a5 (xix_lit (j := 1) (by decide)) dX12_parties_188 ?_
        refine xr_eqi (y := nI c1) hm1 ?_
        refine xr_iadd dX12_parties_189 ?_
        refine xr_eqi (y := nI (c0 + c1)) (nI_add _ _) ?_
        refine xr_iret dX12_parties_190 rfl ?_
        rw [pt_ok (by omega) (by omega) ef eg]
        dsimp only
        exact ⟨_, rfl, rfl, ⟨_, _, _, _, W, ⟨rfl, by omega, fun j hj => absurd hj (by omega)⟩, Rw, ⟨Rt, okt, ivt⟩, ⟨rfl, by omega, fun i hi => absurd hi (by omega)⟩, Kp, L, H, Sw, rfl⟩⟩
      · skip
        exact absurd (by decide) zc104
theorem ok_cm (t : xs) {s : Nat} (hs : s < 2) : ∀ (r k : Nat) {γ : xs}, hOk γ → hOk (cmN t s r k γ) := by
  intro r
  induction r with
  | zero => intro k γ ok; exact ok
  | succ r ih => intro k γ ok; exact ih (k + 1) (hOk_come ok hs _)
set_option maxRecDepth 20000 in
theorem lp_ptA {K : xK} {B : Nat} {l : Launch} {h0 : xH} {Y : Nat} {m : xs} {u : Nat → Nat → Int32} {v : Nat → Int64} {tn : Nat} {tf : xs} {rk : Int32} {rv : Nat → Int64} {σ : xs} {pn : Nat} {τ : Nat → xs} {ks : Nat → Bool} {κ : Nat → xs} {φ : xs → Int32} {hn : Nat} {hf hg : xs} {wn : Nat} {wf wg : xs} (C : maC K B l Y m u v tn tf rk rv σ pn τ ks κ φ hn hf hg wn wf wg) (Z : rQ (pM m tn 11) 2 tn 11) (T0 : ∀ j, j < tn → u 2 j &&& 255 = tf j ∧ byt (u 2 j)) (tp : 0 < tn) : ∀ (r c : Nat) {h : xH} {t tm : xs} (h0m : tm 0 = nI c) (h1m : tm 1 = nI 0) (ht : ∀ k, k < c → t k = tf k - 49 + 1 ∧ dgt (tf k)) (hF : fbN tf tn σ (tn - c) c 0 (nI (5 - (ln σ 0 + c))) = fbN tf tn σ tn 0 0 (5 - hWaits σ 0)) (W : xMw K h0 h Y (rdm (pM m tn 11) c (-1)) (.ref (Y + 2)) (Y + 6) (Y + 7) (uu (uu u 4 t) 5 tm) v), ln σ 0 + c + r = 5 → c ≤ tn → xT K B l 206 RX12 false cX12_parties 3 (some .int) 0 0 0 0 (xPi (fun zr g => zr = (ptR tf tn σ pn).1 ∧ xMa K B l h0 g Y 0 0 tf rk rv ((ptR tf tn σ pn).2.1) ((ptR tf tn σ pn).2.2) τ ks κ φ hn hf hg wn wf wg)) 34 [some (.ref Y), none, none] [] h := by
  obtain ⟨T, Rw, ⟨R, ok, iv⟩, P, Kp, L, H, Sw⟩ := id C
  have h80 : tn ≤ 80 := Z.2.2.1
  intro r
  induction r with
  | zero =>
    intro c h t tm h0m h1m ht hF W hk hct
    have hc5 : ln σ 0 + c ≤ 5 := by omega
    refine xr_al0 dX12_parties_34 ?_
    refine xr_Vpi0 (r_fine W) kX12_115 (by decide) (Nat.le_of_ble_eq_true rfl) (Nat.zero_add _) (Nat.zero_add _) dX12_parties_35 (fun zv35 zh1 zq1 => ?_)
    obtain ⟨rfl, W⟩ := zq1
    refine xr_ifeq (tgt := 66) dX12_parties_38 (by decide) (fun zc38 => ?_) (fun zc38 => ?_)
    · skip
      exact absurd (bI_t rfl) (fun q => absurd (q.symm.trans zc38) (by decide))
    · skip
      refine xr_al0 dX12_parties_41 ?_
      refine xr_Vpi0 (r_here Z (by omega) W) kX12_119 (by decide) (Nat.le_of_ble_eq_true rfl) (Nat.zero_add _) (Nat.zero_add _) dX12_parties_42 (fun zv42 zh2 zq2 => ?_)
      obtain ⟨rfl, W⟩ := zq2
      refine xr_icm1 dX12_parties_45 ?_
      refine xr_icmpeq (tgt := 66) dX12_parties_46 (by decide) (fun zc46 => ?_) (fun zc46 => ?_)
      · skip
        have cn : c = tn := by
          refine Nat.le_antisymm hct (Nat.le_of_not_lt (fun q => ?_))
          have e := hr_in T0 q (show c < 11 by omega)
          have z : hrV (u 2) c tn 11 = -1 := zc46
          rw [z] at e
          have := (T0 c q).1
          rw [← e] at this
          exact and_m1 this
        refine xr_al0 dX12_parties_66 ?_
        refine xr_Vpi0 (r_fine W) kX12_115 (by decide) (Nat.le_of_ble_eq_true rfl) (Nat.zero_add _) (Nat.zero_add _) dX12_parties_67 (fun zv67 zh1 zq1 => ?_)
        obtain ⟨rfl, W⟩ := zq1
        refine xr_ifeq (tgt := 86) dX12_parties_70 (by decide) (fun zc70 => ?_) (fun zc70 => ?_)
        · skip
          exact absurd (bI_t rfl) (fun q => absurd (q.symm.trans zc70) (by decide))
        · skip
          refine xr_al0 dX12_parties_73 ?_
          refine xr_bipush (v := 47) dX12_parties_74 (by decide) ?_
          refine xr_Vpi1 (r_passes Z (by omega) W _) kX12_123 (by decide) (Nat.le_of_ble_eq_true rfl) (Nat.zero_add _) (Nat.zero_add _) dX12_parties_76 (fun zv76 zh2 zq2 => ?_)
          rcases zq2 with ⟨y, -, -⟩ | ⟨y, rfl, W⟩
          · exact absurd (y.2.symm.trans (show hrV (u 2) c tn 11 = -1 from zc46)) (by decide)
          refine xr_ifeq (tgt := 86) dX12_parties_79 (by decide) (fun zc79 => ?_) (fun zc79 => ?_)
          · skip
            refine xr_al0 dX12_parties_86 ?_
            refine xr_Vpi0 (r_right Z (by omega) W) kX12_144 (by decide) (Nat.le_of_ble_eq_true rfl) (Nat.zero_add _) (Nat.zero_add _) dX12_parties_87 (fun zv87 zh3 zq3 => ?_)
            obtain ⟨rfl, W⟩ := zq3
            rw [if_neg (show ¬ c < tn by omega)] at W
            refine xr_eqi (y := 1) (by rw [if_neg (show ¬ c < tn by omega)]; rfl) ?_
            refine xr_ifne (tgt := 100) dX12_parties_90 (by decide) (fun zc90 => ?_) (fun zc90 => ?_)
            · skip
              obtain ⟨j, hj⟩ : ∃ j, c = j + 1 := ⟨c - 1, by omega⟩
              have ef : fbN tf tn σ tn 0 0 (5 - hWaits σ 0) = -1 := by
                rw [← hF, show tn - c = 0 by omega, fb_end h80 σ _ _ _ (j := j) (by omega), if_neg (dgt_47 (ht j (by omega)).2)]
              have eg : lcN tf tn tn 0 0 0 σ = (nI (c + 0), cmN t 1 0 0 (cmN t 0 c 0 σ)) := by
                have z := lc_run (t := t) h80 (s := 0) (by decide) 0 c 0 0 (c := 0) ok (by omega) (by omega) (fun k hk => by
                  rw [Nat.zero_add]
                  refine ⟨dgt_47 (ht k hk).2, ?_⟩
                  rw [show 5 * 0 + k = k by omega, (ht k hk).1, m49])
                rw [show c + 0 = tn by omega, Nat.zero_add] at z
                rw [Nat.add_zero]
                exact z
              refine lp_ptOk C h0m h1m (fun k hk => ?_) (fun k hk => absurd hk (by omega)) (by omega) hc5 (ok.1 1 (by decide)).2 ef eg W
              rw [show 5 * 0 + k = k by omega, (ht k hk).1, m49]
              exact dgt_19 (ht k hk).2
            · skip
              exact absurd zc90 (by decide)
          · skip
            exact absurd rfl zc79
      · skip
        refine xr_al0 dX12_parties_49 ?_
        refine xr_Vpi0 (r_here Z (by omega) W) kX12_119 (by decide) (Nat.le_of_ble_eq_true rfl) (Nat.zero_add _) (Nat.zero_add _) dX12_parties_50 (fun zv50 zh3 zq3 => ?_)
        obtain ⟨rfl, W⟩ := zq3
        refine xr_bipush (v := 47) dX12_parties_53 (by decide) ?_
        refine xr_icmpeq (tgt := 66) dX12_parties_55 (by decide) (fun zc55 => ?_) (fun zc55 => ?_)
        · skip
          have z55 : hrV (u 2) c tn 11 = 47 := zc55
          have cl : c < tn := Decidable.not_not.mp (fun q => by
            rw [hr_out (fun y => q y.1)] at z55
            exact absurd z55 (by decide))
          have esl : tf c = 47 := (hr_in T0 cl (by omega)).symm.trans z55
          refine xr_al0 dX12_parties_66 ?_
          refine xr_Vpi0 (r_fine W) kX12_115 (by decide) (Nat.le_of_ble_eq_true rfl) (Nat.zero_add _) (Nat.zero_add _) dX12_parties_67 (fun zv67 zh1 zq1 => ?_)
          obtain ⟨rfl, W⟩ := zq1
          refine xr_ifeq (tgt := 86) dX12_parties_70 (by decide) (fun zc70 => ?_) (fun zc70 => ?_)
          · skip
            exact absurd (bI_t rfl) (fun q => absurd (q.symm.trans zc70) (by decide))
          · skip
            refine xr_al0 dX12_parties_73 ?_
            refine xr_bipush (v := 47) dX12_parties_74 (by decide) ?_
            refine xr_Vpi1 (r_passes Z (by omega) W _) kX12_123 (by decide) (Nat.le_of_ble_eq_true rfl) (Nat.zero_add _) (Nat.zero_add _) dX12_parties_76 (fun zv76 zh2 zq2 => ?_)
            rcases zq2 with ⟨-, rfl, W⟩ | ⟨y, -, -⟩
            rotate_left
            · exact absurd ⟨rfl, z55⟩ y
            refine xr_ifeq (tgt := 86) dX12_parties_79 (by decide) (fun zc79 => ?_) (fun zc79 => ?_)
            · skip
              exact absurd zc79 (by decide)
            · skip
              refine xr_al0 dX12_parties_82 ?_
              refine xr_Vpv0 (r_below Z T0 R ok (by omega) cl esl h0m h1m W) kX12_141 (by decide) (Nat.le_of_ble_eq_true rfl) (Nat.zero_add _) (Nat.zero_add _) dX12_parties_83 (fun zh3 zq3 => ?_)
              rcases zq3 with ⟨b, p', t', tm', hb, eb, bp', W⟩ | ⟨c1, t', tm', k1, l51, pe, h0m', h1m', ht0', ht1', (⟨ep, e1⟩ | ⟨ep, e1⟩), W⟩
              · refine lp_ptBad C Z bp' hb ?_ ?_ W
                · by_cases q : p' < tn
                  · rw [if_pos q, if_neg (nI_m1 (by omega))]
                  · rw [if_neg q]
                · rw [← hF, show tn - c = (tn - (c + 1)) + 1 by omega, fb_slash h80 σ _ cl _ esl]
                  exact eb
              · skip
                refine xr_al0 dX12_parties_86 ?_
                refine xr_Vpi0 (r_right Z (by omega) W) kX12_144 (by decide) (Nat.le_of_ble_eq_true rfl) (Nat.zero_add _) (Nat.zero_add _) dX12_parties_87 (fun zv87 zh1 zq1 => ?_)
                obtain ⟨rfl, W⟩ := zq1
                rw [if_neg (show ¬ c + 1 + c1 < tn by omega)] at W
                refine xr_eqi (y := 1) (by rw [if_neg (show ¬ c + 1 + c1 < tn by omega)]; rfl) ?_
                refine xr_ifne (tgt := 100) dX12_parties_90 (by decide) (fun zc90 => ?_) (fun zc90 => ?_)
                · skip
                  have ef : fbN tf tn σ tn 0 0 (5 - hWaits σ 0) = -1 := by
                    rw [← hF, show tn - c = (tn - (c + 1)) + 1 by omega, fb_slash h80 σ _ cl _ esl]
                    exact e1
                  have eg : lcN tf tn tn 0 0 0 σ = (nI (c + c1), cmN t' 1 c1 0 (cmN t' 0 c 0 σ)) := by
                    have z := lc_run (t := t') h80 (s := 0) (by decide) (c1 + 1) c 0 0 (c := 0) ok (by omega) (by omega) (fun k hk => by
                      rw [Nat.zero_add]
                      refine ⟨dgt_47 (ht k hk).2, ?_⟩
                      rw [show 5 * 0 + k = k by omega, ht0' k (by omega), (ht k hk).1, m49])
                    rw [show c + (c1 + 1) = tn by omega, Nat.zero_add] at z
                    rw [show (0 : Int32) = nI 0 from rfl, z, lcN_s, sg_n h80 cl, if_pos esl]
                    have ok0 : hOk (cmN t' 0 c 0 σ) := ok_cm t' (by decide) c 0 ok
                    have l1 := ln_cm t' (s := 0) (by decide) (s' := 1) (by decide) (by decide) c 0 ok (by omega)
                    have z2 := lc_run (t := t') h80 (s := 1) (by decide) 0 c1 (c + 1) 0 (c := c) ok0 (by omega) (by omega) (fun k hk => by
                      rw [Nat.zero_add]
                      refine ⟨dgt_47 (ht1' k hk).2, ?_⟩
                      rw [show 5 * 1 + k = 5 + k by omega, (ht1' k hk).1, m49])
                    rw [Nat.add_zero] at z2
                    exact z2
                  refine lp_ptOk C h0m' h1m' (fun k hk => ?_) (fun k hk => ?_) (by omega) hc5 l51 ef eg W
                  · rw [show 5 * 0 + k = k by omega, ht0' k (by omega), (ht k hk).1, m49]
                    exact dgt_19 (ht k hk).2
                  · rw [show 5 * 1 + k = 5 + k by omega, (ht1' k hk).1, m49]
                    exact dgt_19 (ht1' k hk).2
                · skip
                  exact absurd zc90 (by decide)
              · refine lp_ptBad C Z (p := c + 1 + c1) (b := c + 1 + c1) (by omega) (by omega) ?_ ?_ W
                · rw [if_pos ep, if_pos rfl]
                · rw [← hF, show tn - c = (tn - (c + 1)) + 1 by omega, fb_slash h80 σ _ cl _ esl]
                  exact e1
        · skip
          refine xr_al0 dX12_parties_58 ?_
          refine xr_ic0 dX12_parties_59 ?_
          refine xr_Vpv1 (r_side Z (by omega) W (fun j hj => (T0 j hj).2) R ok (s := 0) (c := c) (by decide) h0m (by omega)) kX12_138 (by decide) (Nat.le_of_ble_eq_true rfl) (Nat.zero_add _) (Nat.zero_add _) dX12_parties_60 (fun zh4 zq4 => ?_)
          rcases zq4 with ⟨y, W⟩ | ⟨y, y2, W⟩
          · skip
            have dl : c < tn := Decidable.not_not.mp (fun q => zc46 (hr_out (fun y => q y.1)))
            have z11 := hr_in T0 dl (show c < 11 by omega)
            have eb : fbN tf tn σ tn 0 0 (5 - hWaits σ 0) = nI c := by
              rw [← hF, show tn - c = (tn - (c + 1)) + 1 by omega]
              refine fb_bad h80 σ _ dl _ _ (Or.inr (fun q => zc55 (z11.trans q))) ?_
              rcases y with y | y
              · exact Or.inl (by rw [show 5 - (ln σ 0 + c) = 0 by omega]; rfl)
              · rw [z11] at y
                exact Or.inr y
            refine xr_goto (tgt := 34) dX12_parties_63 (by decide) ?_
            refine xr_al0 dX12_parties_34 ?_
            refine xr_Vpi0 (r_fine W) kX12_115 (by decide) (Nat.le_of_ble_eq_true rfl) (Nat.zero_add _) (Nat.zero_add _) dX12_parties_35 (fun zv35 zh1 zq1 => ?_)
            obtain ⟨rfl, W⟩ := zq1
            refine xr_ifeq (tgt := 66) dX12_parties_38 (by decide) (fun zc38 => ?_) (fun zc38 => ?_)
            · skip
              refine xr_al0 dX12_parties_66 ?_
              refine xr_Vpi0 (r_fine W) kX12_115 (by decide) (Nat.le_of_ble_eq_true rfl) (Nat.zero_add _) (Nat.zero_add _) dX12_parties_67 (fun zv67 zh2 zq2 => ?_)
              obtain ⟨rfl, W⟩ := zq2
              refine xr_ifeq (tgt := 86) dX12_parties_70 (by decide) (fun zc70 => ?_) (fun zc70 => ?_)
              · skip
                refine lp_ptBad C Z (by omega) (b := c) (by omega) ?_ eb W
                rw [if_neg (nI_m1 (by omega))]
                split <;> rfl
              · skip
                exact absurd (bI_f (nI_m1 (by omega))) zc70
            · skip
              exact absurd (bI_f (nI_m1 (by omega))) zc38
          · exact absurd (by omega) y
  | succ r ih =>
    intro c h t tm h0m h1m ht hF W hk hct
    have hc5 : ln σ 0 + c ≤ 5 := by omega
    refine xr_al0 dX12_parties_34 ?_
    refine xr_Vpi0 (r_fine W) kX12_115 (by decide) (Nat.le_of_ble_eq_true rfl) (Nat.zero_add _) (Nat.zero_add _) dX12_parties_35 (fun zv35 zh1 zq1 => ?_)
    obtain ⟨rfl, W⟩ := zq1
    refine xr_ifeq (tgt := 66) dX12_parties_38 (by decide) (fun zc38 => ?_) (fun zc38 => ?_)
    · skip
      exact absurd (bI_t rfl) (fun q => absurd (q.symm.trans zc38) (by decide))
    · skip
      refine xr_al0 dX12_parties_41 ?_
      refine xr_Vpi0 (r_here Z (by omega) W) kX12_119 (by decide) (Nat.le_of_ble_eq_true rfl) (Nat.zero_add _) (Nat.zero_add _) dX12_parties_42 (fun zv42 zh2 zq2 => ?_)
      obtain ⟨rfl, W⟩ := zq2
      refine xr_icm1 dX12_parties_45 ?_
      refine xr_icmpeq (tgt := 66) dX12_parties_46 (by decide) (fun zc46 => ?_) (fun zc46 => ?_)
      · skip
        have cn : c = tn := by
          refine Nat.le_antisymm hct (Nat.le_of_not_lt (fun q => ?_))
          have e := hr_in T0 q (show c < 11 by omega)
          have z : hrV (u 2) c tn 11 = -1 := zc46
          rw [z] at e
          have := (T0 c q).1
          rw [← e] at this
          exact and_m1 this
        refine xr_al0 dX12_parties_66 ?_
        refine xr_Vpi0 (r_fine W) kX12_115 (by decide) (Nat.le_of_ble_eq_true rfl) (Nat.zero_add _) (Nat.zero_add _) dX12_parties_67 (fun zv67 zh1 zq1 => ?_)
        obtain ⟨rfl, W⟩ := zq1
        refine xr_ifeq (tgt := 86) dX12_parties_70 (by decide) (fun zc70 => ?_) (fun zc70 => ?_)
        · skip
          exact absurd (bI_t rfl) (fun q => absurd (q.symm.trans zc70) (by decide))
        · skip
          refine xr_al0 dX12_parties_73 ?_
          refine xr_bipush (v := 47) dX12_parties_74 (by decide) ?_
          refine xr_Vpi1 (r_passes Z (by omega) W _) kX12_123 (by decide) (Nat.le_of_ble_eq_true rfl) (Nat.zero_add _) (Nat.zero_add _) dX12_parties_76 (fun zv76 zh2 zq2 => ?_)
          rcases zq2 with ⟨y, -, -⟩ | ⟨y, rfl, W⟩
          · exact absurd (y.2.symm.trans (show hrV (u 2) c tn 11 = -1 from zc46)) (by decide)
          refine xr_ifeq (tgt := 86) dX12_parties_79 (by decide) (fun zc79 => ?_) (fun zc79 => ?_)
          · skip
            refine xr_al0 dX12_parties_86 ?_
            refine xr_Vpi0 (r_right Z (by omega) W) kX12_144 (by decide) (Nat.le_of_ble_eq_true rfl) (Nat.zero_add _) (Nat.zero_add _) dX12_parties_87 (fun zv87 zh3 zq3 => ?_)
            obtain ⟨rfl, W⟩ := zq3
            rw [if_neg (show ¬ c < tn by omega)] at W
            refine xr_eqi (y := 1) (by rw [if_neg (show ¬ c < tn by omega)]; rfl) ?_
            refine xr_ifne (tgt := 100) dX12_parties_90 (by decide) (fun zc90 => ?_) (fun zc90 => ?_)
            · skip
              obtain ⟨j, hj⟩ : ∃ j, c = j + 1 := ⟨c - 1, by omega⟩
              have ef : fbN tf tn σ tn 0 0 (5 - hWaits σ 0) = -1 := by
                rw [← hF, show tn - c = 0 by omega, fb_end h80 σ _ _ _ (j := j) (by omega), if_neg (dgt_47 (ht j (by omega)).2)]
              have eg : lcN tf tn tn 0 0 0 σ = (nI (c + 0), cmN t 1 0 0 (cmN t 0 c 0 σ)) := by
                have z := lc_run (t := t) h80 (s := 0) (by decide) 0 c 0 0 (c := 0) ok (by omega) (by omega) (fun k hk => by
                  rw [Nat.zero_add]
                  refine ⟨dgt_47 (ht k hk).2, ?_⟩
                  rw [show 5 * 0 + k = k by omega, (ht k hk).1, m49])
                rw [show c + 0 = tn by omega, Nat.zero_add] at z
                rw [Nat.add_zero]
                exact z
              refine lp_ptOk C h0m h1m (fun k hk => ?_) (fun k hk => absurd hk (by omega)) (by omega) hc5 (ok.1 1 (by decide)).2 ef eg W
              rw [show 5 * 0 + k = k by omega, (ht k hk).1, m49]
              exact dgt_19 (ht k hk).2
            · skip
              exact absurd zc90 (by decide)
          · skip
            exact absurd rfl zc79
      · skip
        refine xr_al0 dX12_parties_49 ?_
        refine xr_Vpi0 (r_here Z (by omega) W) kX12_119 (by decide) (Nat.le_of_ble_eq_true rfl) (Nat.zero_add _) (Nat.zero_add _) dX12_parties_50 (fun zv50 zh3 zq3 => ?_)
        obtain ⟨rfl, W⟩ := zq3
        refine xr_bipush (v := 47) dX12_parties_53 (by decide) ?_
        refine xr_icmpeq (tgt := 66) dX12_parties_55 (by decide) (fun zc55 => ?_) (fun zc55 => ?_)
        · skip
          have z55 : hrV (u 2) c tn 11 = 47 := zc55
          have cl : c < tn := Decidable.not_not.mp (fun q => by
            rw [hr_out (fun y => q y.1)] at z55
            exact absurd z55 (by decide))
          have esl : tf c = 47 := (hr_in T0 cl (by omega)).symm.trans z55
          refine xr_al0 dX12_parties_66 ?_
          refine xr_Vpi0 (r_fine W) kX12_115 (by decide) (Nat.le_of_ble_eq_true rfl) (Nat.zero_add _) (Nat.zero_add _) dX12_parties_67 (fun zv67 zh1 zq1 => ?_)
          obtain ⟨rfl, W⟩ := zq1
          refine xr_ifeq (tgt := 86) dX12_parties_70 (by decide) (fun zc70 => ?_) (fun zc70 => ?_)
          · skip
            exact absurd (bI_t rfl) (fun q => absurd (q.symm.trans zc70) (by decide))
          · skip
            refine xr_al0 dX12_parties_73 ?_
            refine xr_bipush (v := 47) dX12_parties_74 (by decide) ?_
            refine xr_Vpi1 (r_passes Z (by omega) W _) kX12_123 (by decide) (Nat.le_of_ble_eq_true rfl) (Nat.zero_add _) (Nat.zero_add _) dX12_parties_76 (fun zv76 zh2 zq2 => ?_)
            rcases zq2 with ⟨-, rfl, W⟩ | ⟨y, -, -⟩
            rotate_left
            · exact absurd ⟨rfl, z55⟩ y
            refine xr_ifeq (tgt := 86) dX12_parties_79 (by decide) (fun zc79 => ?_) (fun zc79 => ?_)
            · skip
              exact absurd zc79 (by decide)
            · skip
              refine xr_al0 dX12_parties_82 ?_
              refine xr_Vpv0 (r_below Z T0 R ok (by omega) cl esl h0m h1m W) kX12_141 (by decide) (Nat.le_of_ble_eq_true rfl) (Nat.zero_add _) (Nat.zero_add _) dX12_parties_83 (fun zh3 zq3 => ?_)
              rcases zq3 with ⟨b, p', t', tm', hb, eb, bp', W⟩ | ⟨c1, t', tm', k1, l51, pe, h0m', h1m', ht0', ht1', (⟨ep, e1⟩ | ⟨ep, e1⟩), W⟩
              · refine lp_ptBad C Z bp' hb ?_ ?_ W
                · by_cases q : p' < tn
                  · rw [if_pos q, if_neg (nI_m1 (by omega))]
                  · rw [if_neg q]
                · rw [← hF, show tn - c = (tn - (c + 1)) + 1 by omega, fb_slash h80 σ _ cl _ esl]
                  exact eb
              · skip
                refine xr_al0 dX12_parties_86 ?_
                refine xr_Vpi0 (r_right Z (by omega) W) kX12_144 (by decide) (Nat.le_of_ble_eq_true rfl) (Nat.zero_add _) (Nat.zero_add _) dX12_parties_87 (fun zv87 zh1 zq1 => ?_)
                obtain ⟨rfl, W⟩ := zq1
                rw [if_neg (show ¬ c + 1 + c1 < tn by omega)] at W
                refine xr_eqi (y := 1) (by rw [if_neg (show ¬ c + 1 + c1 < tn by omega)]; rfl) ?_
                refine xr_ifne (tgt := 100) dX12_parties_90 (by decide) (fun zc90 => ?_) (fun zc90 => ?_)
                · skip
                  have ef : fbN tf tn σ tn 0 0 (5 - hWaits σ 0) = -1 := by
                    rw [← hF, show tn - c = (tn - (c + 1)) + 1 by omega, fb_slash h80 σ _ cl _ esl]
                    exact e1
                  have eg : lcN tf tn tn 0 0 0 σ = (nI (c + c1), cmN t' 1 c1 0 (cmN t' 0 c 0 σ)) := by
                    have z := lc_run (t := t') h80 (s := 0) (by decide) (c1 + 1) c 0 0 (c := 0) ok (by omega) (by omega) (fun k hk => by
                      rw [Nat.zero_add]
                      refine ⟨dgt_47 (ht k hk).2, ?_⟩
                      rw [show 5 * 0 + k = k by omega, ht0' k (by omega), (ht k hk).1, m49])
                    rw [show c + (c1 + 1) = tn by omega, Nat.zero_add] at z
                    rw [show (0 : Int32) = nI 0 from rfl, z, lcN_s, sg_n h80 cl, if_pos esl]
                    have ok0 : hOk (cmN t' 0 c 0 σ) := ok_cm t' (by decide) c 0 ok
                    have l1 := ln_cm t' (s := 0) (by decide) (s' := 1) (by decide) (by decide) c 0 ok (by omega)
                    have z2 := lc_run (t := t') h80 (s := 1) (by decide) 0 c1 (c + 1) 0 (c := c) ok0 (by omega) (by omega) (fun k hk => by
                      rw [Nat.zero_add]
                      refine ⟨dgt_47 (ht1' k hk).2, ?_⟩
                      rw [show 5 * 1 + k = 5 + k by omega, (ht1' k hk).1, m49])
                    rw [Nat.add_zero] at z2
                    exact z2
                  refine lp_ptOk C h0m' h1m' (fun k hk => ?_) (fun k hk => ?_) (by omega) hc5 l51 ef eg W
                  · rw [show 5 * 0 + k = k by omega, ht0' k (by omega), (ht k hk).1, m49]
                    exact dgt_19 (ht k hk).2
                  · rw [show 5 * 1 + k = 5 + k by omega, (ht1' k hk).1, m49]
                    exact dgt_19 (ht1' k hk).2
                · skip
                  exact absurd zc90 (by decide)
              · refine lp_ptBad C Z (p := c + 1 + c1) (b := c + 1 + c1) (by omega) (by omega) ?_ ?_ W
                · rw [if_pos ep, if_pos rfl]
                · rw [← hF, show tn - c = (tn - (c + 1)) + 1 by omega, fb_slash h80 σ _ cl _ esl]
                  exact e1
        · skip
          refine xr_al0 dX12_parties_58 ?_
          refine xr_ic0 dX12_parties_59 ?_
          refine xr_Vpv1 (r_side Z (by omega) W (fun j hj => (T0 j hj).2) R ok (s := 0) (c := c) (by decide) h0m (by omega)) kX12_138 (by decide) (Nat.le_of_ble_eq_true rfl) (Nat.zero_add _) (Nat.zero_add _) dX12_parties_60 (fun zh4 zq4 => ?_)
          rcases zq4 with ⟨y, W⟩ | ⟨y, y2, W⟩
          · skip
            have dl : c < tn := Decidable.not_not.mp (fun q => zc46 (hr_out (fun y => q y.1)))
            have z11 := hr_in T0 dl (show c < 11 by omega)
            have eb : fbN tf tn σ tn 0 0 (5 - hWaits σ 0) = nI c := by
              rw [← hF, show tn - c = (tn - (c + 1)) + 1 by omega]
              refine fb_bad h80 σ _ dl _ _ (Or.inr (fun q => zc55 (z11.trans q))) ?_
              rcases y with y | y
              · exact Or.inl (by rw [show 5 - (ln σ 0 + c) = 0 by omega]; rfl)
              · rw [z11] at y
                exact Or.inr y
            refine xr_goto (tgt := 34) dX12_parties_63 (by decide) ?_
            refine xr_al0 dX12_parties_34 ?_
            refine xr_Vpi0 (r_fine W) kX12_115 (by decide) (Nat.le_of_ble_eq_true rfl) (Nat.zero_add _) (Nat.zero_add _) dX12_parties_35 (fun zv35 zh1 zq1 => ?_)
            obtain ⟨rfl, W⟩ := zq1
            refine xr_ifeq (tgt := 66) dX12_parties_38 (by decide) (fun zc38 => ?_) (fun zc38 => ?_)
            · skip
              refine xr_al0 dX12_parties_66 ?_
              refine xr_Vpi0 (r_fine W) kX12_115 (by decide) (Nat.le_of_ble_eq_true rfl) (Nat.zero_add _) (Nat.zero_add _) dX12_parties_67 (fun zv67 zh2 zq2 => ?_)
              obtain ⟨rfl, W⟩ := zq2
              refine xr_ifeq (tgt := 86) dX12_parties_70 (by decide) (fun zc70 => ?_) (fun zc70 => ?_)
              · skip
                refine lp_ptBad C Z (by omega) (b := c) (by omega) ?_ eb W
                rw [if_neg (nI_m1 (by omega))]
                split <;> rfl
              · skip
                exact absurd (bI_f (nI_m1 (by omega))) zc70
            · skip
              exact absurd (bI_f (nI_m1 (by omega))) zc38
          · skip
            refine xr_goto (tgt := 34) dX12_parties_63 (by decide) ?_
            have dp := dgt_hr y2
            have z11 := hr_in T0 dp.1 dp.2
            have y3 : dgt (tf c) := by
              rw [← z11]
              exact y2
            refine ih (c + 1) pk_us (by rw [upd_hi _ _ (by decide)]; exact h1m) (fun k hk => ?_) ?_ W (by omega) (by omega)
            · rw [show 5 * 0 + c = c by omega]
              by_cases ek : k = c
              · subst ek
                rw [pk_us, z11]
                exact ⟨rfl, y3⟩
              · rw [upd_hi _ _ ek]
                exact ht k (by omega)
            · rw [← hF, show tn - c = (tn - (c + 1)) + 1 by omega, show nI (5 - (ln σ 0 + c)) = nI (5 - (ln σ 0 + (c + 1)) + 1) from by congr 1; omega]
              exact (fb_ok h80 σ _ dp.1 0 (by omega) y3).symm
set_option maxRecDepth 20000 in
theorem a_parties {K : xK} {B : Nat} {l : Launch} {h0 h : xH} {Y : Nat} {th : Int32} {tn : Nat} {tf : xs} {rk : Int32} {rv : Nat → Int64} {σ : xs} {pn : Nat} {τ : Nat → xs} {ks : Nat → Bool} {κ : Nat → xs} {φ : xs → Int32} {hn : Nat} {hf hg : xs} {wn : Nat} {wf wg : xs} (A : xMa K B l h0 h Y th tn tf rk rv σ pn τ ks κ φ hn hf hg wn wf wg)  : xV K B l 206 mX12_parties 0 0 (Y) [] h (xPi (fun zr g => zr = (ptR tf tn σ pn).1 ∧ xMa K B l h0 g Y 0 0 tf rk rv ((ptR tf tn σ pn).2.1) ((ptR tf tn σ pn).2.2) τ ks κ φ hn hf hg wn wf wg)) := by
  obtain ⟨m, rd, u, v, W, T, Rw, ⟨R, ok, iv⟩, P, Kp, L, H, Sw, hth⟩ := A
  refine ⟨⟨_, _, _, _, W.o, rfl⟩, qX12_parties, ?_⟩
  refine xS.intro RX12 false ⟨rfl, rfl, by decide, by decide, Nat.le_of_ble_eq_true rfl⟩ (ls := [some (.ref Y), none, none]) rfl ?_
  refine xr_al0 dX12_parties_0 ?_
  refine xr_ic0 dX12_parties_1 ?_
  refine xr_put W.o fX12_82 (Nat.le_of_ble_eq_true rfl) rfl rfl dX12_parties_2 ?_
  refine xT.nm (fun zh1 zg1 => ?_)
  have W := W.f5 zg1
  refine xr_al0 dX12_parties_5 ?_
  refine xr_bipush (v := 11) dX12_parties_6 (by decide) ?_
  refine xr_Vpv1 (s_mBeginText W _) kX12_135 (by decide) (Nat.le_of_ble_eq_true rfl) (Nat.zero_add _) (Nat.zero_add _) dX12_parties_8 (fun zh2 zq2 => ?_)
  have W := zq2
  rw [begin_rdm] at W
  have W : xMw K h0 zh2 Y (rdm (pM m tn 11) 0 (-1)) (.ref (Y + 2)) (Y + 6) (Y + 7) (uu (uu u 4 (u 4)) 5 (u 5)) v := by
    rw [uu_id, uu_id]
    unfold pM
    rw [show nI 11 = 11 from rfl, ← T.1]
    exact W
  refine xr_al0 dX12_parties_11 ?_
  refine xr_get W.o fX12_24 rfl dX12_parties_12 ?_
  refine xr_ic0 dX12_parties_15 ?_
  refine xr_ic0 dX12_parties_16 ?_
  refine xr_iast W.a5 (xix_lit (j := 0) (by decide)) dX12_parties_17 ?_
  refine xT.nm (fun zh3 zg3 => ?_)
  have W := u5x (W.p5 zg3)
  refine xr_al0 dX12_parties_18 ?_
  refine xr_get W.o fX12_24 rfl dX12_parties_19 ?_
  refine xr_ic1 dX12_parties_22 ?_
  refine xr_ic0 dX12_parties_23 ?_
  refine xr_iast W.a5 (xix_lit (j := 1) (by decide)) dX12_parties_24 ?_
  refine xT.nm (fun zh4 zg4 => ?_)
  have W := u5x (W.p5 zg4)
  refine xr_al0 dX12_parties_25 ?_
  refine xr_get W.o fX12_99 rfl dX12_parties_26 ?_
  refine xr_eqi (y := nI tn) rfl ?_
  refine xr_ifne (tgt := 34) dX12_parties_29 (by decide) (fun zc29 => ?_) (fun zc29 => ?_)
  · skip
    have C : maC K B l Y m u v tn tf rk rv σ pn τ ks κ φ hn hf hg wn wf wg := ⟨T, Rw, ⟨R, ok, iv⟩, P, Kp, L, H, Sw⟩
    have tp : 0 < tn := Nat.pos_of_ne_zero (fun q => zc29 (by rw [q]; rfl))
    exact lp_ptA C ⟨rfl, rfl, T.2.1, Or.inl ⟨rfl, by decide⟩⟩ T.2.2 tp (5 - ln σ 0) 0 (by rfl) (by rfl) (fun k hk => absurd hk (by omega)) (by rw [show 5 - hWaits σ 0 = nI (5 - ln σ 0) from rm5 ok (s := 0) (by decide)]; rfl) W (by have := (ok.1 0 (by decide)).2; omega) (by omega)
  · skip
    refine xr_ic0 dX12_parties_32 ?_
    refine xr_iret dX12_parties_33 rfl ?_
    have t0 : tn = 0 := (nI_eq (b := 0) (by have := T.2.1; omega) (by decide)).mp zc29
    subst t0
    have e : (ptR tf 0 σ pn) = (0, σ, pn) := rfl
    rw [e]
    exact ⟨_, rfl, rfl, ⟨_, _, _, _, W, ⟨rfl, by omega, fun j hj => absurd hj (by omega)⟩, Rw, ⟨R, ok, iv⟩, P, Kp, L, H, Sw, rfl⟩⟩
