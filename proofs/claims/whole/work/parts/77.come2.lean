/-! The model in the class's words: parties, all of it (written by wip/whole/mod36.py) -/
theorem sg_n {tf : xs} {tn p : Nat} (h80 : tn ≤ 80) (h : p < tn) : slAt tf (nI tn) (nI p) = tf p := by
  unfold slAt
  rw [if_pos ⟨nI_pos (by omega), nI_ge h (by omega), nI_ge (b := 80) (by omega) (by decide)⟩, nI_clamp (by omega)]
theorem fb_slash {tf : xs} {tn : Nat} (h80 : tn ≤ 80) (σ : xs) (r : Nat) {p : Nat} (h : p < tn) (room : Int32) (e : tf p = 47) : fbN tf tn σ (r + 1) p 0 room = fbN tf tn σ r (p + 1) 1 (5 - hWaits σ 1) := by
  rw [fbN_s, sg_n h80 h, if_pos ⟨e, rfl⟩]
theorem fb_bad {tf : xs} {tn : Nat} (h80 : tn ≤ 80) (σ : xs) (r : Nat) {p : Nat} (h : p < tn) (side room : Int32) (e : side = 1 ∨ ¬ tf p = 47) (c : room = 0 ∨ ¬ dgt (tf p)) : fbN tf tn σ (r + 1) p side room = nI p := by
  rw [fbN_s, sg_n h80 h, if_neg (fun q => by
    rcases e with e | e
    · rw [e] at q
      exact absurd q.2 (by decide)
    · exact e q.1), if_pos]
  rcases c with c | c
  · exact Or.inr (Or.inr c)
  · by_cases c1 : tf p < 49
    · exact Or.inl c1
    · exact Or.inr (Or.inl (Decidable.not_not.mp (fun q => c ⟨c1, q⟩)))
theorem dgt_47 {x : Int32} (h : dgt x) : ¬ x = 47 := fun q => h.1 (by rw [q]; decide)
theorem fb_ok {tf : xs} {tn : Nat} (h80 : tn ≤ 80) (σ : xs) (r : Nat) {p : Nat} (h : p < tn) (side : Int32) {k : Nat} (hk : k < 5) (c : dgt (tf p)) : fbN tf tn σ (r + 1) p side (nI (k + 1)) = fbN tf tn σ r (p + 1) side (nI k) := by
  rw [fbN_s, sg_n h80 h, if_neg (fun q => dgt_47 c q.1), if_neg, pk_m1]
  rintro (q | q | q)
  · exact c.1 q
  · exact c.2 q
  · exact nI_ne0 (by omega) (by omega) q
theorem fb_end {tf : xs} {tn : Nat} (h80 : tn ≤ 80) (σ : xs) (p : Nat) (side room : Int32) {j : Nat} (hj : tn = j + 1) : fbN tf tn σ 0 p side room = if tf j = 47 then nI tn else -1 := by
  show (if slAt tf (nI tn) (nI tn - 1) = 47 then nI tn else -1) = _
  rw [show nI tn - 1 = nI j from by rw [hj]; exact nI_pred j, sg_n h80 (by omega)]
theorem hr_in {t tf : xs} {tn p T : Nat} (T0 : ∀ j, j < tn → t j &&& 255 = tf j ∧ byt (t j)) (h1 : p < tn) (h2 : p < T) : hrV t p tn T = tf p := by
  unfold hrV
  rw [if_pos ⟨h1, h2⟩]
  exact (T0 p h1).1
theorem hr_out {t : xs} {tn p T : Nat} (h : ¬ (p < tn ∧ p < T)) : hrV t p tn T = -1 := if_neg h
theorem dgt_hr {t : xs} {tn p T : Nat} (h : dgt (hrV t p tn T)) : p < tn ∧ p < T := Decidable.not_not.mp (fun q => by
  rw [hr_out q] at h
  exact absurd h.1 (by decide))
theorem rm5 {σ : xs} (ok : hOk σ) {s : Nat} (hs : s < 2) : 5 - hWaits σ (nI s) = nI (5 - ln σ s) := by
  rw [hWaits_s hs, (ok.1 s hs).1]
  exact nI_sub (a := 5) (ok.1 s hs).2
theorem m49 (x : Int32) : x - 49 + 1 = x - 48 := by
  rw [Int32.sub_eq_add_neg, Int32.sub_eq_add_neg, Int32.add_assoc]
  rfl
theorem dgt_19 {x : Int32} (h : dgt x) : w19 (x - 48) := by
  obtain ⟨j, hj, rfl⟩ := nI_of (x := x) (fun q => h.1 (Int32.lt_trans q (by decide)))
  have h1 : ¬ j < 49 := fun q => h.1 (nI_lt (b := 49) q (by decide))
  have h2 : ¬ 57 < j := fun q => h.2 (nI_lt (a := 57) q hj)
  rw [show nI j - 48 = nI (j - 48) from nI_sub (a := j) (b := 48) (by omega)]
  exact ⟨j - 48, by omega, by omega, rfl⟩
theorem and_m1 {x : Int32} (h : x &&& 255 = -1) : False := by
  rw [pk_and x (m := 255) 8 rfl] at h
  exact nI_m1 (Nat.lt_of_lt_of_le (Nat.mod_lt _ (by decide)) (by decide)) h
set_option maxRecDepth 20000 in
theorem lp_below {K : xK} {B : Nat} {l : Launch} {h0 : xH} {Y : Nat} {m : Nat → Int32} {ru ot : Nat} {u : Nat → Nat → Int32} {v : Nat → Int64} {tf : xs} {tn : Nat} (Z : rQ m 2 tn 11) (T0 : ∀ j, j < tn → u 2 j &&& 255 = tf j ∧ byt (u 2 j)) {σ : xs} (R : rr σ (u 1)) (ok : hOk σ) {c0 : Nat} (c05 : c0 ≤ 5) (sl : c0 < tn) (esl : tf c0 = 47) {t0 : xs} {FB : Int32} : ∀ (r c1 : Nat) {h : xH} {t tm : xs} (h0m : tm 0 = nI c0) (h1m : tm 1 = nI c1) (ht0 : ∀ k, k < 5 → t k = t0 k) (ht1 : ∀ k, k < c1 → t (5 + k) = tf (c0 + 1 + k) - 49 + 1 ∧ dgt (tf (c0 + 1 + k))) (hm : c1 = 0 ∨ (c0 + 1 + c1 < tn ∧ c0 + 1 + c1 < 11)) (hF : fbN tf tn σ (tn - (c0 + 1 + c1)) (c0 + 1 + c1) 1 (nI (5 - (ln σ 1 + c1))) = FB) (W : xMw K h0 h Y (rdm m (c0 + 1 + c1) (-1)) (.ref (Y + 2)) ru ot (uu (uu u 4 t) 5 tm) v), ln σ 1 + c1 + r = 5 → xT K B l 4 RX12 false cX12_readBelow 2 none 0 0 0 0 (xPv (fun g => (∃ (b p' : Nat) (t' tm' : xs), b ≤ 80 ∧ FB = nI b ∧ p' ≤ 80 ∧ xMw K h0 g Y (rdm m p' (nI b)) (.ref (Y + 2)) ru ot (uu (uu u 4 t') 5 tm') v) ∨ (∃ (c : Nat) (t' tm' : xs), 1 ≤ c ∧ ln σ 1 + c ≤ 5 ∧ c0 + 1 + c ≤ tn ∧ tm' 0 = nI c0 ∧ tm' 1 = nI c ∧ (∀ k, k < 5 → t' k = t0 k) ∧ (∀ k, k < c → t' (5 + k) = tf (c0 + 1 + k) - 49 + 1 ∧ dgt (tf (c0 + 1 + k))) ∧ ((c0 + 1 + c = tn ∧ FB = -1) ∨ (c0 + 1 + c < tn ∧ FB = nI (c0 + 1 + c))) ∧ xMw K h0 g Y (rdm m (c0 + 1 + c) (-1)) (.ref (Y + 2)) ru ot (uu (uu u 4 t') 5 tm') v))) 2 [some (.ref Y), some (.int 1)] [] h := by
  have h80 : tn ≤ 80 := Z.2.2.1
  intro r
  induction r with
  | zero =>
    intro c1 h t tm h0m h1m ht0 ht1 hm hF W hk
    refine xr_il1 dX12_readBelow_2 ?_
    refine xr_ifeq (tgt := 35) dX12_readBelow_3 (by decide) (fun zc3 => ?_) (fun zc3 => ?_)
    · skip
      exact absurd zc3 (by decide)
    · skip
      refine xr_al0 dX12_readBelow_6 ?_
      refine xr_Vpi0 (r_fine W) kX12_115 (by decide) (Nat.le_of_ble_eq_true rfl) (Nat.zero_add _) (Nat.zero_add _) dX12_readBelow_7 (fun zv7 zh1 zq1 => ?_)
      obtain ⟨rfl, W⟩ := zq1
      refine xr_ifeq (tgt := 35) dX12_readBelow_10 (by decide) (fun zc10 => ?_) (fun zc10 => ?_)
      · skip
        exact absurd (bI_t rfl) (fun q => absurd (q.symm.trans zc10) (by decide))
      · skip
        refine xr_al0 dX12_readBelow_13 ?_
        refine xr_ic1 dX12_readBelow_14 ?_
        refine xr_Vpv1 (r_side Z (by omega) W (fun j hj => (T0 j hj).2) R ok (s := 1) (c := c1) (by decide) h1m (by omega)) kX12_138 (by decide) (Nat.le_of_ble_eq_true rfl) (Nat.zero_add _) (Nat.zero_add _) dX12_readBelow_15 (fun zh2 zq2 => ?_)
        rcases zq2 with ⟨y, W⟩ | ⟨y, y2, W⟩
        · skip
          have eb : FB = nI (c0 + 1 + c1) := by
            rw [← hF]
            by_cases pl : c0 + 1 + c1 < tn
            · rw [show tn - (c0 + 1 + c1) = (tn - (c0 + 1 + c1) - 1) + 1 by omega]
              rcases y with y | y
              · exact fb_bad h80 σ _ pl _ _ (Or.inl rfl) (Or.inl (by rw [show 5 - (ln σ 1 + c1) = 0 by omega]; rfl))
              · by_cases p11 : c0 + 1 + c1 < 11
                · rw [hr_in T0 pl p11] at y
                  exact fb_bad h80 σ _ pl _ _ (Or.inl rfl) (Or.inr y)
                · exact fb_bad h80 σ _ pl _ _ (Or.inl rfl) (Or.inl (by rw [show 5 - (ln σ 1 + c1) = 0 by omega]; rfl))
            · rcases hm with hm | hm
              · subst hm
                have e0 : tn = c0 + 1 := by omega
                rw [show tn - (c0 + 1 + 0) = 0 by omega, fb_end h80 σ _ _ _ e0, if_pos esl, e0]
              · exact absurd hm.1 pl
          refine xr_al0 dX12_readBelow_18 ?_
          refine xr_Vpi0 (r_here Z (by omega) W) kX12_119 (by decide) (Nat.le_of_ble_eq_true rfl) (Nat.zero_add _) (Nat.zero_add _) dX12_readBelow_19 (fun zv19 zh1 zq1 => ?_)
          obtain ⟨rfl, W⟩ := zq1
          refine xr_icm1 dX12_readBelow_22 ?_
          refine xr_icmpeq (tgt := 30) dX12_readBelow_23 (by decide) (fun zc23 => ?_) (fun zc23 => ?_)
          · skip
            refine xr_ic0 dX12_readBelow_30 ?_
            refine xr_is1 dX12_readBelow_31 (by decide) rfl ?_
            refine xr_goto (tgt := 2) dX12_readBelow_32 (by decide) ?_
            refine xr_il1 dX12_readBelow_2 ?_
            refine xr_ifeq (tgt := 35) dX12_readBelow_3 (by decide) (fun zc3 => ?_) (fun zc3 => ?_)
            · skip
              refine xr_vret dX12_readBelow_35 rfl ?_
              exact ⟨rfl, Or.inl ⟨c0 + 1 + c1, c0 + 1 + c1, _, _, by omega, eb, by omega, W⟩⟩
            · skip
              refine xr_al0 dX12_readBelow_6 ?_
              refine xr_Vpi0 (r_fine W) kX12_115 (by decide) (Nat.le_of_ble_eq_true rfl) (Nat.zero_add _) (Nat.zero_add _) dX12_readBelow_7 (fun zv7 zh2 zq2 => ?_)
              obtain ⟨rfl, W⟩ := zq2
              refine xr_ifeq (tgt := 35) dX12_readBelow_10 (by decide) (fun zc10 => ?_) (fun zc10 => ?_)
              · skip
                refine xr_vret dX12_readBelow_35 rfl ?_
                exact ⟨rfl, Or.inl ⟨c0 + 1 + c1, c0 + 1 + c1, _, _, by omega, eb, by omega, W⟩⟩
              · skip
                exact absurd (bI_f (nI_m1 (by omega))) zc10
          · skip
            refine xr_ic1 dX12_readBelow_26 ?_
            refine xr_goto (tgt := 31) dX12_readBelow_27 (by decide) ?_
            refine xr_is1 dX12_readBelow_31 (by decide) rfl ?_
            refine xr_goto (tgt := 2) dX12_readBelow_32 (by decide) ?_
            refine xr_il1 dX12_readBelow_2 ?_
            refine xr_ifeq (tgt := 35) dX12_readBelow_3 (by decide) (fun zc3 => ?_) (fun zc3 => ?_)
            · skip
              refine xr_vret dX12_readBelow_35 rfl ?_
              exact ⟨rfl, Or.inl ⟨c0 + 1 + c1, c0 + 1 + c1, _, _, by omega, eb, by omega, W⟩⟩
            · skip
              refine xr_al0 dX12_readBelow_6 ?_
              refine xr_Vpi0 (r_fine W) kX12_115 (by decide) (Nat.le_of_ble_eq_true rfl) (Nat.zero_add _) (Nat.zero_add _) dX12_readBelow_7 (fun zv7 zh2 zq2 => ?_)
              obtain ⟨rfl, W⟩ := zq2
              refine xr_ifeq (tgt := 35) dX12_readBelow_10 (by decide) (fun zc10 => ?_) (fun zc10 => ?_)
              · skip
                refine xr_vret dX12_readBelow_35 rfl ?_
                exact ⟨rfl, Or.inl ⟨c0 + 1 + c1, c0 + 1 + c1, _, _, by omega, eb, by omega, W⟩⟩
              · skip
                exact absurd (bI_f (nI_m1 (by omega))) zc10
        · exact absurd (by omega) y
    
  | succ r ih =>
    intro c1 h t tm h0m h1m ht0 ht1 hm hF W hk
    refine xr_il1 dX12_readBelow_2 ?_
    refine xr_ifeq (tgt := 35) dX12_readBelow_3 (by decide) (fun zc3 => ?_) (fun zc3 => ?_)
    · skip
      exact absurd zc3 (by decide)
    · skip
      refine xr_al0 dX12_readBelow_6 ?_
      refine xr_Vpi0 (r_fine W) kX12_115 (by decide) (Nat.le_of_ble_eq_true rfl) (Nat.zero_add _) (Nat.zero_add _) dX12_readBelow_7 (fun zv7 zh1 zq1 => ?_)
      obtain ⟨rfl, W⟩ := zq1
      refine xr_ifeq (tgt := 35) dX12_readBelow_10 (by decide) (fun zc10 => ?_) (fun zc10 => ?_)
      · skip
        exact absurd (bI_t rfl) (fun q => absurd (q.symm.trans zc10) (by decide))
      · skip
        refine xr_al0 dX12_readBelow_13 ?_
        refine xr_ic1 dX12_readBelow_14 ?_
        refine xr_Vpv1 (r_side Z (by omega) W (fun j hj => (T0 j hj).2) R ok (s := 1) (c := c1) (by decide) h1m (by omega)) kX12_138 (by decide) (Nat.le_of_ble_eq_true rfl) (Nat.zero_add _) (Nat.zero_add _) dX12_readBelow_15 (fun zh2 zq2 => ?_)
        rcases zq2 with ⟨y, W⟩ | ⟨y, y2, W⟩
        · skip
          have eb : FB = nI (c0 + 1 + c1) := by
            rw [← hF]
            by_cases pl : c0 + 1 + c1 < tn
            · rw [show tn - (c0 + 1 + c1) = (tn - (c0 + 1 + c1) - 1) + 1 by omega]
              rcases y with y | y
              · exact fb_bad h80 σ _ pl _ _ (Or.inl rfl) (Or.inl (by rw [show 5 - (ln σ 1 + c1) = 0 by omega]; rfl))
              · by_cases p11 : c0 + 1 + c1 < 11
                · rw [hr_in T0 pl p11] at y
                  exact fb_bad h80 σ _ pl _ _ (Or.inl rfl) (Or.inr y)
                · exact fb_bad h80 σ _ pl _ _ (Or.inl rfl) (Or.inl (by rw [show 5 - (ln σ 1 + c1) = 0 by omega]; rfl))
            · rcases hm with hm | hm
              · subst hm
                have e0 : tn = c0 + 1 := by omega
                rw [show tn - (c0 + 1 + 0) = 0 by omega, fb_end h80 σ _ _ _ e0, if_pos esl, e0]
              · exact absurd hm.1 pl
          refine xr_al0 dX12_readBelow_18 ?_
          refine xr_Vpi0 (r_here Z (by omega) W) kX12_119 (by decide) (Nat.le_of_ble_eq_true rfl) (Nat.zero_add _) (Nat.zero_add _) dX12_readBelow_19 (fun zv19 zh1 zq1 => ?_)
          obtain ⟨rfl, W⟩ := zq1
          refine xr_icm1 dX12_readBelow_22 ?_
          refine xr_icmpeq (tgt := 30) dX12_readBelow_23 (by decide) (fun zc23 => ?_) (fun zc23 => ?_)
          · skip
            refine xr_ic0 dX12_readBelow_30 ?_
            refine xr_is1 dX12_readBelow_31 (by decide) rfl ?_
            refine xr_goto (tgt := 2) dX12_readBelow_32 (by decide) ?_
            refine xr_il1 dX12_readBelow_2 ?_
            refine xr_ifeq (tgt := 35) dX12_readBelow_3 (by decide) (fun zc3 => ?_) (fun zc3 => ?_)
            · skip
              refine xr_vret dX12_readBelow_35 rfl ?_
              exact ⟨rfl, Or.inl ⟨c0 + 1 + c1, c0 + 1 + c1, _, _, by omega, eb, by omega, W⟩⟩
            · skip
              refine xr_al0 dX12_readBelow_6 ?_
              refine xr_Vpi0 (r_fine W) kX12_115 (by decide) (Nat.le_of_ble_eq_true rfl) (Nat.zero_add _) (Nat.zero_add _) dX12_readBelow_7 (fun zv7 zh2 zq2 => ?_)
              obtain ⟨rfl, W⟩ := zq2
              refine xr_ifeq (tgt := 35) dX12_readBelow_10 (by decide) (fun zc10 => ?_) (fun zc10 => ?_)
              · skip
                refine xr_vret dX12_readBelow_35 rfl ?_
                exact ⟨rfl, Or.inl ⟨c0 + 1 + c1, c0 + 1 + c1, _, _, by omega, eb, by omega, W⟩⟩
              · skip
                exact absurd (bI_f (nI_m1 (by omega))) zc10
          · skip
            refine xr_ic1 dX12_readBelow_26 ?_
            refine xr_goto (tgt := 31) dX12_readBelow_27 (by decide) ?_
            refine xr_is1 dX12_readBelow_31 (by decide) rfl ?_
            refine xr_goto (tgt := 2) dX12_readBelow_32 (by decide) ?_
            refine xr_il1 dX12_readBelow_2 ?_
            refine xr_ifeq (tgt := 35) dX12_readBelow_3 (by decide) (fun zc3 => ?_) (fun zc3 => ?_)
            · skip
              refine xr_vret dX12_readBelow_35 rfl ?_
              exact ⟨rfl, Or.inl ⟨c0 + 1 + c1, c0 + 1 + c1, _, _, by omega, eb, by omega, W⟩⟩
            · skip
              refine xr_al0 dX12_readBelow_6 ?_
              refine xr_Vpi0 (r_fine W) kX12_115 (by decide) (Nat.le_of_ble_eq_true rfl) (Nat.zero_add _) (Nat.zero_add _) dX12_readBelow_7 (fun zv7 zh2 zq2 => ?_)
              obtain ⟨rfl, W⟩ := zq2
              refine xr_ifeq (tgt := 35) dX12_readBelow_10 (by decide) (fun zc10 => ?_) (fun zc10 => ?_)
              · skip
                refine xr_vret dX12_readBelow_35 rfl ?_
                exact ⟨rfl, Or.inl ⟨c0 + 1 + c1, c0 + 1 + c1, _, _, by omega, eb, by omega, W⟩⟩
              · skip
                exact absurd (bI_f (nI_m1 (by omega))) zc10
        · skip
          have dp := dgt_hr y2
          have hok : fbN tf tn σ ((tn - (c0 + 1 + c1) - 1) + 1) (c0 + 1 + c1) 1 (nI (5 - (ln σ 1 + c1))) = fbN tf tn σ (tn - (c0 + 1 + c1) - 1) (c0 + 1 + c1 + 1) 1 (nI (5 - (ln σ 1 + c1) - 1)) := by
            rw [show nI (5 - (ln σ 1 + c1)) = nI (5 - (ln σ 1 + c1) - 1 + 1) from by congr 1; omega]
            exact fb_ok h80 σ _ dp.1 1 (by omega) (by rw [← hr_in T0 dp.1 dp.2]; exact y2)
          refine xr_al0 dX12_readBelow_18 ?_
          refine xr_Vpi0 (r_here Z (by omega) W) kX12_119 (by decide) (Nat.le_of_ble_eq_true rfl) (Nat.zero_add _) (Nat.zero_add _) dX12_readBelow_19 (fun zv19 zh1 zq1 => ?_)
          obtain ⟨rfl, W⟩ := zq1
          refine xr_icm1 dX12_readBelow_22 ?_
          refine xr_icmpeq (tgt := 30) dX12_readBelow_23 (by decide) (fun zc23 => ?_) (fun zc23 => ?_)
          · skip
            refine xr_ic0 dX12_readBelow_30 ?_
            refine xr_is1 dX12_readBelow_31 (by decide) rfl ?_
            refine xr_goto (tgt := 2) dX12_readBelow_32 (by decide) ?_
            refine xr_il1 dX12_readBelow_2 ?_
            refine xr_ifeq (tgt := 35) dX12_readBelow_3 (by decide) (fun zc3 => ?_) (fun zc3 => absurd rfl zc3)
            refine xr_vret dX12_readBelow_35 rfl ?_
            have nn : ¬ (c0 + 1 + c1 + 1 < tn ∧ c0 + 1 + c1 + 1 < 11) := fun q => by
              have e := hr_in T0 q.1 q.2
              have z23 : hrV (u 2) (c0 + 1 + c1 + 1) tn 11 = -1 := zc23
              rw [z23] at e
              have := (T0 _ q.1).1
              rw [← e] at this
              exact and_m1 this
            refine ⟨rfl, Or.inr ⟨c1 + 1, _, _, by omega, by omega, by omega, ?_, ?_, ?_, ?_, ?_, W⟩⟩
            · rw [upd_hi _ _ (by decide)]
              exact h0m
            · exact pk_us
            · intro k hk
              rw [upd_hi _ _ (by omega)]
              exact ht0 k hk
            · intro k hk
              by_cases ek : k = c1
              · subst ek
                rw [show 5 * 1 + k = 5 + k from rfl, pk_us, hr_in T0 dp.1 dp.2]
                exact ⟨rfl, by rw [← hr_in T0 dp.1 dp.2]; exact y2⟩
              · rw [upd_hi _ _ (by omega)]
                exact ht1 k (by omega)
            · rw [← hF, show tn - (c0 + 1 + c1) = (tn - (c0 + 1 + c1) - 1) + 1 by omega, hok]
              by_cases e : c0 + 1 + (c1 + 1) = tn
              · refine Or.inl ⟨e, ?_⟩
                rw [show tn - (c0 + 1 + c1) - 1 = 0 by omega, fb_end h80 σ _ _ _ (j := c0 + 1 + c1) (by omega), if_neg (dgt_47 (by rw [← hr_in T0 dp.1 dp.2]; exact y2))]
              · refine Or.inr ⟨by omega, ?_⟩
                rw [show tn - (c0 + 1 + c1) - 1 = (tn - (c0 + 1 + c1) - 1 - 1) + 1 by omega]
                exact fb_bad h80 σ _ (by omega) _ _ (Or.inl rfl) (Or.inl (by rw [show 5 - (ln σ 1 + c1) - 1 = 0 by omega]; rfl))
          · skip
            refine xr_ic1 dX12_readBelow_26 ?_
            refine xr_goto (tgt := 31) dX12_readBelow_27 (by decide) ?_
            refine xr_is1 dX12_readBelow_31 (by decide) rfl ?_
            refine xr_goto (tgt := 2) dX12_readBelow_32 (by decide) ?_
            have nn : c0 + 1 + c1 + 1 < tn ∧ c0 + 1 + c1 + 1 < 11 := Decidable.not_not.mp (fun q => zc23 (hr_out q))
            refine ih (c1 + 1) (by rw [upd_hi _ _ (by decide)]; exact h0m) pk_us (fun k hk => by rw [upd_hi _ _ (by omega)]; exact ht0 k hk) (fun k hk => ?_) (Or.inr nn) ?_ W (by omega)
            · by_cases ek : k = c1
              · subst ek
                rw [show 5 * 1 + k = 5 + k from rfl, pk_us, hr_in T0 dp.1 dp.2]
                exact ⟨rfl, by rw [← hr_in T0 dp.1 dp.2]; exact y2⟩
              · rw [upd_hi _ _ (by omega)]
                exact ht1 k (by omega)
            · rw [← hF, show tn - (c0 + 1 + c1) = (tn - (c0 + 1 + c1) - 1) + 1 by omega, hok, show tn - (c0 + 1 + (c1 + 1)) = tn - (c0 + 1 + c1) - 1 by omega, show 5 - (ln σ 1 + (c1 + 1)) = 5 - (ln σ 1 + c1) - 1 by omega]
              rfl
    
set_option maxRecDepth 20000 in
theorem r_below {K : xK} {B : Nat} {l : Launch} {h0 h : xH} {Y : Nat} {m : Nat → Int32} {ru ot : Nat} {u : Nat → Nat → Int32} {v : Nat → Int64} {tf : xs} {tn : Nat} (Z : rQ m 2 tn 11) (T0 : ∀ j, j < tn → u 2 j &&& 255 = tf j ∧ byt (u 2 j)) {σ : xs} (R : rr σ (u 1)) (ok : hOk σ) {c0 : Nat} (c05 : c0 ≤ 5) (sl : c0 < tn) (esl : tf c0 = 47) {t0 : xs} {tm : xs} (h0m : tm 0 = nI c0) (h1m : tm 1 = nI 0) (W : xMw K h0 h Y (rdm m (c0 + 1) (-1)) (.ref (Y + 2)) ru ot (uu (uu u 4 t0) 5 tm) v) : xV K B l 4 mX12_readBelow 0 0 (Y) [] h (xPv (fun g => (∃ (b p' : Nat) (t' tm' : xs), b ≤ 80 ∧ fbN tf tn σ (tn - (c0 + 1)) (c0 + 1) 1 (5 - hWaits σ 1) = nI b ∧ p' ≤ 80 ∧ xMw K h0 g Y (rdm m p' (nI b)) (.ref (Y + 2)) ru ot (uu (uu u 4 t') 5 tm') v) ∨ (∃ (c : Nat) (t' tm' : xs), 1 ≤ c ∧ ln σ 1 + c ≤ 5 ∧ c0 + 1 + c ≤ tn ∧ tm' 0 = nI c0 ∧ tm' 1 = nI c ∧ (∀ k, k < 5 → t' k = t0 k) ∧ (∀ k, k < c → t' (5 + k) = tf (c0 + 1 + k) - 49 + 1 ∧ dgt (tf (c0 + 1 + k))) ∧ ((c0 + 1 + c = tn ∧ fbN tf tn σ (tn - (c0 + 1)) (c0 + 1) 1 (5 - hWaits σ 1) = -1) ∨ (c0 + 1 + c < tn ∧ fbN tf tn σ (tn - (c0 + 1)) (c0 + 1) 1 (5 - hWaits σ 1) = nI (c0 + 1 + c))) ∧ xMw K h0 g Y (rdm m (c0 + 1 + c) (-1)) (.ref (Y + 2)) ru ot (uu (uu u 4 t') 5 tm') v))) := by
  refine ⟨⟨_, _, _, _, W.o, rfl⟩, qX12_readBelow, ?_⟩
  refine xS.intro RX12 false ⟨rfl, rfl, by decide, by decide, Nat.le_of_ble_eq_true rfl⟩ (ls := [some (.ref Y), none]) rfl ?_
  refine xr_ic1 dX12_readBelow_0 ?_
  refine xr_is1 dX12_readBelow_1 (by decide) rfl ?_
  have e5 := rm5 ok (s := 1) (by decide)
  exact lp_below Z T0 R ok c05 sl esl (5 - ln σ 1) 0 h0m h1m (fun _ _ => rfl) (fun k hk => absurd hk (by omega)) (Or.inl rfl) (by rw [show 5 - hWaits σ 1 = nI (5 - ln σ 1) from e5]; rfl) W (by have := (ok.1 1 (by decide)).2; omega)
def cmN (t : xs) (s : Nat) : Nat → Nat → xs → xs
  | 0, _, γ => γ
  | r + 1, k, γ => cmN t s r (k + 1) (hCome γ s (t (5 * s + k)))
theorem cmN_s (t : xs) (s r k : Nat) (γ : xs) : cmN t s (r + 1) k γ = cmN t s r (k + 1) (hCome γ s (t (5 * s + k))) := rfl
theorem ln_come {γ : xs} (ok : hOk γ) {s : Nat} (hs : s < 2) (h5 : ln γ s < 5) (x : Int32) (s' : Nat) (hs' : s' < 2) : ln (hCome γ s x) s' = if s' = s then ln γ s + 1 else ln γ s' := by
  have o5 := (ok.1 s hs).2
  unfold hCome
  rw [if_pos h5, ln_upd _ (by omega)]
  by_cases e : s' = s
  · subst e
    rw [if_pos rfl]
    show (upd γ (10 + s') (nI (ln γ s' + 1)) (10 + s')).toNatClampNeg = _
    rw [pk_us]
    exact nI_clamp (by omega)
  · rw [if_neg e, ln_upd _ (by omega)]
theorem hIv_come {γ : xs} (iv : hIv γ) (ok : hOk γ) {s : Nat} (hs : s < 2) (h5 : ln γ s < 5) {x : Int32} (hx : w19 x) : hIv (hCome γ s x) := by
  refine ⟨fun s' hs' k hk => ?_, ?_⟩
  · rw [ln_come ok hs h5 x s' hs'] at hk
    have o5 := (ok.1 s' hs').2
    unfold hCome
    rw [if_pos h5]
    by_cases e : 5 * s' + k = 5 * s + ln γ s
    · rw [e, pk_us]
      exact hx
    · rw [upd_hi _ _ e, upd_hi _ _ (by split at hk <;> omega)]
      refine iv.1 s' hs' k ?_
      split at hk
      · rename_i es
        subst es
        omega
      · exact hk
  · unfold hCome
    rw [if_pos h5, upd_hi _ _ (by omega), upd_hi _ _ (by omega)]
    exact iv.2
theorem lc_run {tf : xs} {tn : Nat} (h80 : tn ≤ 80) {t : xs} {s : Nat} (hs : s < 2) (rest : Nat) : ∀ (r p k : Nat) {c : Nat} {γ : xs}, hOk γ → p + r + rest = tn → ln γ s + r ≤ 5 → (∀ j, j < r → ¬ tf (p + j) = 47 ∧ t (5 * s + (k + j)) = tf (p + j) - 48) → lcN tf tn (r + rest) p s (nI c) γ = lcN tf tn rest (p + r) s (nI (c + r)) (cmN t s r k γ) := by
  intro r
  induction r with
  | zero =>
    intro p k c γ _ _ _ _
    rw [Nat.zero_add]
    rfl
  | succ r ih =>
    intro p k c γ ok hp h5 hj
    have j0 := hj 0 (by omega)
    have e0 : tf p - 48 = t (5 * s + k) := j0.2.symm
    have j1 : ¬ tf p = 47 := j0.1
    have o5 := ln_come ok hs (by omega) (t (5 * s + k)) s hs
    rw [if_pos rfl] at o5
    rw [show r + 1 + rest = (r + rest) + 1 by omega, lcN_s, sg_n h80 (by omega), if_neg j1, if_pos (by omega), nI_1, e0, ih (p + 1) (k + 1) (hOk_come ok hs _) (by omega) (by omega) (fun j hj2 => by
      have := hj (j + 1) (by omega)
      rw [show p + (j + 1) = p + 1 + j by omega, show k + (j + 1) = k + 1 + j by omega] at this
      exact this), cmN_s, show p + 1 + r = p + (r + 1) by omega, show c + 1 + r = c + (r + 1) by omega]
set_option maxRecDepth 20000 in
theorem lp_mComeI {K : xK} {B : Nat} {l : Launch} {h0 : xH} {Y : Nat} {m : xs} {rd : Value} {u : Nat → Nat → Int32} {v : Nat → Int64} {Q : Option Value → xH → Prop} {s cs : Nat} (hs : s < 2) (c5 : cs ≤ 5) (htm : u 5 s = nI cs) (h19 : ∀ k, k < cs → w19 (u 4 (5 * s + k))) : ∀ (r k : Nat) {h : xH} {w γ : xs} (okt : hOk γ) (ivt : hIv γ) (Rt : rr γ w) (hc : ∀ {h : xH} {w : xs} {x2 : Option Value}, hOk (cmN (u 4) s r k γ) → hIv (cmN (u 4) s r k γ) → rr (cmN (u 4) s r k γ) w → xMw K h0 h Y m rd (Y + 6) (Y + 7) (uu u 1 w) v → xT K B l 206 RX12 false cX12_parties 3 (some .int) 0 0 0 0 (Q) 166 [some (.ref Y), some (.int (nI s)), x2] [] h) (W : xMw K h0 h Y m rd (Y + 6) (Y + 7) (uu u 1 w) v), k + r = cs → ln γ s + r ≤ 5 → xT K B l 206 RX12 false cX12_parties 3 (some .int) 0 0 0 0 (Q) 109 [some (.ref Y), some (.int (nI s)), some (.int (nI k))] [] h := by
  intro r
  induction r with
  | zero =>
    intro k h w γ okt ivt Rt hc W hk h5
    refine xr_il2 dX12_parties_109 ?_
    refine xr_al0 dX12_parties_110 ?_
    refine xr_get W.o fX12_24 rfl dX12_parties_111 ?_
    refine xr_il1 dX12_parties_114 ?_
    refine xr_iald W.a5 (xix_nI (n := 2) (j := s) (by omega) (by decide)) dX12_parties_115 ?_
    refine xr_eqi (y := nI cs) htm ?_
    refine xr_icmpge (tgt := 166) dX12_parties_116 (by decide) (fun zc116 => ?_) (fun zc116 => ?_)
    · skip
      exact hc okt ivt Rt W
    · skip
      exact absurd (nI_le (by omega) (by omega)) zc116
  | succ r ih =>
    intro k h w γ okt ivt Rt hc W hk h5
    have o5 := (okt.1 s hs).2
    refine xr_il2 dX12_parties_109 ?_
    refine xr_al0 dX12_parties_110 ?_
    refine xr_get W.o fX12_24 rfl dX12_parties_111 ?_
    refine xr_il1 dX12_parties_114 ?_
    refine xr_iald W.a5 (xix_nI (n := 2) (j := s) (by omega) (by decide)) dX12_parties_115 ?_
    refine xr_eqi (y := nI cs) htm ?_
    refine xr_icmpge (tgt := 166) dX12_parties_116 (by decide) (fun zc116 => ?_) (fun zc116 => ?_)
    · skip
      exact absurd zc116 (nI_ge (by omega) (by omega))
    · skip
      refine xr_al0 dX12_parties_119 ?_
      refine xr_get W.o fX12_9 rfl dX12_parties_120 ?_
      refine xr_ic5 dX12_parties_123 ?_
      refine xr_il1 dX12_parties_124 ?_
      refine xr_imul dX12_parties_125 ?_
      refine xr_eqi (y := nI (5 * s)) (pk_mul 5 s) ?_
      refine xr_al0 dX12_parties_126 ?_
      refine xr_get W.o fX12_9 rfl dX12_parties_127 ?_
      refine xr_bipush (v := 10) dX12_parties_130 (by decide) ?_
      refine xr_il1 dX12_parties_132 ?_
      refine xr_iadd dX12_parties_133 ?_
      refine xr_eqi (y := nI (10 + s)) (nI_add 10 s) ?_
      refine xr_iald W.a1 (xix_nI (n := 19) (j := 10 + s) (by omega) (by decide)) dX12_parties_134 ?_
      refine xr_eqi (y := nI (ln γ s)) ((Rt.1 _ (by omega) (by omega)).trans (okt.1 s hs).1) ?_
      refine xr_iadd dX12_parties_135 ?_
      refine xr_eqi (y := nI (5 * s + ln γ s)) (nI_add _ _) ?_
      refine xr_al0 dX12_parties_136 ?_
      refine xr_get W.o fX12_21 rfl dX12_parties_137 ?_
      refine xr_ic5 dX12_parties_140 ?_
      refine xr_il1 dX12_parties_141 ?_
      refine xr_imul dX12_parties_142 ?_
      refine xr_eqi (y := nI (5 * s)) (pk_mul 5 s) ?_
      refine xr_il2 dX12_parties_143 ?_
      refine xr_iadd dX12_parties_144 ?_
      refine xr_eqi (y := nI (5 * s + k)) (nI_add _ _) ?_
      refine xr_iald W.a4 (xix_nI (n := 10) (j := 5 * s + k) (by omega) (by decide)) dX12_parties_145 ?_
      refine xr_iast W.a1 (xix_nI (n := 19) (j := 5 * s + ln γ s) (by omega) (by decide)) dX12_parties_146 ?_
      refine xT.nm (fun zh1 zg1 => ?_)
      have W := uu1 (W.p1 zg1)
      refine xr_al0 dX12_parties_147 ?_
      refine xr_get W.o fX12_9 rfl dX12_parties_148 ?_
      refine xr_bipush (v := 10) dX12_parties_151 (by decide) ?_
      refine xr_il1 dX12_parties_153 ?_
      refine xr_iadd dX12_parties_154 ?_
      refine xr_eqi (y := nI (10 + s)) (nI_add 10 s) ?_
      refine xr_dup2 dX12_parties_155 rfl rfl ?_
      refine xr_iald W.a1 (xix_nI (n := 19) (j := 10 + s) (by omega) (by decide)) dX12_parties_156 ?_
      refine xr_eqi (y := nI (ln γ s)) ((upd_hi _ _ (by omega)).trans ((Rt.1 _ (by omega) (by omega)).trans (okt.1 s hs).1)) ?_
      refine xr_ic1 dX12_parties_157 ?_
      refine xr_iadd dX12_parties_158 ?_
      refine xr_eqi (y := nI (ln γ s + 1)) (nI_1 _) ?_
      refine xr_iast W.a1 (xix_nI (n := 19) (j := 10 + s) (by omega) (by decide)) dX12_parties_159 ?_
      refine xT.nm (fun zh2 zg2 => ?_)
      have W := uu1 (W.p1 zg2)
      refine xr_inc2 dX12_parties_160 (nI_inc k) (by decide) rfl ?_
      refine xr_goto (tgt := 109) dX12_parties_163 (by decide) ?_
      have l1 := ln_come okt hs (by omega) (u 4 (5 * s + k)) s hs
      rw [if_pos rfl] at l1
      exact ih (k + 1) (hOk_come okt hs _) (hIv_come ivt okt hs (by omega) (h19 k (by omega))) (rr_come Rt okt hs (by omega) _) hc W (by omega) (by omega)
