/-! The model's reader of rules: all of it (written by wip/whole/mod46.py) -/
theorem r_thN {K : xK} {B : Nat} {l : Launch} {h0 : xH} {Y : Nat} {m : Nat → Int32} {ru ot q tn : Nat} {u : Nat → Nat → Int32} {v : Nat → Int64} {tf : xs} (Z : rQ m q tn 40) (T0 : ∀ j, j < tn → u q j &&& 255 = tf j ∧ byt (u q j)) : ∀ N : Nat, rMet K B l h0 Y m ru ot q tn u v tf mX12_thing 3 (fun d => d + 1) (fun _ _ _ => True) (fun _ _ _ => True) N (4 * N + 7) := by
  intro N
  induction N with
  | zero => exact r_thing Z T0 (F0 := 6) (F1 := 6) (F2 := 6) (by decide) (by decide) (by decide) (fun q => absurd q (by omega)) (fun q => absurd q (by omega))
  | succ N ih =>
    exact r_thing Z T0 (F0 := 4 * N + 10) (F1 := 4 * N + 7) (F2 := 4 * N + 10) (by omega) (by omega) (by omega) (fun _ => ih) (fun _ => r_held Z T0 (by omega) (r_sum Z T0 (r_prod Z T0 ih)))
theorem r_hd40 {K : xK} {B : Nat} {l : Launch} {h0 : xH} {Y : Nat} {m : Nat → Int32} {ru ot q tn : Nat} {u : Nat → Nat → Int32} {v : Nat → Int64} {tf : xs} (Z : rQ m q tn 40) (T0 : ∀ j, j < tn → u q j &&& 255 = tf j ∧ byt (u q j)) : rMet K B l h0 Y m ru ot q tn u v tf mX12_held 1 (fun d => d) (fun sh d C => tp sh 1 ∧ C.testBit d = false) (scH (u q) tn) 40 170 := r_held Z T0 (by omega) (r_sum Z T0 (r_prod Z T0 (r_thN Z T0 40)))
theorem rdF_40 (sh ou : List Int32) (p : Nat) (c : Int32) {tn : Nat} (t : 40 < tn) : rdF tn ((sh, ou, p, 0, c, 0), true) = (nI (min tn 40), ou) := by
  unfold rdF
  rw [if_neg (by show ¬ true = false; decide), if_pos (Or.inr (Or.inr t))]
theorem rdF_ok (sh ou : List Int32) (p : Nat) (c : Int32) {tn : Nat} (t : ¬ 40 < tn) : rdF tn ((sh, ou, p, 0, c, 0), true) = (-1, (bbk 1 sh ou).2) := by
  unfold rdF
  rw [if_neg (by show ¬ true = false; decide), if_neg]
  rintro (q | q | q)
  · exact q rfl
  · exact absurd q (by show ¬ 1 ≤ 0; decide)
  · exact t q
theorem r_top {K : xK} {B : Nat} {l : Launch} {h0 : xH} {Y : Nat} {m : Nat → Int32} {ru ot q tn : Nat} {u : Nat → Nat → Int32} {v : Nat → Int64} {tf : xs} (Z : rQ m q tn 40) (T0 : ∀ j, j < tn → u q j &&& 255 = tf j ∧ byt (u q j)) (tn0 : ¬ tn = 0) {g : xH} {zr : Int32} (O : rOut K h0 Y m ru ot q tn u v tf 1 0 (scH (u q) tn 0) [] [] 0 0 0 zr g) : ∃ (p' : Nat) (w : Int32), p' ≤ 80 ∧ xMw K h0 g Y (rdm m p' w) (.ref (Y + q)) ru ot u v ∧ (if p' < tn then (if w = -1 then nI p' else w) else w) = (rdV tf tn).1 ∧ ((rdV tf tn).1 = -1 → evL (alM m u) (rdV tf tn).2 = [zr]) := by
  have h80 : tn ≤ 80 := Z.2.2.1
  rw [rdV_Rn tn0]
  rcases O with ⟨sh', ou', p', C', l1, l2, hC, -, e, ⟨o, ev, hb⟩, sc, W⟩ | ⟨b, p', hb, hp, e, W⟩
  · have e : Rn tf tn rS0 = Rn tf tn (sh', ou', p', 0, nI C', 0) := e
    rw [e]
    by_cases pl : p' < min tn 40
    · rw [stp_no h80 T0 (by omega) hC pl sc (fun q => absurd q.2 (by omega))]
      refine ⟨p', -1, by omega, W, ?_, fun q => absurd (show nI p' = -1 from q) (nI_m1 (by omega))⟩
      rw [if_pos (show p' < tn by omega), if_pos rfl]
      rfl
    · rw [Rn_end (show min tn 40 ≤ ((sh', ou', p', 0, nI C', (0 : Int32)) : RS).2.2.1 by show min tn 40 ≤ p'; omega)]
      by_cases t4 : 40 < tn
      · rw [rdF_40 _ _ _ _ t4]
        refine ⟨p', -1, by omega, W, ?_, fun q => absurd (show nI (min tn 40) = -1 from q) (nI_m1 (by omega))⟩
        rw [if_pos (show p' < tn by omega), if_pos rfl]
        show nI p' = nI (min tn 40)
        congr 1
        omega
      · rw [rdF_ok _ _ _ _ t4]
        refine ⟨p', -1, by omega, W, if_neg (show ¬ p' < tn by omega), fun _ => ?_⟩
        show evL (alM m u) (bbk (nI 1) sh' ou').2 = _
        rw [hb 1 (by decide) (by decide)]
        exact ev
  · have e : (rdF tn (Rn tf tn rS0)).1 = nI b := e
    refine ⟨p', nI b, hp, W, ?_, ?_⟩
    · rw [e, if_neg (nI_m1 (by omega))]
      split <;> rfl
    · intro q
      exact absurd (e.symm.trans q) (nI_m1 (by omega))
def pM' (m : xs) (tn : Nat) : xs := upd (upd (upd m 7 (nI tn)) 8 (nI 40)) 2 0
theorem rdm_16 (m : xs) (p : Nat) (w x : Int32) : upd (rdm m p w) 16 x = rdm (upd m 16 x) p w := by
  unfold rdm
  rw [upd_cm _ _ _ (show 10 ≠ 16 by decide), upd_cm _ _ _ (show 9 ≠ 16 by decide)]
set_option maxRecDepth 20000 in
theorem r_readRule {K : xK} {B : Nat} {l : Launch} {h0 h : xH} {Y : Nat} {m : Nat → Int32} {rd : Value} {ru ot tn : Nat} {u : Nat → Nat → Int32} {v : Nat → Int64} {tf : xs} (h2 : m 2 = nI tn) (h80 : tn ≤ 80) (T0 : ∀ j, j < tn → u 2 j &&& 255 = tf j ∧ byt (u 2 j)) (W : xMw K h0 h Y m rd ru ot u v) : xV K B l 171 mX12_readRule 0 0 (Y) [] h (xPi (fun zr g => zr = bI ((rdV tf tn).1 = -1) ∧ ∃ p : Nat, p ≤ 80 ∧ xMw K h0 g Y (rdm ((upd (pM' m tn) 16 0)) p ((rdV tf tn).1)) (.ref (Y + 2)) ru ot u v)) := by
  refine ⟨⟨_, _, _, _, W.o, rfl⟩, qX12_readRule, ?_⟩
  refine xS.intro RX12 false ⟨rfl, rfl, by decide, by decide, Nat.le_of_ble_eq_true rfl⟩ (ls := [some (.ref Y)]) rfl ?_
  refine xr_al0 dX12_readRule_0 ?_
  refine xr_bipush (v := 40) dX12_readRule_1 (by decide) ?_
  refine xr_Vpv1 (s_mBeginText W _) kX12_135 (by decide) (Nat.le_of_ble_eq_true rfl) (Nat.zero_add _) (Nat.zero_add _) dX12_readRule_3 (fun zh1 zq1 => ?_)
  have W := zq1
  rw [h2, begin_rdm] at W
  refine xr_al0 dX12_readRule_6 ?_
  refine xr_ic0 dX12_readRule_7 ?_
  refine xr_put W.o fX12_173 (Nat.le_of_ble_eq_true rfl) rfl rfl dX12_readRule_8 ?_
  refine xT.nm (fun zh2 zg2 => ?_)
  have W := W.f16 zg2
  rw [rdm_16] at W
  have Z : rQ (upd (pM' m tn) 16 0) 2 tn 40 := ⟨rfl, rfl, h80, Or.inl ⟨rfl, by decide⟩⟩
  refine xr_al0 dX12_readRule_11 ?_
  refine xr_get W.o fX12_99 rfl dX12_readRule_12 ?_
  refine xr_eqi (y := nI tn) rfl ?_
  refine xr_ifle (tgt := 24) dX12_readRule_15 (by decide) (fun zc15 => ?_) (fun zc15 => ?_)
  · skip
    have tn0 : tn = 0 := Decidable.not_not.mp (fun y => nI_nle (by omega) (by omega) zc15)
    subst tn0
    refine xr_al0 dX12_readRule_24 ?_
    refine xr_Vpi0 (r_right Z (p := 0) (by omega) W) kX12_144 (by decide) (Nat.le_of_ble_eq_true rfl) (Nat.zero_add _) (Nat.zero_add _) dX12_readRule_25 (fun zv25 zh3 zq3 => ?_)
    obtain ⟨rfl, W⟩ := zq3
    refine xr_zret dX12_readRule_28 rfl (bI_n _) ?_
    exact ⟨_, rfl, rfl, 0, by omega, W⟩
  · skip
    have tn0 : ¬ tn = 0 := fun y => zc15 (by rw [y]; decide)
    refine xr_al0 dX12_readRule_18 ?_
    refine xr_ic0 dX12_readRule_19 ?_
    refine xr_Vpi1 (r_hd40 (m := (upd (pM' m tn) 16 0)) (q := 2) Z T0 _ [] [] 0 0 0 (by omega) (by omega) (by omega) (by omega) ⟨fun _ _ q => (nomatch q), by decide⟩ W) kX12_160 (by omega) (Nat.le_of_ble_eq_true rfl) (Nat.zero_add _) (Nat.zero_add _) dX12_readRule_20 (fun zo zh3 zq3 => ?_)
    obtain ⟨p', w, bp, W, ew, -⟩ := r_top (B := B) (l := l) (tf := tf) Z T0 tn0 zq3
    refine xr_pop dX12_readRule_23 rfl ?_
    refine xr_al0 dX12_readRule_24 ?_
    refine xr_Vpi0 (r_right Z bp W) kX12_144 (by decide) (Nat.le_of_ble_eq_true rfl) (Nat.zero_add _) (Nat.zero_add _) dX12_readRule_25 (fun zv25 zh4 zq4 => ?_)
    obtain ⟨rfl, W⟩ := zq4
    rw [ew] at W
    refine xr_zret dX12_readRule_28 rfl (bI_n _) ?_
    rw [ew]
    exact ⟨_, rfl, rfl, p', bp, W⟩
