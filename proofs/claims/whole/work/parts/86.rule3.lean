/-! The model's reader of rules beside the class's: comparing, things (written by wip/whole/mod44.py) -/
/-- a comparing is taken -/
theorem stp_cmp {x tf : xs} {tn : Nat} (h80 : tn ≤ 80) (T0 : ∀ j, j < tn → x j &&& 255 = tf j ∧ byt (x j)) {sh1 ou1 sh o1 : List Int32} {p d C : Nat} (hd : d < 5) (hC : C < 32) (hb0 : C.testBit d = false) {y : Int32} (hy : hrV x p tn 40 = y) (hj : y = 60 ∨ y = 61 ∨ y = 62) (hb : bbk (nI 1) sh1 ou1 = (sh, o1)) : Rn tf tn (sh1, ou1, p, d, nI C, 0) = Rn tf tn ((0 - y) :: sh, o1, p + 1, d, nI (C ||| 2 ^ d), 1) := by
  have pl : p < min tn 40 := gs_lt (x := x) (by rw [hy]; rcases hj with rfl | rfl | rfl <;> decide)
  have t1 : tg (0 - y) = 1 := by rcases hj with rfl | rfl | rfl <;> rfl
  refine Rn_step pl ?_
  unfold stp
  rw [if_pos (show ((sh1, ou1, p, d, nI C, (0 : Int32)) : RS).2.2.2.2.2 = 0 from rfl)]
  show tkJ (slAt tf (nI tn) (nI p)) (sh1, ou1, p, d, nI C, 0) = _
  rw [gs_sl h80 T0 pl, hy]
  unfold tkJ
  dsimp only
  have bn : ¬ (nI C >>> (nI d &&& 31) &&& 1) = 1 := fun q => by
    rw [(cb_bit C hC d hd).mp q] at hb0
    exact absurd hb0 (by decide)
  have hb : bbk 1 sh1 ou1 = (sh, o1) := hb
  rw [if_neg (by rcases hj with rfl | rfl | rfl <;> exact fun q => absurd q.1 (by decide)), t1, if_pos ⟨by rcases hj with rfl | rfl | rfl <;> decide, fun q => bn q.2⟩, hb, if_pos rfl, (cb_set C hC d hd).1]
/-- a sign that can't stand behind a value -/
theorem stp_no {x tf : xs} {tn : Nat} (h80 : tn ≤ 80) (T0 : ∀ j, j < tn → x j &&& 255 = tf j ∧ byt (x j)) {sh1 ou1 : List Int32} {p d C : Nat} (hd : d < 5) (hC : C < 32) (pl : p < min tn 40) (h : scH x tn d p C) (n41 : ¬ (hrV x p tn 40 = 41 ∧ 1 ≤ d)) : Rn tf tn (sh1, ou1, p, d, nI C, 0) = ((sh1, ou1, p, d, nI C, 0), false) := by
  refine Rn_none pl ?_
  unfold stp
  rw [if_pos (show ((sh1, ou1, p, d, nI C, (0 : Int32)) : RS).2.2.2.2.2 = 0 from rfl)]
  show tkJ (slAt tf (nI tn) (nI p)) (sh1, ou1, p, d, nI C, 0) = _
  rw [gs_sl h80 T0 pl]
  unfold tkJ
  dsimp only
  rw [if_neg n41, if_neg]
  rintro ⟨q1, q2⟩
  rcases h with h | ⟨h1, h2⟩
  · exact q1 h
  · exact q2 ⟨h2, (cb_bit C hC d hd).mpr h1⟩
theorem jn_sc {x : xs} {tn d p C : Nat} (h : scS x tn d p C) (n1 : ¬ hrV x p tn 40 = 60) (n2 : ¬ hrV x p tn 40 = 62) (n3 : ¬ hrV x p tn 40 = 61) : jn (hrV x p tn 40) = 0 := by
  unfold jn
  rw [if_neg]
  obtain ⟨⟨a, b⟩, c, e⟩ := h
  rintro (q | q | q | q | q | q | q)
  · exact a q
  · exact c q
  · exact e q
  · exact b q
  · exact n1 q
  · exact n3 q
  · exact n2 q
theorem sc_cmp {x : xs} {tn d p C : Nat} (h : scS x tn d p C) (hb : C.testBit d = true) : scH x tn d p C := by
  by_cases c1 : hrV x p tn 40 = 60
  · exact Or.inr ⟨hb, by rw [c1]; rfl⟩
  · by_cases c2 : hrV x p tn 40 = 62
    · exact Or.inr ⟨hb, by rw [c2]; rfl⟩
    · by_cases c3 : hrV x p tn 40 = 61
      · exact Or.inr ⟨hb, by rw [c3]; rfl⟩
      · exact Or.inl (jn_sc h c1 c2 c3)
theorem tp_12 {sh : List Int32} (h : tp sh 1) : tp sh 2 := fun y t e => Int32.lt_trans (h y t e) (by decide)
set_option maxRecDepth 20000 in
theorem r_held {K : xK} {B : Nat} {l : Launch} {h0 : xH} {Y : Nat} {m : Nat → Int32} {ru ot q tn : Nat} {u : Nat → Nat → Int32} {v : Nat → Int64} {tf : xs} (Z : rQ m q tn 40) (T0 : ∀ j, j < tn → u q j &&& 255 = tf j ∧ byt (u q j)) {N F0 : Nat} (f0 : 4 ≤ F0) (hT : rMet K B l h0 Y m ru ot q tn u v tf mX12_sum 2 (fun d => d + 1) (fun sh _ _ => tp sh 2) (scS (u q) tn) N F0) : rMet K B l h0 Y m ru ot q tn u v tf mX12_held 1 (fun d => d) (fun sh d C => tp sh 1 ∧ C.testBit d = false) (scH (u q) tn) N (F0 + 1) := by
  intro h sh ou p d C hp hN hd hC hpre W
  refine ⟨⟨_, _, _, _, W.o, rfl⟩, qX12_held, ?_⟩
  refine xS.intro RX12 false ⟨rfl, rfl, by decide, by decide, Nat.le_of_ble_eq_true rfl⟩ (ls := [some (.ref Y), some (.int (nI d)), none]) rfl ?_
  have h80 : tn ≤ 80 := Z.2.2.1
  refine xr_al0 dX12_held_0 ?_
  refine xr_il1 dX12_held_1 ?_
  refine xr_Vpi1 (hT _ sh ou p d C hp hN hd hC (tp_12 hpre.1) W) kX12_150 (by omega) (Nat.le_of_ble_eq_true rfl) (Nat.zero_add _) (Nat.zero_add _) dX12_held_2 (fun za zh1 zq1 => ?_)
  rcases zq1 with ⟨sh1, ou1, p1, C1, l1, m1, hc1, bits1, e1, rel1, sc1, W⟩ | ⟨b, p', hb, bp', eb, W⟩
  rotate_left
  · skip
    refine xr_is2 dX12_held_5 (by decide) rfl ?_
    refine xr_al0 dX12_held_6 ?_
    refine xr_bipush (v := 60) dX12_held_7 (by decide) ?_
    refine xr_Vpi1 (r_passes Z (by omega) W _) kX12_123 (by omega) (Nat.le_of_ble_eq_true rfl) (Nat.zero_add _) (Nat.zero_add _) dX12_held_9 (fun zv9 zh1 zq1 => ?_)
    rcases zq1 with ⟨yy, -, -⟩ | ⟨-, rfl, W⟩
    · exact absurd yy.1 (nI_m1 (by omega))
    refine xr_ifeq (tgt := 30) dX12_held_12 (by decide) (fun zc12 => ?_) (fun zc12 => ?_)
    · skip
      refine xr_al0 dX12_held_30 ?_
      refine xr_bipush (v := 62) dX12_held_31 (by decide) ?_
      refine xr_Vpi1 (r_passes Z (by omega) W _) kX12_123 (by omega) (Nat.le_of_ble_eq_true rfl) (Nat.zero_add _) (Nat.zero_add _) dX12_held_33 (fun zv33 zh2 zq2 => ?_)
      rcases zq2 with ⟨yy, -, -⟩ | ⟨-, rfl, W⟩
      · exact absurd yy.1 (nI_m1 (by omega))
      refine xr_ifeq (tgt := 54) dX12_held_36 (by decide) (fun zc36 => ?_) (fun zc36 => ?_)
      · skip
        refine xr_al0 dX12_held_54 ?_
        refine xr_bipush (v := 61) dX12_held_55 (by decide) ?_
        refine xr_Vpi1 (r_passes Z (by omega) W _) kX12_123 (by omega) (Nat.le_of_ble_eq_true rfl) (Nat.zero_add _) (Nat.zero_add _) dX12_held_57 (fun zv57 zh3 zq3 => ?_)
        rcases zq3 with ⟨yy, -, -⟩ | ⟨-, rfl, W⟩
        · exact absurd yy.1 (nI_m1 (by omega))
        refine xr_ifeq (tgt := 78) dX12_held_60 (by decide) (fun zc60 => ?_) (fun zc60 => ?_)
        · skip
          refine xr_il2 dX12_held_78 ?_
          refine xr_iret dX12_held_79 rfl ?_
          exact ⟨_, rfl, Or.inr ⟨b, p', hb, bp', eb, W⟩⟩
        · skip
          exact absurd rfl zc60
      · skip
        exact absurd rfl zc36
    · skip
      exact absurd rfl zc12
  have bits1 : ∀ j, j < d + 1 → C1.testBit j = C.testBit j := bits1
  obtain ⟨o1, ev1, f1⟩ := rel1.le (show 1 ≤ 2 by decide)
  refine xr_is2 dX12_held_5 (by decide) rfl ?_
  refine xr_al0 dX12_held_6 ?_
  refine xr_bipush (v := 60) dX12_held_7 (by decide) ?_
  refine xr_Vpi1 (r_passes Z (by omega) W _) kX12_123 (by omega) (Nat.le_of_ble_eq_true rfl) (Nat.zero_add _) (Nat.zero_add _) dX12_held_9 (fun zv9 zh2 zq2 => ?_)
  rcases zq2 with ⟨yy, rfl, W⟩ | ⟨y60, rfl, W⟩
  · skip
    have gy : hrV (u q) p1 tn 40 = 60 := yy.2
    have pl : p1 < min tn 40 := gs_lt (by rw [gy]; decide)
    have hstep := stp_cmp h80 T0 (sh1 := sh1) (ou1 := ou1) (sh := sh) (o1 := o1) (d := d) (C := C1) (by omega) hc1 (by rw [bits1 d (by omega)]; exact hpre.2) gy (by decide) ((f1 1 (by decide) (by decide)).trans (bbk_tp hpre.1 o1))
    have cs := cb_set C1 hc1 d (by omega)
    have hR := e1.trans hstep
    have tp_s : tp ((0 - 60) :: sh) 2 := fun y' t' e' => by
      cases e'
      decide
    refine xr_ifeq (tgt := 30) dX12_held_12 (by decide) (fun zc12 => ?_) (fun zc12 => ?_)
    · skip
      exact absurd zc12 (by decide)
    · skip
      refine xr_il2 dX12_held_15 ?_
      refine xr_al0 dX12_held_16 ?_
      refine xr_il1 dX12_held_17 ?_
      refine xr_Vpi1 (hT _ ((0 - 60) :: sh) o1 (p1 + 1) d (C1 ||| 2 ^ d) (by omega) (by omega) hd cs.2.1 tp_s W) kX12_150 (by omega) (Nat.le_of_ble_eq_true rfl) (Nat.zero_add _) (Nat.zero_add _) dX12_held_18 (fun zo zh1 zq1 => ?_)
      rcases zq1 with ⟨sh3, ou3, p3, C3, l3, m3, hc3, bits3, e3, rel3, sc3, W⟩ | ⟨b, p', hb, bp', eb, W⟩
      rotate_left
      · skip
        refine xr_icmpge (tgt := 28) dX12_held_21 (by decide) (fun zc21 => ?_) (fun zc21 => ?_)
        · skip
          refine xr_ic0 dX12_held_28 ?_
          refine xr_iret dX12_held_29 rfl ?_
          exact ⟨_, rfl, Or.inr ⟨b, p', hb, bp', by rw [hR]; exact eb, W⟩⟩
        · skip
          refine xr_ic1 dX12_held_24 ?_
          refine xr_goto (tgt := 29) dX12_held_25 (by decide) ?_
          refine xr_iret dX12_held_29 rfl ?_
          exact ⟨_, rfl, Or.inr ⟨b, p', hb, bp', by rw [hR]; exact eb, W⟩⟩
      have bits3 : ∀ j, j < d + 1 → C3.testBit j = (C1 ||| 2 ^ d).testBit j := bits3
      refine xr_icmpge (tgt := 28) dX12_held_21 (by decide) (fun zc21 => ?_) (fun zc21 => ?_)
      · skip
        refine xr_ic0 dX12_held_28 ?_
        refine xr_iret dX12_held_29 rfl ?_
        have ej : jo 60 za zo = 0 := bI_f (Int32.not_lt.mpr zc21)
        have rj := Rel_join' (n := 1) (y := 60) ev1 rel3 (by intro k h1 h2; rcases (show k = 1 by omega) with rfl; decide) (by decide) (st_join _ (by decide) _ _ _)
        rw [ej] at rj
        exact ⟨_, rfl, Or.inl ⟨sh3, ou3, p3, C3, by omega, m3, hc3, fun j (hj : j < d) => by rw [bits3 j (by omega), cs.2.2 j (by omega), bits1 j (by omega), decide_eq_false (show ¬ j = d by omega), Bool.false_or], hR.trans e3, rj, sc_cmp sc3 (by rw [bits3 d (by omega), cs.2.2 d (by omega), decide_eq_true rfl, Bool.true_or]), W⟩⟩
      · skip
        refine xr_ic1 dX12_held_24 ?_
        refine xr_goto (tgt := 29) dX12_held_25 (by decide) ?_
        refine xr_iret dX12_held_29 rfl ?_
        have ej : jo 60 za zo = 1 := bI_t (Int32.not_le.mp zc21)
        have rj := Rel_join' (n := 1) (y := 60) ev1 rel3 (by intro k h1 h2; rcases (show k = 1 by omega) with rfl; decide) (by decide) (st_join _ (by decide) _ _ _)
        rw [ej] at rj
        exact ⟨_, rfl, Or.inl ⟨sh3, ou3, p3, C3, by omega, m3, hc3, fun j (hj : j < d) => by rw [bits3 j (by omega), cs.2.2 j (by omega), bits1 j (by omega), decide_eq_false (show ¬ j = d by omega), Bool.false_or], hR.trans e3, rj, sc_cmp sc3 (by rw [bits3 d (by omega), cs.2.2 d (by omega), decide_eq_true rfl, Bool.true_or]), W⟩⟩
  refine xr_ifeq (tgt := 30) dX12_held_12 (by decide) (fun zc12 => ?_) (fun zc12 => ?_)
  · skip
    refine xr_al0 dX12_held_30 ?_
    refine xr_bipush (v := 62) dX12_held_31 (by decide) ?_
    refine xr_Vpi1 (r_passes Z (by omega) W _) kX12_123 (by omega) (Nat.le_of_ble_eq_true rfl) (Nat.zero_add _) (Nat.zero_add _) dX12_held_33 (fun zv33 zh3 zq3 => ?_)
    rcases zq3 with ⟨yy, rfl, W⟩ | ⟨y62, rfl, W⟩
    · skip
      have gy : hrV (u q) p1 tn 40 = 62 := yy.2
      have pl : p1 < min tn 40 := gs_lt (by rw [gy]; decide)
      have hstep := stp_cmp h80 T0 (sh1 := sh1) (ou1 := ou1) (sh := sh) (o1 := o1) (d := d) (C := C1) (by omega) hc1 (by rw [bits1 d (by omega)]; exact hpre.2) gy (by decide) ((f1 1 (by decide) (by decide)).trans (bbk_tp hpre.1 o1))
      have cs := cb_set C1 hc1 d (by omega)
      have hR := e1.trans hstep
      have tp_s : tp ((0 - 62) :: sh) 2 := fun y' t' e' => by
        cases e'
        decide
      refine xr_ifeq (tgt := 54) dX12_held_36 (by decide) (fun zc36 => ?_) (fun zc36 => ?_)
      · skip
        exact absurd zc36 (by decide)
      · skip
        refine xr_il2 dX12_held_39 ?_
        refine xr_al0 dX12_held_40 ?_
        refine xr_il1 dX12_held_41 ?_
        refine xr_Vpi1 (hT _ ((0 - 62) :: sh) o1 (p1 + 1) d (C1 ||| 2 ^ d) (by omega) (by omega) hd cs.2.1 tp_s W) kX12_150 (by omega) (Nat.le_of_ble_eq_true rfl) (Nat.zero_add _) (Nat.zero_add _) dX12_held_42 (fun zo zh1 zq1 => ?_)
        rcases zq1 with ⟨sh3, ou3, p3, C3, l3, m3, hc3, bits3, e3, rel3, sc3, W⟩ | ⟨b, p', hb, bp', eb, W⟩
        rotate_left
        · skip
          refine xr_icmple (tgt := 52) dX12_held_45 (by decide) (fun zc45 => ?_) (fun zc45 => ?_)
          · skip
            refine xr_ic0 dX12_held_52 ?_
            refine xr_iret dX12_held_53 rfl ?_
            exact ⟨_, rfl, Or.inr ⟨b, p', hb, bp', by rw [hR]; exact eb, W⟩⟩
          · skip
            refine xr_ic1 dX12_held_48 ?_
            refine xr_goto (tgt := 53) dX12_held_49 (by decide) ?_
            refine xr_iret dX12_held_53 rfl ?_
            exact ⟨_, rfl, Or.inr ⟨b, p', hb, bp', by rw [hR]; exact eb, W⟩⟩
        have bits3 : ∀ j, j < d + 1 → C3.testBit j = (C1 ||| 2 ^ d).testBit j := bits3
        refine xr_icmple (tgt := 52) dX12_held_45 (by decide) (fun zc45 => ?_) (fun zc45 => ?_)
        · skip
          refine xr_ic0 dX12_held_52 ?_
          refine xr_iret dX12_held_53 rfl ?_
          have ej : jo 62 za zo = 0 := bI_f (Int32.not_lt.mpr zc45)
          have rj := Rel_join' (n := 1) (y := 62) ev1 rel3 (by intro k h1 h2; rcases (show k = 1 by omega) with rfl; decide) (by decide) (st_join _ (by decide) _ _ _)
          rw [ej] at rj
          exact ⟨_, rfl, Or.inl ⟨sh3, ou3, p3, C3, by omega, m3, hc3, fun j (hj : j < d) => by rw [bits3 j (by omega), cs.2.2 j (by omega), bits1 j (by omega), decide_eq_false (show ¬ j = d by omega), Bool.false_or], hR.trans e3, rj, sc_cmp sc3 (by rw [bits3 d (by omega), cs.2.2 d (by omega), decide_eq_true rfl, Bool.true_or]), W⟩⟩
        · skip
          refine xr_ic1 dX12_held_48 ?_
          refine xr_goto (tgt := 53) dX12_held_49 (by decide) ?_
          refine xr_iret dX12_held_53 rfl ?_
          have ej : jo 62 za zo = 1 := bI_t (Int32.not_le.mp zc45)
          have rj := Rel_join' (n := 1) (y := 62) ev1 rel3 (by intro k h1 h2; rcases (show k = 1 by omega) with rfl; decide) (by decide) (st_join _ (by decide) _ _ _)
          rw [ej] at rj
          exact ⟨_, rfl, Or.inl ⟨sh3, ou3, p3, C3, by omega, m3, hc3, fun j (hj : j < d) => by rw [bits3 j (by omega), cs.2.2 j (by omega), bits1 j (by omega), decide_eq_false (show ¬ j = d by omega), Bool.false_or], hR.trans e3, rj, sc_cmp sc3 (by rw [bits3 d (by omega), cs.2.2 d (by omega), decide_eq_true rfl, Bool.true_or]), W⟩⟩
    refine xr_ifeq (tgt := 54) dX12_held_36 (by decide) (fun zc36 => ?_) (fun zc36 => ?_)
    · skip
      refine xr_al0 dX12_held_54 ?_
      refine xr_bipush (v := 61) dX12_held_55 (by decide) ?_
      refine xr_Vpi1 (r_passes Z (by omega) W _) kX12_123 (by omega) (Nat.le_of_ble_eq_true rfl) (Nat.zero_add _) (Nat.zero_add _) dX12_held_57 (fun zv57 zh4 zq4 => ?_)
      rcases zq4 with ⟨yy, rfl, W⟩ | ⟨y61, rfl, W⟩
      · skip
        have gy : hrV (u q) p1 tn 40 = 61 := yy.2
        have pl : p1 < min tn 40 := gs_lt (by rw [gy]; decide)
        have hstep := stp_cmp h80 T0 (sh1 := sh1) (ou1 := ou1) (sh := sh) (o1 := o1) (d := d) (C := C1) (by omega) hc1 (by rw [bits1 d (by omega)]; exact hpre.2) gy (by decide) ((f1 1 (by decide) (by decide)).trans (bbk_tp hpre.1 o1))
        have cs := cb_set C1 hc1 d (by omega)
        have hR := e1.trans hstep
        have tp_s : tp ((0 - 61) :: sh) 2 := fun y' t' e' => by
          cases e'
          decide
        refine xr_ifeq (tgt := 78) dX12_held_60 (by decide) (fun zc60 => ?_) (fun zc60 => ?_)
        · skip
          exact absurd zc60 (by decide)
        · skip
          refine xr_il2 dX12_held_63 ?_
          refine xr_al0 dX12_held_64 ?_
          refine xr_il1 dX12_held_65 ?_
          refine xr_Vpi1 (hT _ ((0 - 61) :: sh) o1 (p1 + 1) d (C1 ||| 2 ^ d) (by omega) (by omega) hd cs.2.1 tp_s W) kX12_150 (by omega) (Nat.le_of_ble_eq_true rfl) (Nat.zero_add _) (Nat.zero_add _) dX12_held_66 (fun zo zh1 zq1 => ?_)
          rcases zq1 with ⟨sh3, ou3, p3, C3, l3, m3, hc3, bits3, e3, rel3, sc3, W⟩ | ⟨b, p', hb, bp', eb, W⟩
          rotate_left
          · skip
            refine xr_icmpne (tgt := 76) dX12_held_69 (by decide) (fun zc69 => ?_) (fun zc69 => ?_)
            · skip
              refine xr_ic0 dX12_held_76 ?_
              refine xr_iret dX12_held_77 rfl ?_
              exact ⟨_, rfl, Or.inr ⟨b, p', hb, bp', by rw [hR]; exact eb, W⟩⟩
            · skip
              refine xr_ic1 dX12_held_72 ?_
              refine xr_goto (tgt := 77) dX12_held_73 (by decide) ?_
              refine xr_iret dX12_held_77 rfl ?_
              exact ⟨_, rfl, Or.inr ⟨b, p', hb, bp', by rw [hR]; exact eb, W⟩⟩
          have bits3 : ∀ j, j < d + 1 → C3.testBit j = (C1 ||| 2 ^ d).testBit j := bits3
          refine xr_icmpne (tgt := 76) dX12_held_69 (by decide) (fun zc69 => ?_) (fun zc69 => ?_)
          · skip
            refine xr_ic0 dX12_held_76 ?_
            refine xr_iret dX12_held_77 rfl ?_
            have ej : jo 61 za zo = 0 := bI_f zc69
            have rj := Rel_join' (n := 1) (y := 61) ev1 rel3 (by intro k h1 h2; rcases (show k = 1 by omega) with rfl; decide) (by decide) (st_join _ (by decide) _ _ _)
            rw [ej] at rj
            exact ⟨_, rfl, Or.inl ⟨sh3, ou3, p3, C3, by omega, m3, hc3, fun j (hj : j < d) => by rw [bits3 j (by omega), cs.2.2 j (by omega), bits1 j (by omega), decide_eq_false (show ¬ j = d by omega), Bool.false_or], hR.trans e3, rj, sc_cmp sc3 (by rw [bits3 d (by omega), cs.2.2 d (by omega), decide_eq_true rfl, Bool.true_or]), W⟩⟩
          · skip
            refine xr_ic1 dX12_held_72 ?_
            refine xr_goto (tgt := 77) dX12_held_73 (by decide) ?_
            refine xr_iret dX12_held_77 rfl ?_
            have ej : jo 61 za zo = 1 := bI_t zc69
            have rj := Rel_join' (n := 1) (y := 61) ev1 rel3 (by intro k h1 h2; rcases (show k = 1 by omega) with rfl; decide) (by decide) (st_join _ (by decide) _ _ _)
            rw [ej] at rj
            exact ⟨_, rfl, Or.inl ⟨sh3, ou3, p3, C3, by omega, m3, hc3, fun j (hj : j < d) => by rw [bits3 j (by omega), cs.2.2 j (by omega), bits1 j (by omega), decide_eq_false (show ¬ j = d by omega), Bool.false_or], hR.trans e3, rj, sc_cmp sc3 (by rw [bits3 d (by omega), cs.2.2 d (by omega), decide_eq_true rfl, Bool.true_or]), W⟩⟩
      refine xr_ifeq (tgt := 78) dX12_held_60 (by decide) (fun zc60 => ?_) (fun zc60 => ?_)
      · skip
        refine xr_il2 dX12_held_78 ?_
        refine xr_iret dX12_held_79 rfl ?_
        exact ⟨_, rfl, Or.inl ⟨sh1, ou1, p1, C1, l1, m1, hc1, fun j (hj : j < d) => bits1 j (by omega), e1, ⟨o1, ev1, f1⟩, Or.inl (jn_sc sc1 (fun z => y60 ⟨rfl, z⟩) (fun z => y62 ⟨rfl, z⟩) (fun z => y61 ⟨rfl, z⟩)), W⟩⟩
      · skip
        exact absurd rfl zc60
    · skip
      exact absurd rfl zc36
  · skip
    exact absurd rfl zc12
