/-! The model: going out, changing, laying (written by wip/whole/mod2.py) -/
def mzN (F : xs) (s c : Nat) : Nat → xs
  | 0 => F
  | r + 1 => upd (mzN F s c r) (5 * s + (c + r)) 0
theorem mzN_s (F : xs) (s c r : Nat) : mzN F s c (r + 1) = upd (mzN F s c r) (5 * s + (c + r)) 0 := rfl
theorem mzN_hi (F : xs) {s c : Nat} (hs : s < 2) : ∀ r, c + r ≤ 5 → ∀ i, 10 ≤ i → mzN F s c r i = F i := by
  intro r
  induction r with
  | zero => intro _ i _; rfl
  | succ r ih =>
    intro h i hi
    rw [mzN_s, upd_hi _ _ (by omega)]
    exact ih (by omega) i hi
def mOut (f : xs) (s : Nat) (g : Int32) : xs := upd (mzN (tk f s g (ln f s)).1 s (tk f s g (ln f s)).2 (ln f s - (tk f s g (ln f s)).2)) (10 + s) (nI (tk f s g (ln f s)).2)
theorem tk_s (f : xs) (s : Nat) (g : Int32) (k : Nat) : tk f s g (k + 1) = if (g >>> (nI k &&& 31) &&& 1) = 0 then (upd (tk f s g k).1 (5 * s + (tk f s g k).2) ((tk f s g k).1 (5 * s + k)), (tk f s g k).2 + 1) else tk f s g k := rfl
set_option maxRecDepth 20000 in
theorem lp_mOut2 {K : xK} {B : Nat} {l : Launch} {h : xH} {a : Nat} {F : xs} {s : Nat} (hs : s < 2) (g : Int32) {n c : Nat} (hn : n ≤ 5) (hc : c ≤ n) (hF : F (10 + s) = nI n) : ∀ (r q : Nat), c + q + r = n → xT K B l 1 RX12 false cX12_goOut 5 none 0 0 0 0 (xQv (xup h a (iA K 19 (upd (mzN F s c (q + r)) (10 + s) (nI c))))) 55 [some (.ref a), some (.int (nI s)), some (.int g), some (.int (nI c)), some (.int (nI (c + q)))] [] (xup h a (iA K 19 (mzN F s c q))) := by
  intro r
  induction r with
  | zero =>
    intro q hk
    have H1 := xup_eq h a (iA K 19 (mzN F s c q))
    refine xr_il4 dX12_goOut_55 ?_
    refine xr_al0 dX12_goOut_57 ?_
    refine xr_bipush (v := 10) dX12_goOut_58 (by decide) ?_
    refine xr_il1 dX12_goOut_60 ?_
    refine xr_iadd dX12_goOut_61 ?_
    refine xr_eqi (y := nI (10 + s)) (nI_add 10 s) ?_
    refine xr_iald H1 (xix_nI (n := 19) (j := 10 + s) (by omega) (by decide)) dX12_goOut_62 ?_
    refine xr_eqi (y := nI n) ((mzN_hi F hs q (by omega) (10 + s) (by omega)).trans hF) ?_
    refine xr_icmpge (tgt := 81) dX12_goOut_63 (by decide) (fun zc63 => ?_) (fun zc63 => ?_)
    · skip
      refine xr_al0 dX12_goOut_81 ?_
      refine xr_bipush (v := 10) dX12_goOut_82 (by decide) ?_
      refine xr_il1 dX12_goOut_84 ?_
      refine xr_iadd dX12_goOut_85 ?_
      refine xr_eqi (y := nI (10 + s)) (nI_add 10 s) ?_
      refine xr_il3 dX12_goOut_86 ?_
      refine xr_iast H1 (xix_nI (n := 19) (j := 10 + s) (by omega) (by decide)) dX12_goOut_87 ?_
      refine xT.nm (fun zh1 zg1 => ?_)
      have H1 := xg_eq zg1
      refine xr_vret dX12_goOut_88 rfl ?_
      exact ⟨rfl, by rw [zg1, xup_xup]; rfl⟩
    · skip
      exact absurd (nI_le (a := n) (by omega) (by omega)) zc63
  | succ r ih =>
    intro q hk
    have H1 := xup_eq h a (iA K 19 (mzN F s c q))
    refine xr_il4 dX12_goOut_55 ?_
    refine xr_al0 dX12_goOut_57 ?_
    refine xr_bipush (v := 10) dX12_goOut_58 (by decide) ?_
    refine xr_il1 dX12_goOut_60 ?_
    refine xr_iadd dX12_goOut_61 ?_
    refine xr_eqi (y := nI (10 + s)) (nI_add 10 s) ?_
    refine xr_iald H1 (xix_nI (n := 19) (j := 10 + s) (by omega) (by decide)) dX12_goOut_62 ?_
    refine xr_eqi (y := nI n) ((mzN_hi F hs q (by omega) (10 + s) (by omega)).trans hF) ?_
    refine xr_icmpge (tgt := 81) dX12_goOut_63 (by decide) (fun zc63 => ?_) (fun zc63 => ?_)
    · skip
      exact absurd zc63 (nI_ge (by omega) (by omega))
    · skip
      refine xr_al0 dX12_goOut_66 ?_
      refine xr_ic5 dX12_goOut_67 ?_
      refine xr_il1 dX12_goOut_68 ?_
      refine xr_imul dX12_goOut_69 ?_
      refine xr_eqi (y := nI (5 * s)) (pk_mul 5 s) ?_
      refine xr_il4 dX12_goOut_70 ?_
      refine xr_iadd dX12_goOut_72 ?_
      refine xr_eqi (y := nI (5 * s + (c + q))) (nI_add _ _) ?_
      refine xr_ic0 dX12_goOut_73 ?_
      refine xr_iast H1 (xix_nI (n := 19) (j := 5 * s + (c + q)) (by omega) (by decide)) dX12_goOut_74 ?_
      refine xT.nm (fun zh1 zg1 => ?_)
      have H1 := xg_eq zg1
      refine xr_inc4 dX12_goOut_75 (nI_inc (c + q)) (by decide) rfl ?_
      refine xr_goto (tgt := 55) dX12_goOut_78 (by decide) ?_
      rw [zg1, xup_xup]
      have hi := ih (q + 1) (by omega)
      rw [mzN_s, show q + 1 + r = q + (r + 1) by omega] at hi
      exact hi
set_option maxRecDepth 20000 in
theorem lp_mOut1 {K : xK} {B : Nat} {l : Launch} {h : xH} {a : Nat} {f : xs} (H : h.2 a = some (iA K 19 f)) (ok : hOk f) {s : Nat} (hs : s < 2) (g : Int32) : ∀ (r k : Nat), k + r = ln f s → xT K B l 1 RX12 false cX12_goOut 5 none 0 0 0 0 (xQv (xup h a (iA K 19 (mOut f s g)))) 5 [some (.ref a), some (.int (nI s)), some (.int g), some (.int (nI (tk f s g k).2)), some (.int (nI k))] [] (xup h a (iA K 19 (tk f s g k).1)) := by
  have h5 := (hOk_at ok hs).2
  have t5 := tk_le f s g (ln f s)
  intro r
  induction r with
  | zero =>
    intro k hk
    have hk' : k = ln f s := hk
    have H1 := xup_eq h a (iA K 19 (tk f s g k).1)
    refine xr_il4 dX12_goOut_5 ?_
    refine xr_al0 dX12_goOut_7 ?_
    refine xr_bipush (v := 10) dX12_goOut_8 (by decide) ?_
    refine xr_il1 dX12_goOut_10 ?_
    refine xr_iadd dX12_goOut_11 ?_
    refine xr_eqi (y := nI (10 + s)) (nI_add 10 s) ?_
    refine xr_iald H1 (xix_nI (n := 19) (j := 10 + s) (by omega) (by decide)) dX12_goOut_12 ?_
    refine xr_eqi (y := nI (ln f s)) ((tk_hi f g hs (by omega) (i := 10 + s) (by omega)).trans (hOk_at ok hs).1) ?_
    refine xr_icmpge (tgt := 52) dX12_goOut_13 (by decide) (fun zc13 => ?_) (fun zc13 => ?_)
    · skip
      refine xr_il3 dX12_goOut_52 ?_
      refine xr_is4 dX12_goOut_53 (by decide) rfl ?_
      subst hk'
      have hi := lp_mOut2 (K := K) (B := B) (l := l) (h := h) (a := a) hs g h5 t5 ((tk_hi f g hs h5 (i := 10 + s) (by omega)).trans (hOk_at ok hs).1) (ln f s - (tk f s g (ln f s)).2) 0 (by omega)
      rw [Nat.zero_add] at hi
      exact hi
    · skip
      exact absurd (nI_le (a := ln f s) (by omega) (by omega)) zc13
  | succ r ih =>
    intro k hk
    have tk5 := tk_le f s g k
    have H1 := xup_eq h a (iA K 19 (tk f s g k).1)
    refine xr_il4 dX12_goOut_5 ?_
    refine xr_al0 dX12_goOut_7 ?_
    refine xr_bipush (v := 10) dX12_goOut_8 (by decide) ?_
    refine xr_il1 dX12_goOut_10 ?_
    refine xr_iadd dX12_goOut_11 ?_
    refine xr_eqi (y := nI (10 + s)) (nI_add 10 s) ?_
    refine xr_iald H1 (xix_nI (n := 19) (j := 10 + s) (by omega) (by decide)) dX12_goOut_12 ?_
    refine xr_eqi (y := nI (ln f s)) ((tk_hi f g hs (by omega) (i := 10 + s) (by omega)).trans (hOk_at ok hs).1) ?_
    refine xr_icmpge (tgt := 52) dX12_goOut_13 (by decide) (fun zc13 => ?_) (fun zc13 => ?_)
    · skip
      exact absurd zc13 (nI_ge (by omega) (by omega))
    · skip
      refine xr_il2 dX12_goOut_16 ?_
      refine xr_il4 dX12_goOut_17 ?_
      refine xr_Si2 (s_mHas _ _) kX12_183 (by decide) (Nat.le_of_ble_eq_true rfl) (Nat.zero_add _) (Nat.zero_add _) dX12_goOut_19 ?_
      refine xr_ifeq (tgt := 28) dX12_goOut_22 (by decide) (fun zc22 => ?_) (fun zc22 => ?_)
      · skip
        refine xr_al0 dX12_goOut_28 ?_
        refine xr_ic5 dX12_goOut_29 ?_
        refine xr_il1 dX12_goOut_30 ?_
        refine xr_imul dX12_goOut_31 ?_
        refine xr_eqi (y := nI (5 * s)) (pk_mul 5 s) ?_
        refine xr_il3 dX12_goOut_32 ?_
        refine xr_iadd dX12_goOut_33 ?_
        refine xr_eqi (y := nI (5 * s + (tk f s g k).2)) (nI_add _ _) ?_
        refine xr_al0 dX12_goOut_34 ?_
        refine xr_ic5 dX12_goOut_35 ?_
        refine xr_il1 dX12_goOut_36 ?_
        refine xr_imul dX12_goOut_37 ?_
        refine xr_eqi (y := nI (5 * s)) (pk_mul 5 s) ?_
        refine xr_il4 dX12_goOut_38 ?_
        refine xr_iadd dX12_goOut_40 ?_
        refine xr_eqi (y := nI (5 * s + k)) (nI_add _ _) ?_
        refine xr_iald H1 (xix_nI (n := 19) (j := 5 * s + k) (by omega) (by decide)) dX12_goOut_41 ?_
        refine xr_iast H1 (xix_nI (n := 19) (j := 5 * s + (tk f s g k).2) (by omega) (by decide)) dX12_goOut_42 ?_
        refine xT.nm (fun zh1 zg1 => ?_)
        have H1 := xg_eq zg1
        refine xr_inc3 dX12_goOut_43 (nI_inc _) (by decide) rfl ?_
        refine xr_inc4 dX12_goOut_46 (nI_inc k) (by decide) rfl ?_
        refine xr_goto (tgt := 5) dX12_goOut_49 (by decide) ?_
        rw [zg1, xup_xup]
        have hi := ih (k + 1) (by omega)
        rw [tk_s, if_pos ((and1 _).resolve_right (bI_0.mp zc22))] at hi
        exact hi
      · skip
        refine xr_goto (tgt := 46) dX12_goOut_25 (by decide) ?_
        refine xr_inc4 dX12_goOut_46 (nI_inc k) (by decide) rfl ?_
        refine xr_goto (tgt := 5) dX12_goOut_49 (by decide) ?_
        have hi := ih (k + 1) (by omega)
        rw [tk_s, if_neg (fun q => zc22 (bI_0.mpr (fun z => absurd (q.symm.trans z) (by decide))))] at hi
        exact hi
set_option maxRecDepth 20000 in
theorem s_mOut {K : xK} {B : Nat} {l : Launch} {h : xH} {a : Nat} {f : xs} (H : h.2 a = some (iA K 19 f)) (ok : hOk f) {s : Nat} (hs : s < 2) (g : Int32) : xU K B l 1 mX12_goOut 0 0 [.ref a, .int (nI s), .int g] h (xQv (xup h a (iA K 19 (mOut f s g)))) := by
  refine ⟨qX12_goOut, ?_⟩
  refine xS.intro RX12 false ⟨rfl, rfl, by decide, by decide, Nat.le_of_ble_eq_true rfl⟩ (ls := [some (.ref a), some (.int (nI s)), some (.int g), none, none]) rfl ?_
  refine xr_ic0 dX12_goOut_0 ?_
  refine xr_is3 dX12_goOut_1 (by decide) rfl ?_
  refine xr_ic0 dX12_goOut_2 ?_
  refine xr_is4 dX12_goOut_3 (by decide) rfl ?_
  have hi := lp_mOut1 (B := B) (l := l) H ok hs g (ln f s) 0 (by omega)
  rw [show (tk f s g 0).1 = f from rfl, xup_id H] at hi
  exact hi
set_option maxRecDepth 20000 in
theorem s_mChange {K : xK} {B : Nat} {l : Launch} {h : xH} {a : Nat} {f : xs} (H : h.2 a = some (iA K 19 f)) {i j : Nat} (hi : i < 19) (hj : j < 19) : xU K B l 0 mX12_change 0 0 [.ref a, .int (nI i), .int (nI j)] h (xQv (xup h a (iA K 19 (upd (upd f i (f j)) j (f i))))) := by
  refine ⟨qX12_change, ?_⟩
  refine xS.intro RX12 false ⟨rfl, rfl, by decide, by decide, Nat.le_of_ble_eq_true rfl⟩ (ls := [some (.ref a), some (.int (nI i)), some (.int (nI j)), none]) rfl ?_
  refine xr_al0 dX12_change_0 ?_
  refine xr_il1 dX12_change_1 ?_
  refine xr_iald H (xix_nI hi (by decide)) dX12_change_2 ?_
  refine xr_is3 dX12_change_3 (by decide) rfl ?_
  refine xr_al0 dX12_change_4 ?_
  refine xr_il1 dX12_change_5 ?_
  refine xr_al0 dX12_change_6 ?_
  refine xr_il2 dX12_change_7 ?_
  refine xr_iald H (xix_nI hj (by decide)) dX12_change_8 ?_
  refine xr_iast H (xix_nI hi (by decide)) dX12_change_9 ?_
  refine xT.nm (fun zh1 zg1 => ?_)
  have H := xg_eq zg1
  refine xr_al0 dX12_change_10 ?_
  refine xr_il2 dX12_change_11 ?_
  refine xr_il3 dX12_change_12 ?_
  refine xr_iast H (xix_nI hj (by decide)) dX12_change_13 ?_
  refine xT.nm (fun zh2 zg2 => ?_)
  have H := xg_eq zg2
  refine xr_vret dX12_change_14 rfl ?_
  exact ⟨rfl, by rw [zg2, zg1, xup_xup]⟩
def lyK (u f : xs) (k i : Nat) : xs := fun j => if k ≤ j ∧ j < k + i then f (j - k) else u j
theorem lyK_0 (u f : xs) (k : Nat) : lyK u f k 0 = u := by
  funext j
  unfold lyK
  rw [if_neg (by omega)]
theorem lyK_s (u f : xs) (k i : Nat) : upd (lyK u f k i) (k + i) (f i) = lyK u f k (i + 1) := by
  funext j
  unfold lyK
  by_cases e : j = k + i
  · subst e
    rw [pk_us, if_pos (by omega)]
    congr 1
    omega
  · rw [upd_hi _ _ e]
    by_cases q : k ≤ j ∧ j < k + i
    · rw [if_pos q, if_pos (by omega)]
    · rw [if_neg q, if_neg (by omega)]
set_option maxRecDepth 20000 in
theorem lp_mLay {K : xK} {B : Nat} {l : Launch} {h : xH} {a b N k : Nat} {f u : xs} (H : h.2 a = some (iA K 19 f)) (G : h.2 b = some (iA K N u)) (ab : a ≠ b) (hk : k + 19 ≤ N) (hN : N < 10000) : ∀ (r i : Nat), i + r = 19 → xT K B l 0 RX12 false cX12_lay 4 none 0 0 0 0 (xQv (xup h b (iA K N (lyK u f k 19)))) 2 [some (.ref a), some (.ref b), some (.int (nI k)), some (.int (nI i))] [] (xup h b (iA K N (lyK u f k i))) := by
  intro r
  induction r with
  | zero =>
    intro i hr
    have H1 := (xup_ne h (iA K N (lyK u f k i)) ab).trans H
    have G1 := xup_eq h b (iA K N (lyK u f k i))
    refine xr_il3 dX12_lay_2 ?_
    refine xr_bipush (v := 19) dX12_lay_3 (by decide) ?_
    refine xr_icmpge (tgt := 22) dX12_lay_5 (by decide) (fun zc5 => ?_) (fun zc5 => ?_)
    · skip
      refine xr_vret dX12_lay_22 rfl ?_
      have e : i = 19 := hr
      subst e
      exact ⟨rfl, rfl⟩
    · skip
      exact absurd (nI_le (a := 19) (by omega) (by omega)) zc5
  | succ r ih =>
    intro i hr
    have H1 := (xup_ne h (iA K N (lyK u f k i)) ab).trans H
    have G1 := xup_eq h b (iA K N (lyK u f k i))
    refine xr_il3 dX12_lay_2 ?_
    refine xr_bipush (v := 19) dX12_lay_3 (by decide) ?_
    refine xr_icmpge (tgt := 22) dX12_lay_5 (by decide) (fun zc5 => ?_) (fun zc5 => ?_)
    · skip
      exact absurd zc5 (nI_ge (b := 19) (by omega) (by decide))
    · skip
      refine xr_al1 dX12_lay_8 ?_
      refine xr_il2 dX12_lay_9 ?_
      refine xr_il3 dX12_lay_10 ?_
      refine xr_iadd dX12_lay_11 ?_
      refine xr_eqi (y := nI (k + i)) (nI_add _ _) ?_
      refine xr_al0 dX12_lay_12 ?_
      refine xr_il3 dX12_lay_13 ?_
      refine xr_iald H1 (xix_nI (n := 19) (j := i) (by omega) (by decide)) dX12_lay_14 ?_
      refine xr_iast G1 (xix_nI (n := N) (j := k + i) (by omega) (by omega)) dX12_lay_15 ?_
      refine xT.nm (fun zh1 zg1 => ?_)
      have H1 := xg_ne zg1 (by omega) H1
      have G1 := xg_eq zg1
      refine xr_inc3 dX12_lay_16 (nI_inc i) (by decide) rfl ?_
      refine xr_goto (tgt := 2) dX12_lay_19 (by decide) ?_
      rw [zg1, xup_xup, lyK_s]
      exact ih (i + 1) (by omega)
set_option maxRecDepth 20000 in
theorem s_mLay {K : xK} {B : Nat} {l : Launch} {h : xH} {a b N k : Nat} {f u : xs} (H : h.2 a = some (iA K 19 f)) (G : h.2 b = some (iA K N u)) (ab : a ≠ b) (hk : k + 19 ≤ N) (hN : N < 10000) : xU K B l 0 mX12_lay 0 0 [.ref a, .ref b, .int (nI k)] h (xQv (xup h b (iA K N (lyK u f k 19)))) := by
  refine ⟨qX12_lay, ?_⟩
  refine xS.intro RX12 false ⟨rfl, rfl, by decide, by decide, Nat.le_of_ble_eq_true rfl⟩ (ls := [some (.ref a), some (.ref b), some (.int (nI k)), none]) rfl ?_
  refine xr_ic0 dX12_lay_0 ?_
  refine xr_is3 dX12_lay_1 (by decide) rfl ?_
  have hi := lp_mLay (B := B) (l := l) H G ab hk hN 19 0 (by omega)
  rw [lyK_0, xup_id G] at hi
  exact hi
def mbN (x y v : Int32) : Nat → Nat → Int32
  | 0, _ => 1
  | r + 1, k => if mGet (nI k) y v ≤ mGet x y v then mbN x y v r (k + 1) else 0
theorem mbN_s (x y v : Int32) (r k : Nat) : mbN x y v (r + 1) k = if mGet (nI k) y v ≤ mGet x y v then mbN x y v r (k + 1) else 0 := rfl
set_option maxRecDepth 20000 in
theorem lp_mBest {K : xK} {B : Nat} {l : Launch} {h : xH} (x y v : Int32) : ∀ (r k : Nat), k + r = 10 → xT K B l 1 RX12 false cX12_isBest 4 (some .boolean) 0 0 0 0 (xQi (mbN x y v r k) h) 2 [some (.int x), some (.int y), some (.int v), some (.int (nI k))] [] h := by
  intro r
  induction r with
  | zero =>
    intro k hk
    refine xr_il3 dX12_isBest_2 ?_
    refine xr_bipush (v := 9) dX12_isBest_3 (by decide) ?_
    refine xr_icmpgt (tgt := 31) dX12_isBest_5 (by decide) (fun zc5 => ?_) (fun zc5 => ?_)
    · skip
      refine xr_ic1 dX12_isBest_31 ?_
      refine xr_zret dX12_isBest_32 rfl (by first | rfl | decide | assumption) ?_
      exact ⟨rfl, rfl⟩
    · skip
      exact absurd (nI_lt (a := 9) (by omega) (by omega)) zc5
  | succ r ih =>
    intro k hk
    refine xr_il3 dX12_isBest_2 ?_
    refine xr_bipush (v := 9) dX12_isBest_3 (by decide) ?_
    refine xr_icmpgt (tgt := 31) dX12_isBest_5 (by decide) (fun zc5 => ?_) (fun zc5 => ?_)
    · skip
      exact absurd zc5 (Int32.not_lt.mpr (nI_le (b := 9) (by omega) (by decide)))
    · skip
      refine xr_il3 dX12_isBest_8 ?_
      refine xr_il1 dX12_isBest_9 ?_
      refine xr_il2 dX12_isBest_10 ?_
      refine xr_Si3 (s_mGets _ _ _) kX12_367 (by decide) (Nat.le_of_ble_eq_true rfl) (Nat.zero_add _) (Nat.zero_add _) dX12_isBest_11 ?_
      refine xr_il0 dX12_isBest_14 ?_
      refine xr_il1 dX12_isBest_15 ?_
      refine xr_il2 dX12_isBest_16 ?_
      refine xr_Si3 (s_mGets _ _ _) kX12_367 (by decide) (Nat.le_of_ble_eq_true rfl) (Nat.zero_add _) (Nat.zero_add _) dX12_isBest_17 ?_
      refine xr_icmple (tgt := 25) dX12_isBest_20 (by decide) (fun zc20 => ?_) (fun zc20 => ?_)
      · skip
        refine xr_inc3 dX12_isBest_25 (nI_inc k) (by decide) rfl ?_
        refine xr_goto (tgt := 2) dX12_isBest_28 (by decide) ?_
        rw [mbN_s, if_pos zc20]
        exact ih (k + 1) (by omega)
      · skip
        refine xr_ic0 dX12_isBest_23 ?_
        refine xr_zret dX12_isBest_24 rfl (by first | rfl | decide | assumption) ?_
        exact ⟨by rw [mbN_s, if_neg zc20], rfl⟩
set_option maxRecDepth 20000 in
theorem s_mBest {K : xK} {B : Nat} {l : Launch} {h : xH} (x y v : Int32) : xU K B l 1 mX12_isBest 0 0 [.int x, .int y, .int v] h (xQi (mbN x y v 10 0) h) := by
  refine ⟨qX12_isBest, ?_⟩
  refine xS.intro RX12 false ⟨rfl, rfl, by decide, by decide, Nat.le_of_ble_eq_true rfl⟩ (ls := [some (.int x), some (.int y), some (.int v), none]) rfl ?_
  refine xr_ic0 dX12_isBest_0 ?_
  refine xr_is3 dX12_isBest_1 (by decide) rfl ?_
  exact lp_mBest x y v 10 0 (by omega)
