def remI (x y : Int32) : Int32 := x - x / y * y
theorem xHill.fr {K : xK} {h g : xH} {b : Nat} {σ : xs} (H : xHill K h b σ) (hg : ∀ c, b ≤ c → c < b + 3 → g.2 c = h.2 c) : xHill K g b σ :=
  ⟨(hg b (by omega) (by omega)).trans H.1, (hg _ (by omega) (by omega)).trans H.2.1, (hg _ (by omega) (by omega)).trans H.2.2⟩
def cp {α : Type} (f u : Nat → α) (k : Nat) : Nat → α := fun j => if j < k then u j else f j
theorem cp_0 {α : Type} (f u : Nat → α) : cp f u 0 = f := by
  funext j
  unfold cp
  rw [if_neg (by omega)]
theorem cp_s (f u : Nat → Int32) (k : Nat) : upd (cp f u k) k (u k) = cp f u (k + 1) := by
  funext j
  unfold cp
  by_cases e : j = k
  · subst e
    rw [pk_us, if_pos (by omega)]
  · rw [upd_hi _ _ e]
    by_cases h : j < k
    · rw [if_pos h, if_pos (by omega)]
    · rw [if_neg h, if_neg (by omega)]
theorem cp_lt {α : Type} (f u : Nat → α) {k j : Nat} (h : j < k) : cp f u k j = u j := if_pos h
theorem P3_xup_e (h : xH) (a : Nat) (o e f e' : va_E) : xup (P3 h a o e f) (a + 1) e' = P3 h a o e' f := by
  rw [P3_e (P3_at h a o e f), P3_P3]
theorem P3_xup_f (h : xH) (a : Nat) (o e f f' : va_E) : xup (P3 h a o e f) (a + 2) f' = P3 h a o e f' := by
  rw [P3_f (P3_at h a o e f), P3_P3]
theorem P3_xup_o (h : xH) (a : Nat) (o e f o' : va_E) : xup (P3 h a o e f) a o' = P3 h a o' e f := by
  rw [P3_o (P3_at h a o e f), P3_P3]
theorem xEq_P3 {h : xH} {a : Nat} {o e f e' f' : va_E} (c1 : xcong e e') (c2 : xcong f f') : xEq (P3 h a o e f) (P3 h a o e' f') := by
  refine xEq.of rfl (fun b z hb => ?_)
  by_cases h0 : b = a
  · subst h0
    rw [(P3_at h b o e' f').1] at hb
    exact ⟨z, (P3_at h b o e f).1.trans hb, xcong.rf _⟩
  · by_cases h1 : b = a + 1
    · subst h1
      rw [(P3_at h a o e' f').2.1] at hb
      cases hb
      exact ⟨_, (P3_at h a o e f).2.1, c1⟩
    · by_cases h2 : b = a + 2
      · subst h2
        rw [(P3_at h a o e' f').2.2] at hb
        cases hb
        exact ⟨_, (P3_at h a o e f).2.2, c2⟩
      · rw [P3_ne _ _ _ _ h0 h1 h2] at hb
        exact ⟨z, (P3_ne _ _ _ _ h0 h1 h2).trans hb, xcong.rf _⟩
theorem xHill.P3 {K : xK} {h : xH} {b a : Nat} {σ : xs} (H : xHill K h b σ) (dj : a + 3 ≤ b ∨ b + 3 ≤ a) (o e f : va_E) : xHill K (P3 h a o e f) b σ := H.fr (fun c _ _ => P3_ne _ _ _ _ (by omega) (by omega) (by omega))
set_option maxRecDepth 20000 in
theorem s_siSize {K : xK} {B : Nat} {l : Launch} {h : xH} {a : Nat} {f g : Nat → Int32} {n : Int32} (H : X3 h a (siO a n) (iA K 10 f) (zA K 10 g)) : xV K B l 0 mX9_size 0 0 (a) [] h (xQi n h) := by
  obtain ⟨o0, o1, o2⟩ := id H
  refine ⟨⟨_, _, _, _, H.1, rfl⟩, qX9_size, ?_⟩
  refine xS.intro RX9 false ⟨rfl, rfl, by decide, by decide, Nat.le_of_ble_eq_true rfl⟩ (ls := [some (.ref a)]) rfl ?_
  refine xr_al0 dX9_size_0 ?_
  refine xr_get o0 fX9_17 rfl dX9_size_1 ?_
  refine xr_iret dX9_size_4 rfl ?_
  exact ⟨rfl, rfl⟩
set_option maxRecDepth 20000 in
theorem s_siAdd {K : xK} {B : Nat} {l : Launch} {h : xH} {a : Nat} {f g : Nat → Int32} {n : Nat} (H : X3 h a (siO a (nI n)) (iA K 10 f) (zA K 10 g)) (hn : n ≤ 10) (x y : Int32) : xV K B l 0 mX9_add 0 0 (a) [.int x, .int y] h (xQi (bI (n < 10)) (if n < 10 then P3 h a (siO a (nI (n + 1))) (iA K 10 (upd f n x)) (zA K 10 (upd g n (vp_nar .boolean y))) else h)) := by
  obtain ⟨o0, o1, o2⟩ := id H
  refine ⟨⟨_, _, _, _, H.1, rfl⟩, qX9_add, ?_⟩
  refine xS.intro RX9 false ⟨rfl, rfl, by decide, by decide, Nat.le_of_ble_eq_true rfl⟩ (ls := [some (.ref a), some (.int x), some (.int y)]) rfl ?_
  refine xr_al0 dX9_add_0 ?_
  refine xr_get o0 fX9_17 rfl dX9_add_1 ?_
  refine xr_bipush (v := 10) dX9_add_4 (by decide) ?_
  refine xr_icmplt (tgt := 11) dX9_add_6 (by decide) (fun zc6 => ?_) (fun zc6 => ?_)
  · skip
    have h12 : n < 10 := (nI_ltI (by omega) (by decide)).mp zc6
    refine xr_al0 dX9_add_11 ?_
    refine xr_get o0 fX9_9 rfl dX9_add_12 ?_
    refine xr_al0 dX9_add_15 ?_
    refine xr_get o0 fX9_17 rfl dX9_add_16 ?_
    refine xr_il1 dX9_add_19 ?_
    refine xr_iast o1 (xix_nI h12 (by decide)) dX9_add_20 ?_
    refine xT.nm (fun zh1 zg1 => ?_)
    have o0 := xg_ne zg1 (by omega) o0
    have o1 := xg_eq zg1
    have o2 := xg_ne zg1 (by omega) o2
    refine xr_al0 dX9_add_21 ?_
    refine xr_get o0 fX9_13 rfl dX9_add_22 ?_
    refine xr_al0 dX9_add_25 ?_
    refine xr_get o0 fX9_17 rfl dX9_add_26 ?_
    refine xr_il2 dX9_add_29 ?_
    refine xr_zast o2 (xix_nI h12 (by decide)) dX9_add_30 ?_
    refine xT.nm (fun zh2 zg2 => ?_)
    have o0 := xg_ne zg2 (by omega) o0
    have o1 := xg_ne zg2 (by omega) o1
    have o2 := xg_eq zg2
    refine xr_al0 dX9_add_31 ?_
    refine xr_dup dX9_add_32 rfl ?_
    refine xr_get o0 fX9_17 rfl dX9_add_33 ?_
    refine xr_ic1 dX9_add_36 ?_
    refine xr_iadd dX9_add_37 ?_
    refine xr_eqi (nI_1 n) ?_
    refine xr_put o0 fX9_17 (Nat.le_of_ble_eq_true rfl) rfl rfl dX9_add_38 ?_
    refine xT.nm (fun zh3 zg3 => ?_)
    have o0 := xg_eq zg3
    have o1 := xg_ne zg3 (by omega) o1
    have o2 := xg_ne zg3 (by omega) o2
    refine xr_ic1 dX9_add_41 ?_
    refine xr_zret dX9_add_42 rfl (by first | rfl | decide | assumption) ?_
    exact ⟨by rw [bI_t h12], by rw [if_pos h12, zg3, zg2, zg1]; exact P3_efo _ _ _ _ _⟩
  · skip
    refine xr_ic0 dX9_add_9 ?_
    refine xr_zret dX9_add_10 rfl (by first | rfl | decide | assumption) ?_
    have h12 : ¬ n < 10 := fun q => zc6 (nI_lt q (by decide))
    exact ⟨by rw [bI_f h12], by rw [if_neg h12]⟩
set_option maxRecDepth 20000 in
theorem s_siClear {K : xK} {B : Nat} {l : Launch} {h : xH} {a : Nat} {f g : Nat → Int32} {n : Int32} (H : X3 h a (siO a n) (iA K 10 f) (zA K 10 g)) : xV K B l 0 mX9_clear 0 0 (a) [] h (xQi n (P3 h a (siO a 0) (iA K 10 f) (zA K 10 g))) := by
  obtain ⟨o0, o1, o2⟩ := id H
  refine ⟨⟨_, _, _, _, H.1, rfl⟩, qX9_clear, ?_⟩
  refine xS.intro RX9 false ⟨rfl, rfl, by decide, by decide, Nat.le_of_ble_eq_true rfl⟩ (ls := [some (.ref a), none]) rfl ?_
  refine xr_al0 dX9_clear_0 ?_
  refine xr_get o0 fX9_17 rfl dX9_clear_1 ?_
  refine xr_is1 dX9_clear_4 (by decide) rfl ?_
  refine xr_al0 dX9_clear_5 ?_
  refine xr_ic0 dX9_clear_6 ?_
  refine xr_put o0 fX9_17 (Nat.le_of_ble_eq_true rfl) rfl rfl dX9_clear_7 ?_
  refine xT.nm (fun zh1 zg1 => ?_)
  have o0 := xg_eq zg1
  have o1 := xg_ne zg1 (by omega) o1
  have o2 := xg_ne zg1 (by omega) o2
  refine xr_il1 dX9_clear_10 ?_
  refine xr_iret dX9_clear_11 rfl ?_
  exact ⟨rfl, by rw [zg1]; exact P3_o H _⟩
set_option maxRecDepth 20000 in
theorem s_leastOf {K : xK} {B : Nat} {l : Launch} {h : xH} (x : Int32) : xU K B l 0 mX9_leastOf 0 0 [.int x] h (xQi (x / 8) h) := by
  refine ⟨qX9_leastOf, ?_⟩
  refine xS.intro RX9 false ⟨rfl, rfl, by decide, by decide, Nat.le_of_ble_eq_true rfl⟩ (ls := [some (.int x)]) rfl ?_
  refine xr_il0 dX9_leastOf_0 ?_
  refine xr_bipush (v := 8) dX9_leastOf_1 (by decide) ?_
  refine xr_idiv dX9_leastOf_3 (by decide) ?_
  refine xr_iret dX9_leastOf_4 rfl ?_
  exact ⟨rfl, rfl⟩
set_option maxRecDepth 20000 in
theorem s_greatestOf {K : xK} {B : Nat} {l : Launch} {h : xH} (x : Int32) : xU K B l 0 mX9_greatestOf 0 0 [.int x] h (xQi (5 + remI x 8) h) := by
  refine ⟨qX9_greatestOf, ?_⟩
  refine xS.intro RX9 false ⟨rfl, rfl, by decide, by decide, Nat.le_of_ble_eq_true rfl⟩ (ls := [some (.int x)]) rfl ?_
  refine xr_ic5 dX9_greatestOf_0 ?_
  refine xr_il0 dX9_greatestOf_1 ?_
  refine xr_bipush (v := 8) dX9_greatestOf_2 (by decide) ?_
  refine xr_irem dX9_greatestOf_4 (by decide) ?_
  refine xr_iadd dX9_greatestOf_5 ?_
  refine xr_iret dX9_greatestOf_6 rfl ?_
  exact ⟨rfl, rfl⟩
def ltN (e : Int32) : Nat → Int64
  | 0 => 0
  | k + 1 => if e < nI k / 8 then ltN e k else if 5 + remI (nI k) 8 < e then ltN e k else ltN e k ||| (1 : Int64) <<< ((nI k).toInt64 &&& 63)
def ltr (e : Int32) : Int64 := ltN e 40
set_option maxRecDepth 20000 in
theorem lp_lawsThatRun {K : xK} {B : Nat} {l : Launch} {h : xH} (e : Int32) : ∀ (r k : Nat), k + r = 40 → xT K B l 1 RX9 false cX9_lawsThatRun 4 (some .long) 0 0 0 0 (xQl (ltr e) h) 4 [some (.int e), some (.long (ltN e k)), none, some (.int (nI k))] [] h := by
  intro r
  induction r with
  | zero =>
    intro k hk
    have hk' : k = 40 := hk
    refine xr_il3 dX9_lawsThatRun_4 ?_
    refine xr_bipush (v := 40) dX9_lawsThatRun_5 (by decide) ?_
    refine xr_icmpge (tgt := 38) dX9_lawsThatRun_7 (by decide) (fun zc7 => ?_) (fun zc7 => ?_)
    · skip
      refine xr_ll1 dX9_lawsThatRun_38 ?_
      refine xr_lret dX9_lawsThatRun_39 rfl ?_
      exact ⟨by subst hk'; rfl, rfl⟩
    · skip
      exact absurd (nI_le (a := 40) (by omega) (by omega)) zc7
  | succ r ih =>
    intro k hk
    refine xr_il3 dX9_lawsThatRun_4 ?_
    refine xr_bipush (v := 40) dX9_lawsThatRun_5 (by decide) ?_
    refine xr_icmpge (tgt := 38) dX9_lawsThatRun_7 (by decide) (fun zc7 => ?_) (fun zc7 => ?_)
    · skip
      exact absurd zc7 (nI_ge (b := 40) (by omega) (by decide))
    · skip
      refine xr_il0 dX9_lawsThatRun_10 ?_
      refine xr_il3 dX9_lawsThatRun_11 ?_
      refine xr_Si1 (s_leastOf _) kX9_29 (by decide) (Nat.le_of_ble_eq_true rfl) (Nat.zero_add _) (Nat.zero_add _) dX9_lawsThatRun_12 ?_
      refine xr_icmplt (tgt := 32) dX9_lawsThatRun_15 (by decide) (fun zc15 => ?_) (fun zc15 => ?_)
      · skip
        refine xr_inc3 dX9_lawsThatRun_32 (nI_inc k) (by decide) rfl ?_
        refine xr_goto (tgt := 4) dX9_lawsThatRun_35 (by decide) ?_
        have hi := ih (k + 1) (by omega)
        unfold ltN at hi
        rw [if_pos zc15] at hi
        exact hi
      · skip
        refine xr_il0 dX9_lawsThatRun_18 ?_
        refine xr_il3 dX9_lawsThatRun_19 ?_
        refine xr_Si1 (s_greatestOf _) kX9_33 (by decide) (Nat.le_of_ble_eq_true rfl) (Nat.zero_add _) (Nat.zero_add _) dX9_lawsThatRun_20 ?_
        refine xr_icmpgt (tgt := 32) dX9_lawsThatRun_23 (by decide) (fun zc23 => ?_) (fun zc23 => ?_)
        · skip
          refine xr_inc3 dX9_lawsThatRun_32 (nI_inc k) (by decide) rfl ?_
          refine xr_goto (tgt := 4) dX9_lawsThatRun_35 (by decide) ?_
          have hi := ih (k + 1) (by omega)
          unfold ltN at hi
          rw [if_neg zc15, if_pos zc23] at hi
          exact hi
        · skip
          refine xr_ll1 dX9_lawsThatRun_26 ?_
          refine xr_lc1 dX9_lawsThatRun_27 ?_
          refine xr_il3 dX9_lawsThatRun_28 ?_
          refine xr_lshl dX9_lawsThatRun_29 ?_
          refine xr_lor dX9_lawsThatRun_30 ?_
          refine xr_ls1 dX9_lawsThatRun_31 (by decide) rfl ?_
          refine xr_inc3 dX9_lawsThatRun_32 (nI_inc k) (by decide) rfl ?_
          refine xr_goto (tgt := 4) dX9_lawsThatRun_35 (by decide) ?_
          have hi := ih (k + 1) (by omega)
          unfold ltN at hi
          rw [if_neg zc15, if_neg zc23] at hi
          exact hi
set_option maxRecDepth 20000 in
theorem s_lawsThatRun {K : xK} {B : Nat} {l : Launch} {h : xH} (e : Int32) : xU K B l 1 mX9_lawsThatRun 0 0 [.int e] h (xQl (ltr e) h) := by
  refine ⟨qX9_lawsThatRun, ?_⟩
  refine xS.intro RX9 false ⟨rfl, rfl, by decide, by decide, Nat.le_of_ble_eq_true rfl⟩ (ls := [some (.int e), none, none, none]) rfl ?_
  refine xr_lc0 dX9_lawsThatRun_0 ?_
  refine xr_ls1 dX9_lawsThatRun_1 (by decide) rfl ?_
  refine xr_ic0 dX9_lawsThatRun_2 ?_
  refine xr_is3 dX9_lawsThatRun_3 (by decide) rfl ?_
  exact lp_lawsThatRun e 40 0 rfl
def flN (f g : Nat → Int32) : Nat → Int64
  | 0 => 1099511627775
  | k + 1 => flN f g k &&& (if g k = 0 then ltr (f k) ^^^ (-1) else ltr (f k))
theorem flN_s (f g : Nat → Int32) (k : Nat) : flN f g (k + 1) = flN f g k &&& (if g k = 0 then ltr (f k) ^^^ (-1) else ltr (f k)) := rfl
set_option maxRecDepth 20000 in
theorem lp_fittingLaws {K : xK} {B : Nat} {l : Launch} {h : xH} {a : Nat} {f g : Nat → Int32} {n : Nat} (H : X3 h a (siO a (nI n)) (iA K 10 f) (zA K 10 g)) (hn : n ≤ 10) : ∀ (r k : Nat) (y4 : Option Value), k + r = n → xT K B l 2 RX9 false cX9_fittingLaws 6 (some .long) 0 0 0 0 (xQl (flN f g n) h) 6 [some (.ref a), some (.long (flN f g k)), none, some (.int (nI k)), y4, none] [] h := by
  obtain ⟨o0, o1, o2⟩ := id H
  intro r
  induction r with
  | zero =>
    intro k y4 hk
    have hk' : k = n := hk
    refine xr_il3 dX9_fittingLaws_6 ?_
    refine xr_al0 dX9_fittingLaws_7 ?_
    refine xr_get o0 fX9_17 rfl dX9_fittingLaws_8 ?_
    refine xr_icmpge (tgt := 60) dX9_fittingLaws_11 (by decide) (fun zc11 => ?_) (fun zc11 => ?_)
    · skip
      refine xr_ll1 dX9_fittingLaws_60 ?_
      refine xr_lret dX9_fittingLaws_61 rfl ?_
      exact ⟨by rw [hk'], rfl⟩
    · skip
      exact absurd (nI_le (by omega) (by omega)) zc11
  | succ r ih =>
    intro k y4 hk
    have hk5 : k < 10 := by omega
    refine xr_il3 dX9_fittingLaws_6 ?_
    refine xr_al0 dX9_fittingLaws_7 ?_
    refine xr_get o0 fX9_17 rfl dX9_fittingLaws_8 ?_
    refine xr_icmpge (tgt := 60) dX9_fittingLaws_11 (by decide) (fun zc11 => ?_) (fun zc11 => ?_)
    · skip
      exact absurd zc11 (nI_ge (by omega) (by omega))
    · skip
      refine xr_il3 dX9_fittingLaws_14 ?_
      refine xr_bipush (v := 10) dX9_fittingLaws_15 (by decide) ?_
      refine xr_icmpge (tgt := 60) dX9_fittingLaws_17 (by decide) (fun zc17 => ?_) (fun zc17 => ?_)
      · skip
        exact absurd zc17 (nI_ge (b := 10) (by omega) (by decide))
      · skip
        refine xr_al0 dX9_fittingLaws_20 ?_
        refine xr_get o0 fX9_9 rfl dX9_fittingLaws_21 ?_
        refine xr_il3 dX9_fittingLaws_24 ?_
        refine xr_iald o1 (xix_nI hk5 (by decide)) dX9_fittingLaws_25 ?_
        refine xr_Sl1 (s_lawsThatRun _) kX9_23 (by decide) (Nat.le_of_ble_eq_true rfl) (Nat.zero_add _) (Nat.zero_add _) dX9_fittingLaws_26 ?_
        refine xr_ls4 dX9_fittingLaws_29 (by decide) rfl ?_
        refine xr_ll1 dX9_fittingLaws_31 ?_
        refine xr_al0 dX9_fittingLaws_32 ?_
        refine xr_get o0 fX9_13 rfl dX9_fittingLaws_33 ?_
        refine xr_il3 dX9_fittingLaws_36 ?_
        refine xr_zald o2 (xix_nI hk5 (by decide)) dX9_fittingLaws_37 ?_
        refine xr_ifeq (tgt := 46) dX9_fittingLaws_38 (by decide) (fun zc38 => ?_) (fun zc38 => ?_)
        · skip
          refine xr_ll4 dX9_fittingLaws_46 ?_
          refine xr_ldc2 nX9_27 dX9_fittingLaws_48 ?_
          refine xr_lxor dX9_fittingLaws_51 ?_
          refine xr_land dX9_fittingLaws_52 ?_
          refine xr_ls1 dX9_fittingLaws_53 (by decide) rfl ?_
          refine xr_inc3 dX9_fittingLaws_54 (nI_inc k) (by decide) rfl ?_
          refine xr_goto (tgt := 6) dX9_fittingLaws_57 (by decide) ?_
          have hi := ih (k + 1) (some (.long (ltr (f k)))) (by omega)
          rw [flN_s, if_pos zc38] at hi
          exact hi
        · skip
          refine xr_ll4 dX9_fittingLaws_41 ?_
          refine xr_goto (tgt := 52) dX9_fittingLaws_43 (by decide) ?_
          refine xr_land dX9_fittingLaws_52 ?_
          refine xr_ls1 dX9_fittingLaws_53 (by decide) rfl ?_
          refine xr_inc3 dX9_fittingLaws_54 (nI_inc k) (by decide) rfl ?_
          refine xr_goto (tgt := 6) dX9_fittingLaws_57 (by decide) ?_
          have hi := ih (k + 1) (some (.long (ltr (f k)))) (by omega)
          rw [flN_s, if_neg zc38] at hi
          exact hi
set_option maxRecDepth 20000 in
theorem s_fittingLaws {K : xK} {B : Nat} {l : Launch} {h : xH} {a : Nat} {f g : Nat → Int32} {n : Nat} (H : X3 h a (siO a (nI n)) (iA K 10 f) (zA K 10 g)) (hn : n ≤ 10) : xV K B l 2 mX9_fittingLaws 0 0 (a) [] h (xQl (flN f g n) h) := by
  obtain ⟨o0, o1, o2⟩ := id H
  refine ⟨⟨_, _, _, _, H.1, rfl⟩, qX9_fittingLaws, ?_⟩
  refine xS.intro RX9 false ⟨rfl, rfl, by decide, by decide, Nat.le_of_ble_eq_true rfl⟩ (ls := [some (.ref a), none, none, none, none, none]) rfl ?_
  refine xr_ldc2 nX9_21 dX9_fittingLaws_0 ?_
  refine xr_ls1 dX9_fittingLaws_3 (by decide) rfl ?_
  refine xr_ic0 dX9_fittingLaws_4 ?_
  refine xr_is3 dX9_fittingLaws_5 (by decide) rfl ?_
  exact lp_fittingLaws H hn n 0 none (by omega)
set_option maxRecDepth 20000 in
theorem s_wAbove {K : xK} {B : Nat} {l : Launch} {h : xH} {a : Nat} {u w : Nat → Int32} {x y s g : Int32} (H : X3 h a (grO a x y s g) (iA K 32 u) (iA K 32 w)) {j : Nat} (hj : j < 32) : xV K B l 0 mX1_weightAbove 0 0 (a) [.int (nI j)] h (xQi (u j) h) := by
  obtain ⟨o0, o1, o2⟩ := id H
  refine ⟨⟨_, _, _, _, H.1, rfl⟩, qX1_weightAbove, ?_⟩
  refine xS.intro RX1 false ⟨rfl, rfl, by decide, by decide, Nat.le_of_ble_eq_true rfl⟩ (ls := [some (.ref a), some (.int (nI j))]) rfl ?_
  refine xr_il1 dX1_weightAbove_0 ?_
  refine xr_iflt (tgt := 19) dX1_weightAbove_1 (by decide) (fun zc1 => ?_) (fun zc1 => ?_)
  · skip
    exact absurd zc1 (nI_pos (by omega))
  · skip
    refine xr_il1 dX1_weightAbove_4 ?_
    refine xr_bipush (v := 32) dX1_weightAbove_5 (by decide) ?_
    refine xr_icmpge (tgt := 19) dX1_weightAbove_7 (by decide) (fun zc7 => ?_) (fun zc7 => ?_)
    · skip
      exact absurd zc7 (nI_ge (b := 32) hj (by decide))
    · skip
      refine xr_al0 dX1_weightAbove_10 ?_
      refine xr_get o0 fX1_9 rfl dX1_weightAbove_11 ?_
      refine xr_il1 dX1_weightAbove_14 ?_
      refine xr_iald o1 (xix_nI hj (by decide)) dX1_weightAbove_15 ?_
      refine xr_goto (tgt := 20) dX1_weightAbove_16 (by decide) ?_
      refine xr_iret dX1_weightAbove_20 rfl ?_
      exact ⟨rfl, rfl⟩
set_option maxRecDepth 20000 in
theorem s_wBelow {K : xK} {B : Nat} {l : Launch} {h : xH} {a : Nat} {u w : Nat → Int32} {x y s g : Int32} (H : X3 h a (grO a x y s g) (iA K 32 u) (iA K 32 w)) {j : Nat} (hj : j < 32) : xV K B l 0 mX1_weightBelow 0 0 (a) [.int (nI j)] h (xQi (w j) h) := by
  obtain ⟨o0, o1, o2⟩ := id H
  refine ⟨⟨_, _, _, _, H.1, rfl⟩, qX1_weightBelow, ?_⟩
  refine xS.intro RX1 false ⟨rfl, rfl, by decide, by decide, Nat.le_of_ble_eq_true rfl⟩ (ls := [some (.ref a), some (.int (nI j))]) rfl ?_
  refine xr_il1 dX1_weightBelow_0 ?_
  refine xr_iflt (tgt := 19) dX1_weightBelow_1 (by decide) (fun zc1 => ?_) (fun zc1 => ?_)
  · skip
    exact absurd zc1 (nI_pos (by omega))
  · skip
    refine xr_il1 dX1_weightBelow_4 ?_
    refine xr_bipush (v := 32) dX1_weightBelow_5 (by decide) ?_
    refine xr_icmpge (tgt := 19) dX1_weightBelow_7 (by decide) (fun zc7 => ?_) (fun zc7 => ?_)
    · skip
      exact absurd zc7 (nI_ge (b := 32) hj (by decide))
    · skip
      refine xr_al0 dX1_weightBelow_10 ?_
      refine xr_get o0 fX1_15 rfl dX1_weightBelow_11 ?_
      refine xr_il1 dX1_weightBelow_14 ?_
      refine xr_iald o2 (xix_nI hj (by decide)) dX1_weightBelow_15 ?_
      refine xr_goto (tgt := 20) dX1_weightBelow_16 (by decide) ?_
      refine xr_iret dX1_weightBelow_20 rfl ?_
      exact ⟨rfl, rfl⟩
abbrev grMay (x y s p q : Int32) : Prop := ¬ p ||| q = 0 ∧ p &&& (x ^^^ (-1)) = 0 ∧ q &&& (y ^^^ (-1)) = 0 ∧ ¬ s < bc p ∧ ¬ s < bc q
set_option maxRecDepth 20000 in
theorem s_mayGo {K : xK} {B : Nat} {l : Launch} {h : xH} {a : Nat} {u w : Nat → Int32} {x y s g : Int32} (H : X3 h a (grO a x y s g) (iA K 32 u) (iA K 32 w)) (p q : Int32) : xV K B l 1 mX1_mayGo 0 0 (a) [.int p, .int q] h (xQi (bI (grMay x y s p q)) h) := by
  obtain ⟨o0, o1, o2⟩ := id H
  refine ⟨⟨_, _, _, _, H.1, rfl⟩, qX1_mayGo, ?_⟩
  refine xS.intro RX1 false ⟨rfl, rfl, by decide, by decide, Nat.le_of_ble_eq_true rfl⟩ (ls := [some (.ref a), some (.int p), some (.int q)]) rfl ?_
  refine xr_il1 dX1_mayGo_0 ?_
  refine xr_il2 dX1_mayGo_1 ?_
  refine xr_ior dX1_mayGo_2 ?_
  refine xr_ifeq (tgt := 54) dX1_mayGo_3 (by decide) (fun zc3 => ?_) (fun zc3 => ?_)
  · skip
    refine xr_ic0 dX1_mayGo_54 ?_
    refine xr_zret dX1_mayGo_55 rfl (by first | rfl | decide | assumption) ?_
    exact ⟨by rw [bI_f (fun z => z.1 zc3)], rfl⟩
  · skip
    refine xr_il1 dX1_mayGo_6 ?_
    refine xr_al0 dX1_mayGo_7 ?_
    refine xr_get o0 fX1_24 rfl dX1_mayGo_8 ?_
    refine xr_icm1 dX1_mayGo_11 ?_
    refine xr_ixor dX1_mayGo_12 ?_
    refine xr_iand dX1_mayGo_13 ?_
    refine xr_ifne (tgt := 54) dX1_mayGo_14 (by decide) (fun zc14 => ?_) (fun zc14 => ?_)
    · skip
      refine xr_ic0 dX1_mayGo_54 ?_
      refine xr_zret dX1_mayGo_55 rfl (by first | rfl | decide | assumption) ?_
      exact ⟨by rw [bI_f (fun z => zc14 z.2.1)], rfl⟩
    · skip
      refine xr_il2 dX1_mayGo_17 ?_
      refine xr_al0 dX1_mayGo_18 ?_
      refine xr_get o0 fX1_28 rfl dX1_mayGo_19 ?_
      refine xr_icm1 dX1_mayGo_22 ?_
      refine xr_ixor dX1_mayGo_23 ?_
      refine xr_iand dX1_mayGo_24 ?_
      refine xr_ifne (tgt := 54) dX1_mayGo_25 (by decide) (fun zc25 => ?_) (fun zc25 => ?_)
      · skip
        refine xr_ic0 dX1_mayGo_54 ?_
        refine xr_zret dX1_mayGo_55 rfl (by first | rfl | decide | assumption) ?_
        exact ⟨by rw [bI_f (fun z => zc25 z.2.2.1)], rfl⟩
      · skip
        refine xr_il1 dX1_mayGo_28 ?_
        refine xr_Si1 (s_bitCount _) kX1_43 (by decide) (Nat.le_of_ble_eq_true rfl) (Nat.zero_add _) (Nat.zero_add _) dX1_mayGo_29 ?_
        refine xr_al0 dX1_mayGo_32 ?_
        refine xr_get o0 fX1_34 rfl dX1_mayGo_33 ?_
        refine xr_icmpgt (tgt := 54) dX1_mayGo_36 (by decide) (fun zc36 => ?_) (fun zc36 => ?_)
        · skip
          refine xr_ic0 dX1_mayGo_54 ?_
          refine xr_zret dX1_mayGo_55 rfl (by first | rfl | decide | assumption) ?_
          exact ⟨by rw [bI_f (fun z => z.2.2.2.1 zc36)], rfl⟩
        · skip
          refine xr_il2 dX1_mayGo_39 ?_
          refine xr_Si1 (s_bitCount _) kX1_43 (by decide) (Nat.le_of_ble_eq_true rfl) (Nat.zero_add _) (Nat.zero_add _) dX1_mayGo_40 ?_
          refine xr_al0 dX1_mayGo_43 ?_
          refine xr_get o0 fX1_34 rfl dX1_mayGo_44 ?_
          refine xr_icmpgt (tgt := 54) dX1_mayGo_47 (by decide) (fun zc47 => ?_) (fun zc47 => ?_)
          · skip
            refine xr_ic0 dX1_mayGo_54 ?_
            refine xr_zret dX1_mayGo_55 rfl (by first | rfl | decide | assumption) ?_
            exact ⟨by rw [bI_f (fun z => z.2.2.2.2 zc47)], rfl⟩
          · skip
            refine xr_ic1 dX1_mayGo_50 ?_
            refine xr_goto (tgt := 55) dX1_mayGo_51 (by decide) ?_
            refine xr_zret dX1_mayGo_55 rfl (by first | rfl | decide | assumption) ?_
            exact ⟨by rw [bI_t ⟨zc3, zc14, zc25, zc36, zc47⟩], rfl⟩
set_option maxRecDepth 20000 in
theorem s_grWater {K : xK} {B : Nat} {l : Launch} {h : xH} {a : Nat} {u w : Nat → Int32} {x y s g : Int32} (H : X3 h a (grO a x y s g) (iA K 32 u) (iA K 32 w)) {p q : Nat} (hp : p < 32) (hq : q < 32) : xV K B l 1 mX1_waterFor 0 0 (a) [.int (nI p), .int (nI q)] h (xQi (iMax 0 (w q + g - u p)) h) := by
  obtain ⟨o0, o1, o2⟩ := id H
  refine ⟨⟨_, _, _, _, H.1, rfl⟩, qX1_waterFor, ?_⟩
  refine xS.intro RX1 false ⟨rfl, rfl, by decide, by decide, Nat.le_of_ble_eq_true rfl⟩ (ls := [some (.ref a), some (.int (nI p)), some (.int (nI q))]) rfl ?_
  refine xr_ic0 dX1_waterFor_0 ?_
  refine xr_al0 dX1_waterFor_1 ?_
  refine xr_il2 dX1_waterFor_2 ?_
  refine xr_Vi1 (s_wBelow H hq) kX1_48 (by decide) (Nat.le_of_ble_eq_true rfl) (Nat.zero_add _) (Nat.zero_add _) dX1_waterFor_3 ?_
  refine xr_al0 dX1_waterFor_6 ?_
  refine xr_get o0 fX1_38 rfl dX1_waterFor_7 ?_
  refine xr_iadd dX1_waterFor_10 ?_
  refine xr_al0 dX1_waterFor_11 ?_
  refine xr_il1 dX1_waterFor_12 ?_
  refine xr_Vi1 (s_wAbove H hp) kX1_51 (by decide) (Nat.le_of_ble_eq_true rfl) (Nat.zero_add _) (Nat.zero_add _) dX1_waterFor_13 ?_
  refine xr_isub dX1_waterFor_16 ?_
  refine xr_max kmX1_54 ms_max wz_J9 mc_max (by decide) (Nat.le_of_ble_eq_true rfl) dX1_waterFor_17 ?_
  refine xr_iret dX1_waterFor_20 rfl ?_
  exact ⟨rfl, rfl⟩
def hAll (σ : xs) (side : Int32) : Int32 := (1 : Int32) <<< (hWaits σ side &&& 31) - 1
set_option maxRecDepth 20000 in
theorem lp_readFrom {K : xK} {B : Nat} {l : Launch} {h : xH} {a : Nat} {b : Nat} {σ : xs} {u w : Nat → Int32} {x y s g : Int32} (H : X3 h a (grO a x y s g) (iA K 32 u) (iA K 32 w)) (G : xHill K h b σ) (ok : hOk σ) (dj : a + 3 ≤ b ∨ b + 3 ≤ a) : ∀ (r k : Nat), k + r = 32 → xT K B l 2 RX1 false cX1_readFrom 3 none 0 0 0 0 (xQv (P3 h a (grO a (hAll σ 0) (hAll σ 1) (σ 12) (σ 13)) (iA K 32 (fun j => wt σ 0 (nI j))) (iA K 32 (fun j => wt σ 1 (nI j))))) 36 [some (.ref a), some (.ref b), some (.int (nI k))] [] (P3 h a (grO a (hAll σ 0) (hAll σ 1) (σ 12) (σ 13)) (iA K 32 (cp u (fun j => wt σ 0 (nI j)) k)) (iA K 32 (cp w (fun j => wt σ 1 (nI j)) k))) := by
  intro r
  induction r with
  | zero =>
    intro k hk
    have hk' : k = 32 := hk
    obtain ⟨o0, o1, o2⟩ := P3_at h a (grO a (hAll σ 0) (hAll σ 1) (σ 12) (σ 13)) (iA K 32 (cp u (fun j => wt σ 0 (nI j)) k)) (iA K 32 (cp w (fun j => wt σ 1 (nI j)) k))
    refine xr_il2 dX1_readFrom_36 ?_
    refine xr_bipush (v := 32) dX1_readFrom_37 (by decide) ?_
    refine xr_icmpge (tgt := 72) dX1_readFrom_39 (by decide) (fun zc39 => ?_) (fun zc39 => ?_)
    · skip
      subst hk'
      refine xT.equiv (xEq_P3 (xcong_i (fun j hj => cp_lt _ _ hj)) (xcong_i (fun j hj => cp_lt _ _ hj))) ?_
      refine xr_vret dX1_readFrom_72 rfl ?_
      exact ⟨rfl, rfl⟩
    · skip
      exact absurd (nI_le (a := 32) (by omega) (by omega)) zc39
  | succ r ih =>
    intro k hk
    have hk5 : k < 32 := by omega
    obtain ⟨o0, o1, o2⟩ := P3_at h a (grO a (hAll σ 0) (hAll σ 1) (σ 12) (σ 13)) (iA K 32 (cp u (fun j => wt σ 0 (nI j)) k)) (iA K 32 (cp w (fun j => wt σ 1 (nI j)) k))
    refine xr_il2 dX1_readFrom_36 ?_
    refine xr_bipush (v := 32) dX1_readFrom_37 (by decide) ?_
    refine xr_icmpge (tgt := 72) dX1_readFrom_39 (by decide) (fun zc39 => ?_) (fun zc39 => ?_)
    · skip
      exact absurd zc39 (nI_ge (b := 32) (by omega) (by decide))
    · skip
      refine xr_al0 dX1_readFrom_42 ?_
      refine xr_get o0 fX1_9 rfl dX1_readFrom_43 ?_
      refine xr_il2 dX1_readFrom_46 ?_
      refine xr_al1 dX1_readFrom_47 ?_
      refine xr_ic0 dX1_readFrom_48 ?_
      refine xr_il2 dX1_readFrom_49 ?_
      refine xr_Vi2 (s_weightOf (G.P3 dj _ _ _) ok (s := 0) (by decide) _) kX1_39 (by decide) (Nat.le_of_ble_eq_true rfl) (Nat.zero_add _) (Nat.zero_add _) dX1_readFrom_50 ?_
      refine xr_iast o1 (xix_nI hk5 (by decide)) dX1_readFrom_53 ?_
      refine xT.nm (fun zh1 zg1 => ?_)
      have o0 := xg_ne zg1 (by omega) o0
      have o1 := xg_eq zg1
      have o2 := xg_ne zg1 (by omega) o2
      rw [zg1, P3_xup_e] at *
      have G2 := G.P3 dj (grO a (hAll σ 0) (hAll σ 1) (σ 12) (σ 13)) (iA K 32 (upd (cp u (fun j => wt σ 0 (nI j)) k) k (wt σ 0 (nI k)))) (iA K 32 (cp w (fun j => wt σ 1 (nI j)) k))
      refine xr_al0 dX1_readFrom_54 ?_
      refine xr_get o0 fX1_15 rfl dX1_readFrom_55 ?_
      refine xr_il2 dX1_readFrom_58 ?_
      refine xr_al1 dX1_readFrom_59 ?_
      refine xr_ic1 dX1_readFrom_60 ?_
      refine xr_il2 dX1_readFrom_61 ?_
      refine xr_Vi2 (s_weightOf G2 ok (s := 1) (by decide) _) kX1_39 (by decide) (Nat.le_of_ble_eq_true rfl) (Nat.zero_add _) (Nat.zero_add _) dX1_readFrom_62 ?_
      refine xr_iast o2 (xix_nI hk5 (by decide)) dX1_readFrom_65 ?_
      refine xT.nm (fun zh2 zg2 => ?_)
      have o0 := xg_ne zg2 (by omega) o0
      have o1 := xg_ne zg2 (by omega) o1
      have o2 := xg_eq zg2
      refine xr_inc2 dX1_readFrom_66 (nI_inc k) (by decide) rfl ?_
      refine xr_goto (tgt := 36) dX1_readFrom_69 (by decide) ?_
      rw [zg2, P3_xup_f, cp_s u (fun j => wt σ 0 (nI j)) k, cp_s w (fun j => wt σ 1 (nI j)) k]
      exact ih (k + 1) (by omega)
set_option maxRecDepth 20000 in
theorem s_readFrom {K : xK} {B : Nat} {l : Launch} {h : xH} {a : Nat} {b : Nat} {σ : xs} {u w : Nat → Int32} {x y s g : Int32} (H : X3 h a (grO a x y s g) (iA K 32 u) (iA K 32 w)) (G : xHill K h b σ) (ok : hOk σ) (dj : a + 3 ≤ b ∨ b + 3 ≤ a) : xV K B l 2 mX1_readFrom 0 0 (a) [.ref b] h (xQv (P3 h a (grO a (hAll σ 0) (hAll σ 1) (σ 12) (σ 13)) (iA K 32 (fun j => wt σ 0 (nI j))) (iA K 32 (fun j => wt σ 1 (nI j))))) := by
  obtain ⟨o0, o1, o2⟩ := id H
  obtain ⟨q0, q1, q2⟩ := id G
  unfold hO at q0
  refine ⟨⟨_, _, _, _, H.1, rfl⟩, qX1_readFrom, ?_⟩
  refine xS.intro RX1 false ⟨rfl, rfl, by decide, by decide, Nat.le_of_ble_eq_true rfl⟩ (ls := [some (.ref a), some (.ref b), none]) rfl ?_
  refine xr_al0 dX1_readFrom_0 ?_
  refine xr_al1 dX1_readFrom_1 ?_
  refine xr_ic0 dX1_readFrom_2 ?_
  refine xr_Vi1 (s_allOf G _) kX1_18 (by decide) (Nat.le_of_ble_eq_true rfl) (Nat.zero_add _) (Nat.zero_add _) dX1_readFrom_3 ?_
  refine xr_put o0 fX1_24 (Nat.le_of_ble_eq_true rfl) rfl rfl dX1_readFrom_6 ?_
  refine xT.nm (fun zh1 zg1 => ?_)
  have o0 := xg_eq zg1
  have o1 := xg_ne zg1 (by omega) o1
  have o2 := xg_ne zg1 (by omega) o2
  have q0 := xg_ne zg1 (by omega) q0
  refine xr_al0 dX1_readFrom_9 ?_
  refine xr_al1 dX1_readFrom_10 ?_
  refine xr_ic1 dX1_readFrom_11 ?_
  refine xr_Vi1 (s_allOf (G.fr (fun c _ _ => xg_ne zg1 (by omega) rfl)) _) kX1_18 (by decide) (Nat.le_of_ble_eq_true rfl) (Nat.zero_add _) (Nat.zero_add _) dX1_readFrom_12 ?_
  refine xr_put o0 fX1_28 (Nat.le_of_ble_eq_true rfl) rfl rfl dX1_readFrom_15 ?_
  refine xT.nm (fun zh2 zg2 => ?_)
  have o0 := xg_eq zg2
  have o1 := xg_ne zg2 (by omega) o1
  have o2 := xg_ne zg2 (by omega) o2
  have q0 := xg_ne zg2 (by omega) q0
  refine xr_al0 dX1_readFrom_18 ?_
  refine xr_al1 dX1_readFrom_19 ?_
  refine xr_get q0 fX1_31 rfl dX1_readFrom_20 ?_
  refine xr_put o0 fX1_34 (Nat.le_of_ble_eq_true rfl) rfl rfl dX1_readFrom_23 ?_
  refine xT.nm (fun zh3 zg3 => ?_)
  have o0 := xg_eq zg3
  have o1 := xg_ne zg3 (by omega) o1
  have o2 := xg_ne zg3 (by omega) o2
  have q0 := xg_ne zg3 (by omega) q0
  refine xr_al0 dX1_readFrom_26 ?_
  refine xr_al1 dX1_readFrom_27 ?_
  refine xr_get q0 fX1_35 rfl dX1_readFrom_28 ?_
  refine xr_put o0 fX1_38 (Nat.le_of_ble_eq_true rfl) rfl rfl dX1_readFrom_31 ?_
  refine xT.nm (fun zh4 zg4 => ?_)
  have o0 := xg_eq zg4
  have o1 := xg_ne zg4 (by omega) o1
  have o2 := xg_ne zg4 (by omega) o2
  have q0 := xg_ne zg4 (by omega) q0
  refine xr_ic0 dX1_readFrom_34 ?_
  refine xr_is2 dX1_readFrom_35 (by decide) rfl ?_
  rw [zg4, zg3, zg2, zg1, xup_xup, xup_xup, xup_xup]
  have e := P3_o H (grO a (hAll σ 0) (hAll σ 1) (σ 12) (σ 13))
  have hi := lp_readFrom (B := B) (l := l) H G ok dj 32 0 rfl
  rw [cp_0, cp_0, ← e] at hi
  exact hi
