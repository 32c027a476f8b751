/-! The model's reader of rules beside the class's: things (written by wip/whole/mod45.py) -/
theorem stp_T {x tf : xs} {tn : Nat} (h80 : tn ≤ 80) (T0 : ∀ j, j < tn → x j &&& 255 = tf j ∧ byt (x j)) {sh ou : List Int32} {p d C : Nat} (pl : p < min tn 40) : stp tf tn (sh, ou, p, d, nI C, 1) = tkT tf tn (hrV x p tn 40) (sh, ou, p, d, nI C, 1) := by
  unfold stp
  rw [if_neg (show ¬ ((sh, ou, p, d, nI C, (1 : Int32)) : RS).2.2.2.2.2 = 0 from by show ¬ (1 : Int32) = 0; decide)]
  show tkT tf tn (slAt tf (nI tn) (nI p)) _ = _
  rw [gs_sl h80 T0 pl]
theorem tkT_neg {tf : xs} {tn : Nat} {y : Int32} {sh ou : List Int32} {p d : Nat} {c : Int32} (hy : y = 45) : tkT tf tn y (sh, ou, p, d, c, 1) = some (-1 :: sh, ou, p + 1, d, c, 1) := by
  subst hy
  rfl
theorem tkT_par {tf : xs} {tn : Nat} {y : Int32} {sh ou : List Int32} {p d C : Nat} (hC : C < 32) (hy : y = 40) (hd : d < 4) : tkT tf tn y (sh, ou, p, d, nI C, 1) = some (40 :: sh, ou, p + 1, d + 1, nI (clr C (d + 1)), 1) := by
  subst hy
  unfold tkT
  dsimp only
  rw [if_neg (by decide), if_neg (by decide), if_neg (by decide), if_pos ⟨rfl, hd⟩, (cb_clr C hC (d + 1) (by omega)).1]
theorem tkT_num {tf : xs} {tn : Nat} {y : Int32} {sh ou : List Int32} {p d p' : Nat} {c v : Int32} (hy : dg y) (hn : nb tf tn 3 p 0 = (p', v)) : tkT tf tn y (sh, ou, p, d, c, 1) = some (sh, v :: ou, p', d, c, 0) := by
  unfold tkT
  dsimp only
  rw [if_pos hy, hn]
theorem tkT_let {tf : xs} {tn : Nat} {y : Int32} {sh ou : List Int32} {p d : Nat} {c : Int32} (h1 : ¬ dg y) (h2 : ¬ nm y = 0) : tkT tf tn y (sh, ou, p, d, c, 1) = some (sh, (0 - y) :: ou, p + 1, d, c, 0) := by
  unfold tkT
  dsimp only
  rw [if_neg h1, if_pos h2]
theorem tkT_no {tf : xs} {tn : Nat} {y : Int32} {sh ou : List Int32} {p d : Nat} {c : Int32} (h1 : ¬ dg y) (h2 : nm y = 0) (h3 : ¬ y = 45) (h4 : ¬ (y = 40 ∧ d < 4)) : tkT tf tn y (sh, ou, p, d, c, 1) = none := by
  unfold tkT
  dsimp only
  rw [if_neg h1, if_neg (fun q => q h2), if_neg h3, if_neg h4]
theorem let_nm {c : Int32} : mLet c = -1 ↔ nm c = 0 := by
  constructor
  · intro h
    unfold nm
    rw [if_neg]
    rintro (rfl | rfl | rfl | rfl | rfl | rfl | rfl) <;> exact absurd h (by decide)
  · intro h
    unfold mLet
    unfold nm at h
    have n : ¬ (c = 99 ∨ c = 100 ∨ c = 103 ∨ c = 110 ∨ c = 116 ∨ c = 117 ∨ c = 119) := fun q => by
      rw [if_pos q] at h
      exact absurd h (by decide)
    rw [if_neg (fun q => n (Or.inr (Or.inr (Or.inr (Or.inl q))))), if_neg (fun q => n (Or.inl q)), if_neg (fun q => n (Or.inr (Or.inr (Or.inr (Or.inr (Or.inr (Or.inl q))))))), if_neg (fun q => n (Or.inr (Or.inl q))), if_neg (fun q => n (Or.inr (Or.inr (Or.inr (Or.inr (Or.inr (Or.inr q))))))), if_neg (fun q => n (Or.inr (Or.inr (Or.inl q)))), if_neg (fun q => n (Or.inr (Or.inr (Or.inr (Or.inr (Or.inl q))))))]
theorem let_ix {c : Int32} (h : ¬ nm c = 0) : xix (mLet c) 7 (mLet c).toNatClampNeg := by
  rcases nm_let h with rfl | rfl | rfl | rfl | rfl | rfl | rfl <;> exact xix_lit (by decide)
/-- where no thing stands -/
theorem th_bad {x tf : xs} {tn : Nat} (h80 : tn ≤ 80) (T0 : ∀ j, j < tn → x j &&& 255 = tf j ∧ byt (x j)) {sh ou : List Int32} {p d C : Nat} (hp : p ≤ min tn 40) (h1 : ¬ dg (hrV x p tn 40)) (h2 : nm (hrV x p tn 40) = 0) (h3 : ¬ hrV x p tn 40 = 45) (h4 : ¬ (hrV x p tn 40 = 40 ∧ d < 4)) : (rdF tn (Rn tf tn (sh, ou, p, d, nI C, 1))).1 = nI p := by
  by_cases pl : p < min tn 40
  · rw [Rn_none pl ((stp_T h80 T0 pl).trans (tkT_no h1 h2 h3 h4))]
    rfl
  · rw [Rn_end (show min tn 40 ≤ ((sh, ou, p, d, nI C, (1 : Int32)) : RS).2.2.1 by show min tn 40 ≤ p; omega)]
    unfold rdF
    rw [if_neg (by show ¬ true = false; decide), if_pos (Or.inl (by show ¬ (1 : Int32) = 0; decide))]
    show nI (min tn 40) = nI p
    congr 1
    omega
/-- where no bracket ends -/
theorem par_bad {x tf : xs} {tn : Nat} (h80 : tn ≤ 80) (T0 : ∀ j, j < tn → x j &&& 255 = tf j ∧ byt (x j)) {sh ou : List Int32} {p d C : Nat} (hp : p ≤ min tn 40) (hd : d + 1 < 5) (hC : C < 32) (hs : scH x tn (d + 1) p C) (n41 : ¬ hrV x p tn 40 = 41) : (rdF tn (Rn tf tn (sh, ou, p, d + 1, nI C, 0))).1 = nI p := by
  by_cases pl : p < min tn 40
  · rw [stp_no h80 T0 hd hC pl hs (fun q => n41 q.1)]
    rfl
  · rw [Rn_end (show min tn 40 ≤ ((sh, ou, p, d + 1, nI C, (0 : Int32)) : RS).2.2.1 by show min tn 40 ≤ p; omega)]
    unfold rdF
    rw [if_neg (by show ¬ true = false; decide), if_pos (Or.inr (Or.inl (by show 1 ≤ d + 1; omega)))]
    show nI (min tn 40) = nI p
    congr 1
    omega
theorem stp_par {x tf : xs} {tn : Nat} (h80 : tn ≤ 80) (T0 : ∀ j, j < tn → x j &&& 255 = tf j ∧ byt (x j)) {sh1 ou1 sh o1 : List Int32} {p d C : Nat} (hy : hrV x p tn 40 = 41) (hb : bbk (nI 1) sh1 ou1 = (40 :: sh, o1)) : Rn tf tn (sh1, ou1, p, d + 1, nI C, 0) = Rn tf tn (sh, o1, p + 1, d, nI C, 0) := by
  have pl : p < min tn 40 := gs_lt (x := x) (by rw [hy]; decide)
  refine Rn_step pl ?_
  unfold stp
  rw [if_pos (show ((sh1, ou1, p, d + 1, nI C, (0 : Int32)) : RS).2.2.2.2.2 = 0 from rfl)]
  show tkJ (slAt tf (nI tn) (nI p)) (sh1, ou1, p, d + 1, nI C, 0) = _
  rw [gs_sl h80 T0 pl, hy]
  unfold tkJ
  dsimp only
  have hb : bbk 1 sh1 ou1 = (40 :: sh, o1) := hb
  rw [if_pos ⟨rfl, by omega⟩, hb]
  rfl
set_option maxRecDepth 20000 in
theorem r_thing {K : xK} {B : Nat} {l : Launch} {h0 : xH} {Y : Nat} {m : Nat → Int32} {ru ot q tn : Nat} {u : Nat → Nat → Int32} {v : Nat → Int64} {tf : xs} (Z : rQ m q tn 40) (T0 : ∀ j, j < tn → u q j &&& 255 = tf j ∧ byt (u q j)) {N F0 F1 F2 : Nat} (f0 : 6 ≤ F0) (f1 : F1 ≤ F0) (f2 : F2 ≤ F0) (hT : 0 < N → rMet K B l h0 Y m ru ot q tn u v tf mX12_thing 3 (fun d => d + 1) (fun _ _ _ => True) (fun _ _ _ => True) (N - 1) F1) (hH : 0 < N → rMet K B l h0 Y m ru ot q tn u v tf mX12_held 1 (fun d => d) (fun sh d C => tp sh 1 ∧ C.testBit d = false) (scH (u q) tn) (N - 1) F2) : rMet K B l h0 Y m ru ot q tn u v tf mX12_thing 3 (fun d => d + 1) (fun _ _ _ => True) (fun _ _ _ => True) N (F0 + 1) := by
  intro h sh ou p d C hp hN hd hC _ W
  refine ⟨⟨_, _, _, _, W.o, rfl⟩, qX12_thing, ?_⟩
  refine xS.intro RX12 false ⟨rfl, rfl, by decide, by decide, Nat.le_of_ble_eq_true rfl⟩ (ls := [some (.ref Y), some (.int (nI d)), none, none]) rfl ?_
  have h80 : tn ≤ 80 := Z.2.2.1
  refine xr_al0 dX12_thing_0 ?_
  refine xr_bipush (v := 45) dX12_thing_1 (by decide) ?_
  refine xr_Vpi1 (r_passes Z (by omega) W _) kX12_123 (by omega) (Nat.le_of_ble_eq_true rfl) (Nat.zero_add _) (Nat.zero_add _) dX12_thing_3 (fun zv3 zh1 zq1 => ?_)
  rcases zq1 with ⟨yy, rfl, W⟩ | ⟨y45, rfl, W⟩
  · skip
    have gy : hrV (u q) p tn 40 = 45 := yy.2
    have pl : p < min tn 40 := gs_lt (by rw [gy]; decide)
    have hR := Rn_step (S := (sh, ou, p, d, nI C, 1)) pl ((stp_T h80 T0 pl).trans (tkT_neg gy))
    refine xr_ifeq (tgt := 16) dX12_thing_6 (by decide) (fun zc6 => ?_) (fun zc6 => ?_)
    · skip
      exact absurd zc6 (by decide)
    · skip
      refine xr_al0 dX12_thing_9 ?_
      refine xr_il1 dX12_thing_10 ?_
      refine xr_Vpi1 (hT (by omega) _ (-1 :: sh) ou (p + 1) d C (by omega) (by omega) hd hC trivial W) kX12_157 (by omega) (Nat.le_of_ble_eq_true rfl) (Nat.zero_add _) (Nat.zero_add _) dX12_thing_11 (fun zo zh1 zq1 => ?_)
      rcases zq1 with ⟨sh3, ou3, p3, C3, l3, m3, hc3, bits3, e3, rel3, -, W⟩ | ⟨b, p', hb, bp', eb, W⟩
      rotate_left
      · skip
        refine xr_ineg dX12_thing_14 ?_
        refine xr_iret dX12_thing_15 rfl ?_
        exact ⟨_, rfl, Or.inr ⟨b, p', hb, bp', by rw [hR]; exact eb, W⟩⟩
      refine xr_ineg dX12_thing_14 ?_
      refine xr_iret dX12_thing_15 rfl ?_
      exact ⟨_, rfl, Or.inl ⟨sh3, ou3, p3, C3, by omega, m3, hc3, bits3, hR.trans e3, Rel_neg rel3, trivial, W⟩⟩
  refine xr_ifeq (tgt := 16) dX12_thing_6 (by decide) (fun zc6 => ?_) (fun zc6 => ?_)
  · skip
    refine xr_al0 dX12_thing_16 ?_
    refine xr_Vpi0 (r_fine W) kX12_115 (by omega) (Nat.le_of_ble_eq_true rfl) (Nat.zero_add _) (Nat.zero_add _) dX12_thing_17 (fun zv17 zh2 zq2 => ?_)
    obtain ⟨rfl, W⟩ := zq2
    refine xr_ifne (tgt := 25) dX12_thing_20 (by decide) (fun zc20 => ?_) (fun zc20 => ?_)
    · skip
      refine xr_al0 dX12_thing_25 ?_
      refine xr_Vpi0 (r_here Z (by omega) W) kX12_119 (by omega) (Nat.le_of_ble_eq_true rfl) (Nat.zero_add _) (Nat.zero_add _) dX12_thing_26 (fun zv26 zh3 zq3 => ?_)
      obtain ⟨rfl, W⟩ := zq3
      refine xr_is2 dX12_thing_29 (by decide) rfl ?_
      refine xr_il2 dX12_thing_30 ?_
      refine xr_bipush (v := 40) dX12_thing_31 (by decide) ?_
      refine xr_icmpne (tgt := 67) dX12_thing_33 (by decide) (fun zc33 => ?_) (fun zc33 => ?_)
      · skip
        refine xr_il2 dX12_thing_67 ?_
        refine xr_bipush (v := 48) dX12_thing_68 (by decide) ?_
        refine xr_bipush (v := 57) dX12_thing_70 (by decide) ?_
        refine xr_Si3 (s_mIn _ _ _) kX12_89 (by omega) (Nat.le_of_ble_eq_true rfl) (Nat.zero_add _) (Nat.zero_add _) dX12_thing_72 ?_
        refine xr_ifeq (tgt := 84) dX12_thing_75 (by decide) (fun zc75 => ?_) (fun zc75 => ?_)
        · skip
          refine xr_il2 dX12_thing_84 ?_
          refine xr_Si1 (s_mLet _) kX12_170 (by omega) (Nat.le_of_ble_eq_true rfl) (Nat.zero_add _) (Nat.zero_add _) dX12_thing_85 ?_
          refine xr_icm1 dX12_thing_88 ?_
          refine xr_icmpne (tgt := 102) dX12_thing_89 (by decide) (fun zc89 => ?_) (fun zc89 => ?_)
          · skip
            have nz : ¬ nm (hrV (u q) p tn 40) = 0 := fun z => zc89 (let_nm.mpr z)
            have pl : p < min tn 40 := gs_lt (x := u q) (fun z => nz (by rw [z]; decide))
            have hR := Rn_step (S := (sh, ou, p, d, nI C, 1)) pl ((stp_T h80 T0 pl).trans (tkT_let (fun z => (dg_in.mpr z) zc75) nz))
            have rl := Rel_let (alM m u) sh ou nz
            refine xr_al0 dX12_thing_102 ?_
            refine xr_dup dX12_thing_103 rfl ?_
            refine xr_get W.o fX12_105 rfl dX12_thing_104 ?_
            refine xr_eqi (y := nI p) rfl ?_
            refine xr_ic1 dX12_thing_107 ?_
            refine xr_iadd dX12_thing_108 ?_
            refine xr_eqi (y := nI (p + 1)) (nI_1 p) ?_
            refine xr_put W.o fX12_105 (Nat.le_of_ble_eq_true rfl) rfl rfl dX12_thing_109 ?_
            refine xT.nm (fun zh4 zg4 => ?_)
            have W := W.f9 zg4
            rw [rdm_p] at W
            refine xr_al0 dX12_thing_112 ?_
            refine xr_get W.o fX12_173 rfl dX12_thing_113 ?_
            refine xr_eqi (y := m 16) rfl ?_
            refine xr_ifeq (tgt := 131) dX12_thing_116 (by decide) (fun zc116 => ?_) (fun zc116 => ?_)
            · skip
              refine xr_ic0 dX12_thing_131 ?_
              refine xr_iret dX12_thing_132 rfl ?_
              have ea : alM m u (hrV (u q) p tn 40) = 0 := if_pos zc116
              rw [ea] at rl
              exact ⟨_, rfl, Or.inl ⟨sh, _, p + 1, C, by omega, by omega, hC, fun _ _ => rfl, hR, rl, trivial, W⟩⟩
            · skip
              refine xr_al0 dX12_thing_119 ?_
              refine xr_get W.o fX12_33 rfl dX12_thing_120 ?_
              refine xr_il2 dX12_thing_123 ?_
              refine xr_Si1 (s_mLet _) kX12_170 (by omega) (Nat.le_of_ble_eq_true rfl) (Nat.zero_add _) (Nat.zero_add _) dX12_thing_124 ?_
              refine xr_iald W.a8 (let_ix nz) dX12_thing_127 ?_
              refine xr_goto (tgt := 132) dX12_thing_128 (by decide) ?_
              refine xr_iret dX12_thing_132 rfl ?_
              have ea : alM m u (hrV (u q) p tn 40) = u 8 (mLet (hrV (u q) p tn 40)).toNatClampNeg := if_neg zc116
              rw [ea] at rl
              exact ⟨_, rfl, Or.inl ⟨sh, _, p + 1, C, by omega, by omega, hC, fun _ _ => rfl, hR, rl, trivial, W⟩⟩
          · skip
            refine xr_al0 dX12_thing_92 ?_
            refine xr_al0 dX12_thing_93 ?_
            refine xr_get W.o fX12_105 rfl dX12_thing_94 ?_
            refine xr_eqi (y := nI p) rfl ?_
            refine xr_Vpv1 (r_fault W _) kX12_127 (by omega) (Nat.le_of_ble_eq_true rfl) (Nat.zero_add _) (Nat.zero_add _) dX12_thing_97 (fun zh4 zq4 => ?_)
            have W := zq4
            rw [if_pos rfl] at W
            refine xr_ic0 dX12_thing_100 ?_
            refine xr_iret dX12_thing_101 rfl ?_
            exact ⟨_, rfl, Or.inr ⟨p, p, by omega, by omega, th_bad h80 T0 hp (fun z => (dg_in.mpr z) zc75) (let_nm.mp zc89) (fun z => y45 ⟨rfl, z⟩) (fun z => zc33 z.1), W⟩⟩
        · skip
          refine xr_al0 dX12_thing_78 ?_
          refine xr_ic3 dX12_thing_79 ?_
          refine xr_Vpi1 (r_num Z T0 W (mIn_y zc75)) kX12_167 (by omega) (Nat.le_of_ble_eq_true rfl) (Nat.zero_add _) (Nat.zero_add _) dX12_thing_80 (fun zv80 zh4 zq4 => ?_)
          obtain ⟨p', l3, m3, en, vn, W⟩ := zq4
          have pl : p < min tn 40 := by omega
          have hR := Rn_step (S := (sh, ou, p, d, nI C, 1)) pl ((stp_T h80 T0 pl).trans (tkT_num (mIn_y zc75) en))
          refine xr_iret dX12_thing_83 rfl ?_
          exact ⟨_, rfl, Or.inl ⟨sh, _, p', C, l3, m3, hC, fun _ _ => rfl, hR, Rel_num _ _ _ vn, trivial, W⟩⟩
      · skip
        refine xr_il1 dX12_thing_36 ?_
        refine xr_ic4 dX12_thing_37 ?_
        refine xr_icmpge (tgt := 67) dX12_thing_38 (by decide) (fun zc38 => ?_) (fun zc38 => ?_)
        · skip
          refine xr_il2 dX12_thing_67 ?_
          refine xr_bipush (v := 48) dX12_thing_68 (by decide) ?_
          refine xr_bipush (v := 57) dX12_thing_70 (by decide) ?_
          refine xr_Si3 (s_mIn _ _ _) kX12_89 (by omega) (Nat.le_of_ble_eq_true rfl) (Nat.zero_add _) (Nat.zero_add _) dX12_thing_72 ?_
          refine xr_ifeq (tgt := 84) dX12_thing_75 (by decide) (fun zc75 => ?_) (fun zc75 => ?_)
          · skip
            refine xr_il2 dX12_thing_84 ?_
            refine xr_Si1 (s_mLet _) kX12_170 (by omega) (Nat.le_of_ble_eq_true rfl) (Nat.zero_add _) (Nat.zero_add _) dX12_thing_85 ?_
            refine xr_icm1 dX12_thing_88 ?_
            refine xr_icmpne (tgt := 102) dX12_thing_89 (by decide) (fun zc89 => ?_) (fun zc89 => ?_)
            · skip
              have nz : ¬ nm (hrV (u q) p tn 40) = 0 := fun z => zc89 (let_nm.mpr z)
              have pl : p < min tn 40 := gs_lt (x := u q) (fun z => nz (by rw [z]; decide))
              have hR := Rn_step (S := (sh, ou, p, d, nI C, 1)) pl ((stp_T h80 T0 pl).trans (tkT_let (fun z => (dg_in.mpr z) zc75) nz))
              have rl := Rel_let (alM m u) sh ou nz
              refine xr_al0 dX12_thing_102 ?_
              refine xr_dup dX12_thing_103 rfl ?_
              refine xr_get W.o fX12_105 rfl dX12_thing_104 ?_
              refine xr_eqi (y := nI p) rfl ?_
              refine xr_ic1 dX12_thing_107 ?_
              refine xr_iadd dX12_thing_108 ?_
              refine xr_eqi (y := nI (p + 1)) (nI_1 p) ?_
              refine xr_put W.o fX12_105 (Nat.le_of_ble_eq_true rfl) rfl rfl dX12_thing_109 ?_
              refine xT.nm (fun zh4 zg4 => ?_)
              have W := W.f9 zg4
              rw [rdm_p] at W
              refine xr_al0 dX12_thing_112 ?_
              refine xr_get W.o fX12_173 rfl dX12_thing_113 ?_
              refine xr_eqi (y := m 16) rfl ?_
              refine xr_ifeq (tgt := 131) dX12_thing_116 (by decide) (fun zc116 => ?_) (fun zc116 => ?_)
              · skip
                refine xr_ic0 dX12_thing_131 ?_
                refine xr_iret dX12_thing_132 rfl ?_
                have ea : alM m u (hrV (u q) p tn 40) = 0 := if_pos zc116
                rw [ea] at rl
                exact ⟨_, rfl, Or.inl ⟨sh, _, p + 1, C, by omega, by omega, hC, fun _ _ => rfl, hR, rl, trivial, W⟩⟩
              · skip
                refine xr_al0 dX12_thing_119 ?_
                refine xr_get W.o fX12_33 rfl dX12_thing_120 ?_
                refine xr_il2 dX12_thing_123 ?_
                refine xr_Si1 (s_mLet _) kX12_170 (by omega) (Nat.le_of_ble_eq_true rfl) (Nat.zero_add _) (Nat.zero_add _) dX12_thing_124 ?_
                refine xr_iald W.a8 (let_ix nz) dX12_thing_127 ?_
                refine xr_goto (tgt := 132) dX12_thing_128 (by decide) ?_
                refine xr_iret dX12_thing_132 rfl ?_
                have ea : alM m u (hrV (u q) p tn 40) = u 8 (mLet (hrV (u q) p tn 40)).toNatClampNeg := if_neg zc116
                rw [ea] at rl
                exact ⟨_, rfl, Or.inl ⟨sh, _, p + 1, C, by omega, by omega, hC, fun _ _ => rfl, hR, rl, trivial, W⟩⟩
            · skip
              refine xr_al0 dX12_thing_92 ?_
              refine xr_al0 dX12_thing_93 ?_
              refine xr_get W.o fX12_105 rfl dX12_thing_94 ?_
              refine xr_eqi (y := nI p) rfl ?_
              refine xr_Vpv1 (r_fault W _) kX12_127 (by omega) (Nat.le_of_ble_eq_true rfl) (Nat.zero_add _) (Nat.zero_add _) dX12_thing_97 (fun zh4 zq4 => ?_)
              have W := zq4
              rw [if_pos rfl] at W
              refine xr_ic0 dX12_thing_100 ?_
              refine xr_iret dX12_thing_101 rfl ?_
              exact ⟨_, rfl, Or.inr ⟨p, p, by omega, by omega, th_bad h80 T0 hp (fun z => (dg_in.mpr z) zc75) (let_nm.mp zc89) (fun z => y45 ⟨rfl, z⟩) (fun z => absurd zc38 (nI_ge (b := 4) z.2 (by decide))), W⟩⟩
          · skip
            refine xr_al0 dX12_thing_78 ?_
            refine xr_ic3 dX12_thing_79 ?_
            refine xr_Vpi1 (r_num Z T0 W (mIn_y zc75)) kX12_167 (by omega) (Nat.le_of_ble_eq_true rfl) (Nat.zero_add _) (Nat.zero_add _) dX12_thing_80 (fun zv80 zh4 zq4 => ?_)
            obtain ⟨p', l3, m3, en, vn, W⟩ := zq4
            have pl : p < min tn 40 := by omega
            have hR := Rn_step (S := (sh, ou, p, d, nI C, 1)) pl ((stp_T h80 T0 pl).trans (tkT_num (mIn_y zc75) en))
            refine xr_iret dX12_thing_83 rfl ?_
            exact ⟨_, rfl, Or.inl ⟨sh, _, p', C, l3, m3, hC, fun _ _ => rfl, hR, Rel_num _ _ _ vn, trivial, W⟩⟩
        · skip
          have gy : hrV (u q) p tn 40 = 40 := zc33
          have pl : p < min tn 40 := gs_lt (by rw [gy]; decide)
          have d4 : d < 4 := Nat.lt_of_not_le (fun z => zc38 (nI_le (a := 4) z (by omega)))
          have cc := cb_clr C hC (d + 1) (by omega)
          have hR := Rn_step (S := (sh, ou, p, d, nI C, 1)) pl ((stp_T h80 T0 pl).trans (tkT_par hC gy d4))
          have tp_s : tp (40 :: sh) 1 := fun y' t' e' => by
            cases e'
            decide
          refine xr_al0 dX12_thing_41 ?_
          refine xr_dup dX12_thing_42 rfl ?_
          refine xr_get W.o fX12_105 rfl dX12_thing_43 ?_
          refine xr_eqi (y := nI p) rfl ?_
          refine xr_ic1 dX12_thing_46 ?_
          refine xr_iadd dX12_thing_47 ?_
          refine xr_eqi (y := nI (p + 1)) (nI_1 p) ?_
          refine xr_put W.o fX12_105 (Nat.le_of_ble_eq_true rfl) rfl rfl dX12_thing_48 ?_
          refine xT.nm (fun zh4 zg4 => ?_)
          have W := W.f9 zg4
          rw [rdm_p] at W
          refine xr_al0 dX12_thing_51 ?_
          refine xr_il1 dX12_thing_52 ?_
          refine xr_ic1 dX12_thing_53 ?_
          refine xr_iadd dX12_thing_54 ?_
          refine xr_eqi (y := nI (d + 1)) (nI_1 d) ?_
          refine xr_Vpi1 (hH (by omega) _ (40 :: sh) ou (p + 1) (d + 1) (clr C (d + 1)) (by omega) (by omega) (by omega) cc.2.1 ⟨tp_s, by rw [cc.2.2 (d + 1) (by omega)]; simp⟩ W) kX12_160 (by omega) (Nat.le_of_ble_eq_true rfl) (Nat.zero_add _) (Nat.zero_add _) dX12_thing_55 (fun zo zh5 zq5 => ?_)
          rcases zq5 with ⟨sh3, ou3, p3, C3, l3, m3, hc3, bits3, e3, rel3, sc3, W⟩ | ⟨b, p', hb, bp', eb, W⟩
          rotate_left
          · skip
            refine xr_is3 dX12_thing_58 (by decide) rfl ?_
            refine xr_al0 dX12_thing_59 ?_
            refine xr_bipush (v := 41) dX12_thing_60 (by decide) ?_
            refine xr_Vpv1 (r_need Z (by omega) W _) kX12_163 (by omega) (Nat.le_of_ble_eq_true rfl) (Nat.zero_add _) (Nat.zero_add _) dX12_thing_62 (fun zh1 zq1 => ?_)
            rcases zq1 with ⟨yy, -⟩ | ⟨-, W⟩
            · exact absurd yy.1 (nI_m1 (by omega))
            rw [if_neg (nI_m1 (by omega))] at W
            refine xr_il3 dX12_thing_65 ?_
            refine xr_iret dX12_thing_66 rfl ?_
            exact ⟨_, rfl, Or.inr ⟨b, p', hb, bp', by rw [hR]; exact eb, W⟩⟩
          have bits3 : ∀ j, j < d + 1 → C3.testBit j = (clr C (d + 1)).testBit j := bits3
          obtain ⟨o2, ev2, f2⟩ := rel3
          have hb2 := (f2 1 (by decide) (by decide)).trans (bbk_tp tp_s o2)
          refine xr_is3 dX12_thing_58 (by decide) rfl ?_
          refine xr_al0 dX12_thing_59 ?_
          refine xr_bipush (v := 41) dX12_thing_60 (by decide) ?_
          refine xr_Vpv1 (r_need Z (by omega) W _) kX12_163 (by omega) (Nat.le_of_ble_eq_true rfl) (Nat.zero_add _) (Nat.zero_add _) dX12_thing_62 (fun zh6 zq6 => ?_)
          rcases zq6 with ⟨yy, W⟩ | ⟨y41, W⟩
          rotate_left
          · skip
            refine xr_il3 dX12_thing_65 ?_
            refine xr_iret dX12_thing_66 rfl ?_
            rw [if_pos rfl] at W
            exact ⟨_, rfl, Or.inr ⟨p3, p3, by omega, by omega, by rw [hR, e3]; exact par_bad h80 T0 m3 (by omega) hc3 sc3 (fun z => y41 ⟨rfl, z⟩), W⟩⟩
          refine xr_il3 dX12_thing_65 ?_
          refine xr_iret dX12_thing_66 rfl ?_
          exact ⟨_, rfl, Or.inl ⟨sh, o2, p3 + 1, C3, by omega, by have := gs_lt (x := u q) (p := p3) (by rw [yy.2]; decide); omega, hc3, fun j (hj : j < d + 1) => by rw [bits3 j hj, cc.2.2 j (by omega), decide_eq_true (show j ≠ d + 1 by omega), Bool.true_and], (hR.trans e3).trans (stp_par h80 T0 yy.2 hb2), ⟨o2, ev2, fun _ _ _ => rfl⟩, trivial, W⟩⟩
    · skip
      exact absurd (bI_t rfl) (fun q => absurd (q.symm.trans zc20) (by decide))
  · skip
    exact absurd rfl zc6
