/-! The model's spring of a rule that was read (written by wip/whole/mod47.py) -/
theorem u8x {K : xK} {h0 h : xH} {Y : Nat} {m : Nat → Int32} {rd : Value} {ru ot : Nat} {U : Nat → Nat → Int32} {v : Nat → Int64} {f f' : xs} (W : xMw K h0 h Y m rd ru ot (uu (uu U 8 f) 8 f') v) : xMw K h0 h Y m rd ru ot (uu U 8 f') v := by
  rw [uu_uu] at W
  exact W
theorem u8i {K : xK} {h0 h : xH} {Y : Nat} {m : Nat → Int32} {rd : Value} {ru ot : Nat} {U : Nat → Nat → Int32} {v : Nat → Int64} (W : xMw K h0 h Y m rd ru ot U v) : xMw K h0 h Y m rd ru ot (uu U 8 (U 8)) v := by
  rw [uu_id]
  exact W
theorem rowj {K : xK} {h0 h : xH} {Y : Nat} {m : Nat → Int32} {rd : Value} {ru ot : Nat} {U : Nat → Nat → Int32} {v : Nat → Int64} {f : xs} {j : Nat} (hj : j = 1 ∨ j = 11) (W : xMw K h0 h Y m rd ru ot (uu U 8 f) v) : h.2 (Y + j) = some (iA K 19 (U j)) := by
  rcases hj with rfl | rfl
  · exact W.a1
  · exact W.a11
theorem wtN_cg (σ : xs) (s : Nat) {g g' : Int32} : ∀ n : Nat, (∀ k, k < n → (g >>> (nI k &&& 31) &&& 1) = (g' >>> (nI k &&& 31) &&& 1)) → wtN σ s g n = wtN σ s g' n := by
  intro n
  induction n with
  | zero => exact fun _ => rfl
  | succ n ih =>
    intro h
    show wtN σ s g n + (g >>> (nI n &&& 31) &&& 1) * _ = wtN σ s g' n + (g' >>> (nI n &&& 31) &&& 1) * _
    rw [ih (fun k hk => h k (by omega)), h n (by omega)]
theorem a31 : ∀ n, n < 6 → ∀ k, k < n → (nI (2 ^ n - 1) >>> (nI k &&& 31) &&& 1) = ((31 : Int32) >>> (nI k &&& 31) &&& 1) := by decide +kernel
theorem wt_all {σ : xs} (ok : hOk σ) : wt σ 0 (hAll σ 0) = wt σ 0 31 := by
  have e : hAll σ 0 = nI (aN σ 0) := (hAll_n ok (s := 0) (by decide)).1
  have l5 := (ok.1 0 (by decide)).2
  rw [e]
  exact wtN_cg σ 0 _ (fun k hk => a31 (ln σ 0) (by omega) k hk)
def asF (f w : xs) : xs := upd (upd (upd (upd (upd (upd (upd f 0 (remI (w 18) 7)) 1 (w 14)) 2 (w 10)) 3 (w 11)) 4 (wt w 0 (hAll w 0))) 5 (w 13)) 6 (remI (w 17) 5)
theorem as_nmd {σ w f : xs} (R : rr σ w) (ok : hOk σ) (c : Int32) (h : ¬ nm c = 0) : asF f w (mLet c).toNatClampNeg = nmd σ c := by
  have e4 : wt w 0 (hAll w 0) = wt σ 0 31 := by rw [rr_wt R (by decide), rr_all R, wt_all ok]
  have e := R.1
  rcases nm_let h with rfl | rfl | rfl | rfl | rfl | rfl | rfl
  · exact e 14 (by omega) (by omega)
  · exact e 11 (by omega) (by omega)
  · exact e 13 (by omega) (by omega)
  · exact congrArg (fun z => remI z 7) (e 18 (by omega) (by omega))
  · exact congrArg (fun z => remI z 5) (e 17 (by omega) (by omega))
  · exact e 10 (by omega) (by omega)
  · exact e4
def rlM (m : xs) (tn : Nat) (x : Int32) : xs := upd (upd (upd m 7 (nI tn)) 8 (nI 40)) 16 x
theorem sp_rdm (m : xs) (a b : Int32) : upd (upd (upd (upd (upd m 7 a) 8 b) 9 0) 10 (-1)) 16 1 = rdm (upd (upd (upd m 7 a) 8 b) 16 1) 0 (-1) := rdm_16 _ 0 (-1) 1
theorem sp_scm (m : xs) (tn p : Nat) (w : Int32) : upd (rdm (rlM m tn 1) p w) 16 0 = scm m (nI tn) (nI 40) (nI p) w 0 := by
  rw [rdm_16]
  unfold rlM
  rw [upd_upd, ← rdm_16]
  rfl
set_option maxRecDepth 20000 in
theorem s_mSpring {K : xK} {B : Nat} {l : Launch} {h0 h : xH} {Y : Nat} {m : Nat → Int32} {rd : Value} {ot q tn : Nat} {U : Nat → Nat → Int32} {v : Nat → Int64} {tf : xs} {j : Nat} (hj : j = 1 ∨ j = 11) (hq : q = 6 ∨ q = 7) (W : xMw K h0 h Y m rd (Y + q) ot U v) (h15 : m 15 = nI tn) (h80 : tn ≤ 80) (T0 : ∀ j, j < tn → U q j &&& 255 = tf j ∧ byt (U q j)) (hok : (rdV tf tn).1 = -1) {σ : xs} (ok : hOk σ) (R : rr σ (U j)) : xV K B l 200 mX12_spring 0 0 (Y) [.ref (Y + j)] h (xPi (fun zr g => zr = ruF tf tn σ ∧ xMz K h0 g Y m (Y + q) ot U v)) := by
  refine ⟨⟨_, _, _, _, W.o, rfl⟩, qX12_spring, ?_⟩
  refine xS.intro RX12 false ⟨rfl, rfl, by decide, by decide, Nat.le_of_ble_eq_true rfl⟩ (ls := [some (.ref Y), some (.ref (Y + j)), none]) rfl ?_
  have okw := rr_ok R ok
  have W := u8i W
  refine xr_ic3 dX12_spring_0 ?_
  refine xr_is2 dX12_spring_1 (by decide) rfl ?_
  refine xr_al0 dX12_spring_2 ?_
  refine xr_get W.o fX12_180 rfl dX12_spring_3 ?_
  refine xr_eqi (y := nI tn) h15 ?_
  refine xr_ifle (tgt := 121) dX12_spring_6 (by decide) (fun zc6 => ?_) (fun zc6 => ?_)
  · skip
    have tn0 : tn = 0 := Decidable.not_not.mp (fun y => nI_nle (by omega) (by omega) zc6)
    subst tn0
    refine xr_ic0 dX12_spring_121 ?_
    refine xr_bipush (v := 9) dX12_spring_122 (by decide) ?_
    refine xr_il2 dX12_spring_124 ?_
    refine xr_min kmX12_195 ms_min wz_J9 mc_min (by decide) (Nat.le_of_ble_eq_true rfl) dX12_spring_125 ?_
    refine xr_max kmX12_201 ms_max wz_J9 mc_max (by decide) (Nat.le_of_ble_eq_true rfl) dX12_spring_128 ?_
    refine xr_iret dX12_spring_131 rfl ?_
    refine ⟨_, rfl, rfl, ?_⟩
    rw [uu_id] at W
    exact xMz_of W
  · skip
    have tn0 : ¬ tn = 0 := fun y => zc6 (by rw [y]; decide)
    refine xr_al0 dX12_spring_9 ?_
    refine xr_get W.o fX12_33 rfl dX12_spring_10 ?_
    refine xr_ic0 dX12_spring_13 ?_
    refine xr_al1 dX12_spring_14 ?_
    refine xr_bipush (v := 18) dX12_spring_15 (by decide) ?_
    refine xr_iald (rowj hj W) (xix_lit (j := 18) (by decide)) dX12_spring_17 ?_
    refine xr_bipush (v := 7) dX12_spring_18 (by decide) ?_
    refine xr_irem dX12_spring_20 (by decide) ?_
    refine xr_iast W.a8 (xix_lit (j := 0) (by decide)) dX12_spring_21 ?_
    refine xT.nm (fun zh1 zg1 => ?_)
    have W := u8x (W.p8 zg1)
    refine xr_al0 dX12_spring_22 ?_
    refine xr_get W.o fX12_33 rfl dX12_spring_23 ?_
    refine xr_ic1 dX12_spring_26 ?_
    refine xr_al1 dX12_spring_27 ?_
    refine xr_bipush (v := 14) dX12_spring_28 (by decide) ?_
    refine xr_iald (rowj hj W) (xix_lit (j := 14) (by decide)) dX12_spring_30 ?_
    refine xr_iast W.a8 (xix_lit (j := 1) (by decide)) dX12_spring_31 ?_
    refine xT.nm (fun zh2 zg2 => ?_)
    have W := u8x (W.p8 zg2)
    refine xr_al0 dX12_spring_32 ?_
    refine xr_get W.o fX12_33 rfl dX12_spring_33 ?_
    refine xr_ic2 dX12_spring_36 ?_
    refine xr_al1 dX12_spring_37 ?_
    refine xr_bipush (v := 10) dX12_spring_38 (by decide) ?_
    refine xr_iald (rowj hj W) (xix_lit (j := 10) (by decide)) dX12_spring_40 ?_
    refine xr_iast W.a8 (xix_lit (j := 2) (by decide)) dX12_spring_41 ?_
    refine xT.nm (fun zh3 zg3 => ?_)
    have W := u8x (W.p8 zg3)
    refine xr_al0 dX12_spring_42 ?_
    refine xr_get W.o fX12_33 rfl dX12_spring_43 ?_
    refine xr_ic3 dX12_spring_46 ?_
    refine xr_al1 dX12_spring_47 ?_
    refine xr_bipush (v := 11) dX12_spring_48 (by decide) ?_
    refine xr_iald (rowj hj W) (xix_lit (j := 11) (by decide)) dX12_spring_50 ?_
    refine xr_iast W.a8 (xix_lit (j := 3) (by decide)) dX12_spring_51 ?_
    refine xT.nm (fun zh4 zg4 => ?_)
    have W := u8x (W.p8 zg4)
    refine xr_al0 dX12_spring_52 ?_
    refine xr_get W.o fX12_33 rfl dX12_spring_53 ?_
    refine xr_ic4 dX12_spring_56 ?_
    refine xr_al1 dX12_spring_57 ?_
    refine xr_ic0 dX12_spring_58 ?_
    refine xr_al1 dX12_spring_59 ?_
    refine xr_ic0 dX12_spring_60 ?_
    refine xr_Si2 (s_mAllOf (rowj hj W) okw (s := 0) (by decide)) kX12_187 (by decide) (Nat.le_of_ble_eq_true rfl) (Nat.zero_add _) (Nat.zero_add _) dX12_spring_61 ?_
    refine xr_Si3 (s_mWeightOf (rowj hj W) okw (s := 0) (by decide) _) kX12_191 (by decide) (Nat.le_of_ble_eq_true rfl) (Nat.zero_add _) (Nat.zero_add _) dX12_spring_64 ?_
    refine xr_iast W.a8 (xix_lit (j := 4) (by decide)) dX12_spring_67 ?_
    refine xT.nm (fun zh5 zg5 => ?_)
    have W := u8x (W.p8 zg5)
    refine xr_al0 dX12_spring_68 ?_
    refine xr_get W.o fX12_33 rfl dX12_spring_69 ?_
    refine xr_ic5 dX12_spring_72 ?_
    refine xr_al1 dX12_spring_73 ?_
    refine xr_bipush (v := 13) dX12_spring_74 (by decide) ?_
    refine xr_iald (rowj hj W) (xix_lit (j := 13) (by decide)) dX12_spring_76 ?_
    refine xr_iast W.a8 (xix_lit (j := 5) (by decide)) dX12_spring_77 ?_
    refine xT.nm (fun zh6 zg6 => ?_)
    have W := u8x (W.p8 zg6)
    refine xr_al0 dX12_spring_78 ?_
    refine xr_get W.o fX12_33 rfl dX12_spring_79 ?_
    refine xr_bipush (v := 6) dX12_spring_82 (by decide) ?_
    refine xr_al1 dX12_spring_84 ?_
    refine xr_bipush (v := 17) dX12_spring_85 (by decide) ?_
    refine xr_iald (rowj hj W) (xix_lit (j := 17) (by decide)) dX12_spring_87 ?_
    refine xr_ic5 dX12_spring_88 ?_
    refine xr_irem dX12_spring_89 (by decide) ?_
    refine xr_iast W.a8 (xix_lit (j := 6) (by decide)) dX12_spring_90 ?_
    refine xT.nm (fun zh7 zg7 => ?_)
    have W := u8x (W.p8 zg7)
    refine xr_al0 dX12_spring_91 ?_
    refine xr_al0 dX12_spring_92 ?_
    refine xr_get W.o fX12_27 rfl dX12_spring_93 ?_
    refine xr_al0 dX12_spring_96 ?_
    refine xr_get W.o fX12_180 rfl dX12_spring_97 ?_
    refine xr_eqi (y := nI tn) h15 ?_
    refine xr_bipush (v := 40) dX12_spring_100 (by decide) ?_
    refine xr_Vpv3 (s_mBegin W _ _ _) kX12_111 (by decide) (Nat.le_of_ble_eq_true rfl) (Nat.zero_add _) (Nat.zero_add _) dX12_spring_102 (fun zh8 zq8 => ?_)
    have W := zq8
    refine xr_al0 dX12_spring_105 ?_
    refine xr_ic1 dX12_spring_106 ?_
    refine xr_put W.o fX12_173 (Nat.le_of_ble_eq_true rfl) rfl rfl dX12_spring_107 ?_
    refine xT.nm (fun zh9 zg9 => ?_)
    have W := W.f16 zg9
    rw [sp_rdm] at W
    have Z : rQ (rlM m tn 1) q tn 40 := ⟨rfl, rfl, h80, Or.inr ⟨hq, by decide⟩⟩
    have T1 : ∀ j', j' < tn → (uu U 8 (asF (U 8) (U j))) q j' &&& 255 = tf j' ∧ byt ((uu U 8 (asF (U 8) (U j))) q j') := by
      rcases hq with rfl | rfl <;> exact T0
    refine xr_al0 dX12_spring_110 ?_
    refine xr_ic0 dX12_spring_111 ?_
    refine xr_Vpi1 (r_hd40 (m := (rlM m tn 1)) (q := q) (u := (uu U 8 (asF (U 8) (U j)))) Z T1 _ [] [] 0 0 0 (by omega) (by omega) (by omega) (by omega) ⟨fun _ _ q => (nomatch q), by decide⟩ W) kX12_160 (by omega) (Nat.le_of_ble_eq_true rfl) (Nat.zero_add _) (Nat.zero_add _) dX12_spring_112 (fun zo zh10 zq10 => ?_)
    obtain ⟨p', w, bp, W, -, ew⟩ := r_top (B := B) (l := l) (tf := tf) Z T1 tn0 zq10
    refine xr_is2 dX12_spring_115 (by decide) rfl ?_
    refine xr_al0 dX12_spring_116 ?_
    refine xr_ic0 dX12_spring_117 ?_
    refine xr_put W.o fX12_173 (Nat.le_of_ble_eq_true rfl) rfl rfl dX12_spring_118 ?_
    refine xT.nm (fun zh11 zg11 => ?_)
    have W := W.f16 zg11
    refine xr_ic0 dX12_spring_121 ?_
    refine xr_bipush (v := 9) dX12_spring_122 (by decide) ?_
    refine xr_il2 dX12_spring_124 ?_
    refine xr_min kmX12_195 ms_min wz_J9 mc_min (by decide) (Nat.le_of_ble_eq_true rfl) dX12_spring_125 ?_
    refine xr_max kmX12_201 ms_max wz_J9 mc_max (by decide) (Nat.le_of_ble_eq_true rfl) dX12_spring_128 ?_
    refine xr_iret dX12_spring_131 rfl ?_
    refine ⟨_, rfl, ?_, ?_⟩
    · rw [ruF_1 tn0 ((evL_cg (al' := alM (rlM m tn 1) (uu U 8 (asF (U 8) (U j)))) (fun c hc => (as_nmd R ok c hc).symm) _ (rdV_I tn0 hok).2.1).trans (ew hok))]
      rfl
    · rw [sp_scm] at W
      exact ⟨_, _, _, _, _, _, _, W⟩
theorem uu_jj (u : Nat → Nat → Int32) (j : Nat) (w : xs) : uu u j w j = w := if_pos rfl
theorem uu_ij (u : Nat → Nat → Int32) {i j : Nat} (w : xs) (h : i ≠ j) : uu u j w i = u i := if_neg h
theorem mSp6 {K : xK} {B : Nat} {l : Launch} {Y tn : Nat} {tf r6 : xs} (h80 : tn ≤ 80) (T0 : ∀ j, j < tn → r6 j &&& 255 = tf j ∧ byt (r6 j)) (hok : (rdV tf tn).1 = -1) : maL K B l Y (nI tn) r6 (ruF tf tn) := by
  intro w7 h0 h m rd ot u v j w hj W h15 h6 h7 σ ok R
  exact s_mSpring (q := 6) hj (Or.inl rfl) W h15 h80 (by rw [uu_ij u w (by omega), h6]; exact T0) hok ok (by rw [uu_jj]; exact R)
theorem mSp7 {K : xK} {B : Nat} {l : Launch} {Y tn : Nat} {tf r6 r7 : xs} (h80 : tn ≤ 80) (T0 : ∀ j, j < tn → r7 j &&& 255 = tf j ∧ byt (r7 j)) (hok : (rdV tf tn).1 = -1) : mSp K B l Y (Y + 7) (nI tn) r6 r7 (ruF tf tn) := by
  intro h0 h m rd ot u v j w hj W h15 h6 h7 σ ok R
  exact s_mSpring (q := 7) hj (Or.inr rfl) W h15 h80 (by rw [uu_ij u w (by omega), h7]; exact T0) hok ok (by rw [uu_jj]; exact R)
theorem rdV_40 {x : xs} {tn : Nat} (h : (rdV x tn).1 = -1) : tn ≤ 40 := by
  by_cases t0 : tn = 0
  · omega
  refine Decidable.not_not.mp (fun z => ?_)
  unfold rdV at h
  rw [if_neg t0] at h
  obtain ⟨I, O⟩ := rdN_I (x := x) (tn := tn) 40 (S := rS0) ⟨fun _ q => (nomatch q), fun _ q => (nomatch q), rfl, rfl⟩ ⟨by decide, by decide, by decide⟩
  generalize rdN x tn 40 rS0 = R at h O
  obtain ⟨⟨sh, ou, p, d, c, u⟩, b⟩ := R
  obtain ⟨o1, o2, o3⟩ := O
  dsimp only at o2
  unfold rdF at h
  dsimp only at h
  cases b with
  | false =>
    rw [if_pos rfl] at h
    exact absurd h (nI_m1 (by omega))
  | true =>
    rw [if_neg (by decide), if_pos (Or.inr (Or.inr (by omega)))] at h
    exact absurd h (nI_m1 (by omega))
