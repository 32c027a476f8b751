/-! The model's static methods over its rows (written by wip/whole/mod1.py) -/
theorem and1 (x : Int32) : x &&& 1 = 0 ∨ x &&& 1 = 1 := by
  have q : ¬ ((x &&& 1) < 0 ∨ 2 ≤ (x &&& 1).toNatClampNeg) := pk_andIn x 1 (by decide) (by decide)
  rcases pk_ix (x &&& 1) (n := 2) (by decide) with z | z | ⟨j, hj, e⟩
  · exact absurd (Or.inl z) q
  · exact absurd (Or.inr (by
      have e := Int32.le_iff_toInt_le.mp z
      show 2 ≤ (x &&& 1).toInt.toNat
      have e2 : (2 : Int32).toInt = 2 := rfl
      have : (nI 2).toInt = 2 := rfl
      omega)) q
  · rw [e]
    rcases (show j = 0 ∨ j = 1 by omega) with rfl | rfl
    · exact Or.inl rfl
    · exact Or.inr rfl
theorem hOk_at {f : xs} (ok : hOk f) {s : Nat} (hs : s < 2) : f (10 + s) = nI (ln f s) ∧ ln f s ≤ 5 := ok.1 s hs
def mIn (v a b : Int32) : Int32 := bI (¬ v < a ∧ ¬ b < v)
def mHas (g k : Int32) : Int32 := bI ((g >>> (k &&& 31) &&& 1) = 1)
set_option maxRecDepth 20000 in
theorem s_mIn {K : xK} {B : Nat} {l : Launch} {h : xH} (v a b : Int32) : xU K B l 0 mX12_in 0 0 [.int v, .int a, .int b] h (xQi (mIn v a b) h) := by
  refine ⟨qX12_in, ?_⟩
  refine xS.intro RX12 false ⟨rfl, rfl, by decide, by decide, Nat.le_of_ble_eq_true rfl⟩ (ls := [some (.int v), some (.int a), some (.int b)]) rfl ?_
  refine xr_il0 dX12_in_0 ?_
  refine xr_il1 dX12_in_1 ?_
  refine xr_icmplt (tgt := 14) dX12_in_2 (by decide) (fun zc2 => ?_) (fun zc2 => ?_)
  · skip
    refine xr_ic0 dX12_in_14 ?_
    refine xr_zret dX12_in_15 rfl (by first | rfl | decide | assumption) ?_
    exact ⟨by unfold mIn; rw [bI_f (fun q => q.1 zc2)], rfl⟩
  · skip
    refine xr_il0 dX12_in_5 ?_
    refine xr_il2 dX12_in_6 ?_
    refine xr_icmpgt (tgt := 14) dX12_in_7 (by decide) (fun zc7 => ?_) (fun zc7 => ?_)
    · skip
      refine xr_ic0 dX12_in_14 ?_
      refine xr_zret dX12_in_15 rfl (by first | rfl | decide | assumption) ?_
      exact ⟨by unfold mIn; rw [bI_f (fun q => q.2 zc7)], rfl⟩
    · skip
      refine xr_ic1 dX12_in_10 ?_
      refine xr_goto (tgt := 15) dX12_in_11 (by decide) ?_
      refine xr_zret dX12_in_15 rfl (by first | rfl | decide | assumption) ?_
      exact ⟨by unfold mIn; rw [bI_t ⟨zc2, zc7⟩], rfl⟩
set_option maxRecDepth 20000 in
theorem s_mHas {K : xK} {B : Nat} {l : Launch} {h : xH} (g k : Int32) : xU K B l 0 mX12_has 0 0 [.int g, .int k] h (xQi (mHas g k) h) := by
  refine ⟨qX12_has, ?_⟩
  refine xS.intro RX12 false ⟨rfl, rfl, by decide, by decide, Nat.le_of_ble_eq_true rfl⟩ (ls := [some (.int g), some (.int k)]) rfl ?_
  refine xr_il0 dX12_has_0 ?_
  refine xr_il1 dX12_has_1 ?_
  refine xr_ishr dX12_has_2 ?_
  refine xr_ic1 dX12_has_3 ?_
  refine xr_iand dX12_has_4 ?_
  refine xr_ic1 dX12_has_5 ?_
  refine xr_icmpne (tgt := 13) dX12_has_6 (by decide) (fun zc6 => ?_) (fun zc6 => ?_)
  · skip
    refine xr_ic0 dX12_has_13 ?_
    refine xr_zret dX12_has_14 rfl (by first | rfl | decide | assumption) ?_
    exact ⟨by unfold mHas; rw [bI_f zc6], rfl⟩
  · skip
    refine xr_ic1 dX12_has_9 ?_
    refine xr_goto (tgt := 14) dX12_has_10 (by decide) ?_
    refine xr_zret dX12_has_14 rfl (by first | rfl | decide | assumption) ?_
    exact ⟨by unfold mHas; rw [bI_t zc6], rfl⟩
set_option maxRecDepth 20000 in
theorem s_mWaits {K : xK} {B : Nat} {l : Launch} {h : xH} {a : Nat} {f : xs} (H : h.2 a = some (iA K 19 f)) : xU K B l 0 mX12_waits 0 0 [.ref a] h (xQi (f 10 + f 11) h) := by
  refine ⟨qX12_waits, ?_⟩
  refine xS.intro RX12 false ⟨rfl, rfl, by decide, by decide, Nat.le_of_ble_eq_true rfl⟩ (ls := [some (.ref a)]) rfl ?_
  refine xr_al0 dX12_waits_0 ?_
  refine xr_bipush (v := 10) dX12_waits_1 (by decide) ?_
  refine xr_iald H (xix_lit (j := 10) (by decide)) dX12_waits_3 ?_
  refine xr_al0 dX12_waits_4 ?_
  refine xr_bipush (v := 11) dX12_waits_5 (by decide) ?_
  refine xr_iald H (xix_lit (j := 11) (by decide)) dX12_waits_7 ?_
  refine xr_iadd dX12_waits_8 ?_
  refine xr_iret dX12_waits_9 rfl ?_
  exact ⟨rfl, rfl⟩
set_option maxRecDepth 20000 in
theorem s_mAllOf {K : xK} {B : Nat} {l : Launch} {h : xH} {a : Nat} {f : xs} (H : h.2 a = some (iA K 19 f)) (ok : hOk f) {s : Nat} (hs : s < 2) : xU K B l 0 mX12_allOf 0 0 [.ref a, .int (nI s)] h (xQi (hAll f (nI s)) h) := by
  refine ⟨qX12_allOf, ?_⟩
  refine xS.intro RX12 false ⟨rfl, rfl, by decide, by decide, Nat.le_of_ble_eq_true rfl⟩ (ls := [some (.ref a), some (.int (nI s))]) rfl ?_
  refine xr_ic1 dX12_allOf_0 ?_
  refine xr_al0 dX12_allOf_1 ?_
  refine xr_bipush (v := 10) dX12_allOf_2 (by decide) ?_
  refine xr_il1 dX12_allOf_4 ?_
  refine xr_iadd dX12_allOf_5 ?_
  refine xr_eqi (y := nI (10 + s)) (nI_add 10 s) ?_
  refine xr_iald H (xix_nI (n := 19) (j := 10 + s) (by omega) (by decide)) dX12_allOf_6 ?_
  refine xr_ishl dX12_allOf_7 ?_
  refine xr_ic1 dX12_allOf_8 ?_
  refine xr_isub dX12_allOf_9 ?_
  refine xr_iret dX12_allOf_10 rfl ?_
  exact ⟨by unfold hAll; rw [hWaits_s hs], rfl⟩
set_option maxRecDepth 20000 in
theorem s_mNextOf {K : xK} {B : Nat} {l : Launch} {h : xH} {a : Nat} {f : xs} (H : h.2 a = some (iA K 19 f)) (ok : hOk f) {s : Nat} (hs : s < 2) : xU K B l 1 mX12_nextOf 0 0 [.ref a, .int (nI s)] h (xQi (hNext f (nI s)) h) := by
  refine ⟨qX12_nextOf, ?_⟩
  refine xS.intro RX12 false ⟨rfl, rfl, by decide, by decide, Nat.le_of_ble_eq_true rfl⟩ (ls := [some (.ref a), some (.int (nI s))]) rfl ?_
  refine xr_ic1 dX12_nextOf_0 ?_
  refine xr_al0 dX12_nextOf_1 ?_
  refine xr_bipush (v := 12) dX12_nextOf_2 (by decide) ?_
  refine xr_iald H (xix_lit (j := 12) (by decide)) dX12_nextOf_4 ?_
  refine xr_al0 dX12_nextOf_5 ?_
  refine xr_bipush (v := 10) dX12_nextOf_6 (by decide) ?_
  refine xr_il1 dX12_nextOf_8 ?_
  refine xr_iadd dX12_nextOf_9 ?_
  refine xr_eqi (y := nI (10 + s)) (nI_add 10 s) ?_
  refine xr_iald H (xix_nI (n := 19) (j := 10 + s) (by omega) (by decide)) dX12_nextOf_10 ?_
  refine xr_min kmX12_195 ms_min wz_J9 mc_min (by decide) (Nat.le_of_ble_eq_true rfl) dX12_nextOf_11 ?_
  refine xr_ishl dX12_nextOf_14 ?_
  refine xr_ic1 dX12_nextOf_15 ?_
  refine xr_isub dX12_nextOf_16 ?_
  refine xr_iret dX12_nextOf_17 rfl ?_
  exact ⟨by unfold hNext; rw [hWaits_s hs]; rfl, rfl⟩
set_option maxRecDepth 20000 in
theorem lp_mWeightOf {K : xK} {B : Nat} {l : Launch} {h : xH} {a : Nat} {f : xs} (H : h.2 a = some (iA K 19 f)) (ok : hOk f) {s : Nat} (hs : s < 2) (g : Int32) : ∀ (r k : Nat), k + r = ln f s → xT K B l 1 RX12 false cX12_weightOf 5 (some .int) 0 0 0 0 (xQi (wt f s g) h) 5 [some (.ref a), some (.int (nI s)), some (.int g), some (.int (wtN f s g k)), some (.int (nI k))] [] h := by
  have h5 := (hOk_at ok hs).2
  intro r
  induction r with
  | zero =>
    intro k hk
    have hk' : k = ln f s := hk
    refine xr_il4 dX12_weightOf_5 ?_
    refine xr_al0 dX12_weightOf_7 ?_
    refine xr_bipush (v := 10) dX12_weightOf_8 (by decide) ?_
    refine xr_il1 dX12_weightOf_10 ?_
    refine xr_iadd dX12_weightOf_11 ?_
    refine xr_eqi (y := nI (10 + s)) (nI_add 10 s) ?_
    refine xr_iald H (xix_nI (n := 19) (j := 10 + s) (by omega) (by decide)) dX12_weightOf_12 ?_
    refine xr_eqi (hOk_at ok hs).1 ?_
    refine xr_icmpge (tgt := 46) dX12_weightOf_13 (by decide) (fun zc13 => ?_) (fun zc13 => ?_)
    · skip
      refine xr_il3 dX12_weightOf_46 ?_
      refine xr_iret dX12_weightOf_47 rfl ?_
      exact ⟨by unfold wt; rw [← hk'], rfl⟩
    · skip
      exact absurd (nI_le (by omega) (by omega)) zc13
  | succ r ih =>
    intro k hk
    refine xr_il4 dX12_weightOf_5 ?_
    refine xr_al0 dX12_weightOf_7 ?_
    refine xr_bipush (v := 10) dX12_weightOf_8 (by decide) ?_
    refine xr_il1 dX12_weightOf_10 ?_
    refine xr_iadd dX12_weightOf_11 ?_
    refine xr_eqi (y := nI (10 + s)) (nI_add 10 s) ?_
    refine xr_iald H (xix_nI (n := 19) (j := 10 + s) (by omega) (by decide)) dX12_weightOf_12 ?_
    refine xr_eqi (hOk_at ok hs).1 ?_
    refine xr_icmpge (tgt := 46) dX12_weightOf_13 (by decide) (fun zc13 => ?_) (fun zc13 => ?_)
    · skip
      exact absurd zc13 (nI_ge (by omega) (by omega))
    · skip
      refine xr_il3 dX12_weightOf_16 ?_
      refine xr_il2 dX12_weightOf_17 ?_
      refine xr_il4 dX12_weightOf_18 ?_
      refine xr_Si2 (s_mHas _ _) kX12_183 (by decide) (Nat.le_of_ble_eq_true rfl) (Nat.zero_add _) (Nat.zero_add _) dX12_weightOf_20 ?_
      refine xr_ifeq (tgt := 37) dX12_weightOf_23 (by decide) (fun zc23 => ?_) (fun zc23 => ?_)
      · skip
        refine xr_ic0 dX12_weightOf_37 ?_
        refine xr_iadd dX12_weightOf_38 ?_
        refine xr_is3 dX12_weightOf_39 (by decide) rfl ?_
        refine xr_inc4 dX12_weightOf_40 (nI_inc k) (by decide) rfl ?_
        refine xr_goto (tgt := 5) dX12_weightOf_43 (by decide) ?_
        have c1 : (g >>> (nI k &&& 31) &&& 1) = 0 := (and1 _).resolve_right (bI_0.mp zc23)
        have e : wtN f s g (k + 1) = wtN f s g k + 0 := by
          show wtN f s g k + (g >>> (nI k &&& 31) &&& 1) * f (5 * s + k) = _
          rw [c1, Int32.zero_mul]
        rw [← e]
        exact ih (k + 1) (by omega)
      · skip
        refine xr_al0 dX12_weightOf_26 ?_
        refine xr_ic5 dX12_weightOf_27 ?_
        refine xr_il1 dX12_weightOf_28 ?_
        refine xr_imul dX12_weightOf_29 ?_
        refine xr_eqi (y := nI (5 * s)) (pk_mul 5 s) ?_
        refine xr_il4 dX12_weightOf_30 ?_
        refine xr_iadd dX12_weightOf_32 ?_
        refine xr_eqi (y := nI (5 * s + k)) (nI_add _ _) ?_
        refine xr_iald H (xix_nI (n := 19) (j := 5 * s + k) (by omega) (by decide)) dX12_weightOf_33 ?_
        refine xr_goto (tgt := 38) dX12_weightOf_34 (by decide) ?_
        refine xr_iadd dX12_weightOf_38 ?_
        refine xr_is3 dX12_weightOf_39 (by decide) rfl ?_
        refine xr_inc4 dX12_weightOf_40 (nI_inc k) (by decide) rfl ?_
        refine xr_goto (tgt := 5) dX12_weightOf_43 (by decide) ?_
        have c1 : (g >>> (nI k &&& 31) &&& 1) = 1 := Decidable.not_not.mp (fun q => zc23 (bI_0.mpr q))
        have e : wtN f s g (k + 1) = wtN f s g k + f (5 * s + k) := by
          show wtN f s g k + (g >>> (nI k &&& 31) &&& 1) * f (5 * s + k) = _
          rw [c1, Int32.one_mul]
        rw [← e]
        exact ih (k + 1) (by omega)
set_option maxRecDepth 20000 in
theorem s_mWeightOf {K : xK} {B : Nat} {l : Launch} {h : xH} {a : Nat} {f : xs} (H : h.2 a = some (iA K 19 f)) (ok : hOk f) {s : Nat} (hs : s < 2) (g : Int32) : xU K B l 1 mX12_weightOf 0 0 [.ref a, .int (nI s), .int g] h (xQi (wt f s g) h) := by
  refine ⟨qX12_weightOf, ?_⟩
  refine xS.intro RX12 false ⟨rfl, rfl, by decide, by decide, Nat.le_of_ble_eq_true rfl⟩ (ls := [some (.ref a), some (.int (nI s)), some (.int g), none, none]) rfl ?_
  refine xr_ic0 dX12_weightOf_0 ?_
  refine xr_is3 dX12_weightOf_1 (by decide) rfl ?_
  refine xr_ic0 dX12_weightOf_2 ?_
  refine xr_is4 dX12_weightOf_3 (by decide) rfl ?_
  exact lp_mWeightOf H ok hs g (ln f s) 0 (by omega)
set_option maxRecDepth 20000 in
theorem s_mWater {K : xK} {B : Nat} {l : Launch} {h : xH} {a : Nat} {f : xs} (H : h.2 a = some (iA K 19 f)) (ok : hOk f) (x y : Int32) : xU K B l 2 mX12_water 0 0 [.ref a, .int x, .int y] h (xQi (hWater f x y) h) := by
  refine ⟨qX12_water, ?_⟩
  refine xS.intro RX12 false ⟨rfl, rfl, by decide, by decide, Nat.le_of_ble_eq_true rfl⟩ (ls := [some (.ref a), some (.int x), some (.int y)]) rfl ?_
  refine xr_ic0 dX12_water_0 ?_
  refine xr_al0 dX12_water_1 ?_
  refine xr_ic1 dX12_water_2 ?_
  refine xr_il2 dX12_water_3 ?_
  refine xr_Si3 (s_mWeightOf H ok (s := 1) (by decide) _) kX12_191 (by decide) (Nat.le_of_ble_eq_true rfl) (Nat.zero_add _) (Nat.zero_add _) dX12_water_4 ?_
  refine xr_al0 dX12_water_7 ?_
  refine xr_bipush (v := 13) dX12_water_8 (by decide) ?_
  refine xr_iald H (xix_lit (j := 13) (by decide)) dX12_water_10 ?_
  refine xr_iadd dX12_water_11 ?_
  refine xr_al0 dX12_water_12 ?_
  refine xr_ic0 dX12_water_13 ?_
  refine xr_il1 dX12_water_14 ?_
  refine xr_Si3 (s_mWeightOf H ok (s := 0) (by decide) _) kX12_191 (by decide) (Nat.le_of_ble_eq_true rfl) (Nat.zero_add _) (Nat.zero_add _) dX12_water_15 ?_
  refine xr_isub dX12_water_18 ?_
  refine xr_max kmX12_201 ms_max wz_J9 mc_max (by decide) (Nat.le_of_ble_eq_true rfl) dX12_water_19 ?_
  refine xr_iret dX12_water_22 rfl ?_
  exact ⟨rfl, rfl⟩
def mNW (f : xs) : Int32 := hWater f (hNext f 0) (hNext f 1)
set_option maxRecDepth 20000 in
theorem s_mNextWater {K : xK} {B : Nat} {l : Launch} {h : xH} {a : Nat} {f : xs} (H : h.2 a = some (iA K 19 f)) (ok : hOk f) : xU K B l 3 mX12_nextWater 0 0 [.ref a] h (xQi (mNW f) h) := by
  refine ⟨qX12_nextWater, ?_⟩
  refine xS.intro RX12 false ⟨rfl, rfl, by decide, by decide, Nat.le_of_ble_eq_true rfl⟩ (ls := [some (.ref a)]) rfl ?_
  refine xr_al0 dX12_nextWater_0 ?_
  refine xr_al0 dX12_nextWater_1 ?_
  refine xr_ic0 dX12_nextWater_2 ?_
  refine xr_Si2 (s_mNextOf H ok (s := 0) (by decide)) kX12_234 (by decide) (Nat.le_of_ble_eq_true rfl) (Nat.zero_add _) (Nat.zero_add _) dX12_nextWater_3 ?_
  refine xr_al0 dX12_nextWater_6 ?_
  refine xr_ic1 dX12_nextWater_7 ?_
  refine xr_Si2 (s_mNextOf H ok (s := 1) (by decide)) kX12_234 (by decide) (Nat.le_of_ble_eq_true rfl) (Nat.zero_add _) (Nat.zero_add _) dX12_nextWater_8 ?_
  refine xr_Si3 (s_mWater H ok _ _) kX12_218 (by decide) (Nat.le_of_ble_eq_true rfl) (Nat.zero_add _) (Nat.zero_add _) dX12_nextWater_11 ?_
  refine xr_iret dX12_nextWater_14 rfl ?_
  exact ⟨rfl, rfl⟩
set_option maxRecDepth 20000 in
theorem s_mCanGo {K : xK} {B : Nat} {l : Launch} {h : xH} {a : Nat} {f : xs} (H : h.2 a = some (iA K 19 f)) (ok : hOk f) : xU K B l 4 mX12_canGo 0 0 [.ref a] h (xQi (bI (¬ f 10 + f 11 ≤ 0 ∧ ¬ f 14 < mNW f)) h) := by
  refine ⟨qX12_canGo, ?_⟩
  refine xS.intro RX12 false ⟨rfl, rfl, by decide, by decide, Nat.le_of_ble_eq_true rfl⟩ (ls := [some (.ref a)]) rfl ?_
  refine xr_al0 dX12_canGo_0 ?_
  refine xr_Si1 (s_mWaits H) kX12_240 (by decide) (Nat.le_of_ble_eq_true rfl) (Nat.zero_add _) (Nat.zero_add _) dX12_canGo_1 ?_
  refine xr_ifle (tgt := 22) dX12_canGo_4 (by decide) (fun zc4 => ?_) (fun zc4 => ?_)
  · skip
    refine xr_ic0 dX12_canGo_22 ?_
    refine xr_zret dX12_canGo_23 rfl (by first | rfl | decide | assumption) ?_
    exact ⟨by rw [bI_f (fun q => q.1 zc4)], rfl⟩
  · skip
    refine xr_al0 dX12_canGo_7 ?_
    refine xr_Si1 (s_mNextWater H ok) kX12_243 (by decide) (Nat.le_of_ble_eq_true rfl) (Nat.zero_add _) (Nat.zero_add _) dX12_canGo_8 ?_
    refine xr_al0 dX12_canGo_11 ?_
    refine xr_bipush (v := 14) dX12_canGo_12 (by decide) ?_
    refine xr_iald H (xix_lit (j := 14) (by decide)) dX12_canGo_14 ?_
    refine xr_icmpgt (tgt := 22) dX12_canGo_15 (by decide) (fun zc15 => ?_) (fun zc15 => ?_)
    · skip
      refine xr_ic0 dX12_canGo_22 ?_
      refine xr_zret dX12_canGo_23 rfl (by first | rfl | decide | assumption) ?_
      exact ⟨by rw [bI_f (fun q => q.2 zc15)], rfl⟩
    · skip
      refine xr_ic1 dX12_canGo_18 ?_
      refine xr_goto (tgt := 23) dX12_canGo_19 (by decide) ?_
      refine xr_zret dX12_canGo_23 rfl (by first | rfl | decide | assumption) ?_
      exact ⟨by rw [bI_t ⟨zc4, zc15⟩], rfl⟩
def mRef (f : xs) : Int32 := if f 10 + f 11 = 0 then -2 else if mNW f ≤ f 14 then 0 else -3
set_option maxRecDepth 20000 in
theorem s_mRefuses {K : xK} {B : Nat} {l : Launch} {h : xH} {a : Nat} {f : xs} (H : h.2 a = some (iA K 19 f)) (ok : hOk f) : xU K B l 4 mX12_refusesTrip 0 0 [.ref a] h (xQi (mRef f) h) := by
  refine ⟨qX12_refusesTrip, ?_⟩
  refine xS.intro RX12 false ⟨rfl, rfl, by decide, by decide, Nat.le_of_ble_eq_true rfl⟩ (ls := [some (.ref a)]) rfl ?_
  refine xr_al0 dX12_refusesTrip_0 ?_
  refine xr_Si1 (s_mWaits H) kX12_240 (by decide) (Nat.le_of_ble_eq_true rfl) (Nat.zero_add _) (Nat.zero_add _) dX12_refusesTrip_1 ?_
  refine xr_ifne (tgt := 10) dX12_refusesTrip_4 (by decide) (fun zc4 => ?_) (fun zc4 => ?_)
  · skip
    refine xr_al0 dX12_refusesTrip_10 ?_
    refine xr_Si1 (s_mNextWater H ok) kX12_243 (by decide) (Nat.le_of_ble_eq_true rfl) (Nat.zero_add _) (Nat.zero_add _) dX12_refusesTrip_11 ?_
    refine xr_al0 dX12_refusesTrip_14 ?_
    refine xr_bipush (v := 14) dX12_refusesTrip_15 (by decide) ?_
    refine xr_iald H (xix_lit (j := 14) (by decide)) dX12_refusesTrip_17 ?_
    refine xr_icmple (tgt := 26) dX12_refusesTrip_18 (by decide) (fun zc18 => ?_) (fun zc18 => ?_)
    · skip
      refine xr_ic0 dX12_refusesTrip_26 ?_
      refine xr_iret dX12_refusesTrip_27 rfl ?_
      exact ⟨by unfold mRef; rw [if_neg zc4, if_pos zc18], rfl⟩
    · skip
      refine xr_bipush (v := (-3)) dX12_refusesTrip_21 (by decide) ?_
      refine xr_goto (tgt := 27) dX12_refusesTrip_23 (by decide) ?_
      refine xr_iret dX12_refusesTrip_27 rfl ?_
      exact ⟨by unfold mRef; rw [if_neg zc4, if_neg zc18], rfl⟩
  · skip
    refine xr_bipush (v := (-2)) dX12_refusesTrip_7 (by decide) ?_
    refine xr_iret dX12_refusesTrip_9 rfl ?_
    exact ⟨by unfold mRef; rw [if_pos zc4], rfl⟩
def mGet (x y v : Int32) : Int32 := if v < x + y then x / 2 - 1 else x + (v - x - y) / 4
set_option maxRecDepth 20000 in
theorem s_mGets {K : xK} {B : Nat} {l : Launch} {h : xH} (x y v : Int32) : xU K B l 0 mX12_gets 0 0 [.int x, .int y, .int v] h (xQi (mGet x y v) h) := by
  refine ⟨qX12_gets, ?_⟩
  refine xS.intro RX12 false ⟨rfl, rfl, by decide, by decide, Nat.le_of_ble_eq_true rfl⟩ (ls := [some (.int x), some (.int y), some (.int v)]) rfl ?_
  refine xr_il0 dX12_gets_0 ?_
  refine xr_il1 dX12_gets_1 ?_
  refine xr_iadd dX12_gets_2 ?_
  refine xr_il2 dX12_gets_3 ?_
  refine xr_icmpgt (tgt := 19) dX12_gets_4 (by decide) (fun zc4 => ?_) (fun zc4 => ?_)
  · skip
    refine xr_il0 dX12_gets_19 ?_
    refine xr_ic2 dX12_gets_20 ?_
    refine xr_idiv dX12_gets_21 (by decide) ?_
    refine xr_ic1 dX12_gets_22 ?_
    refine xr_isub dX12_gets_23 ?_
    refine xr_iret dX12_gets_24 rfl ?_
    exact ⟨by unfold mGet; rw [if_pos zc4], rfl⟩
  · skip
    refine xr_il0 dX12_gets_7 ?_
    refine xr_il2 dX12_gets_8 ?_
    refine xr_il0 dX12_gets_9 ?_
    refine xr_isub dX12_gets_10 ?_
    refine xr_il1 dX12_gets_11 ?_
    refine xr_isub dX12_gets_12 ?_
    refine xr_ic4 dX12_gets_13 ?_
    refine xr_idiv dX12_gets_14 (by decide) ?_
    refine xr_iadd dX12_gets_15 ?_
    refine xr_goto (tgt := 24) dX12_gets_16 (by decide) ?_
    refine xr_iret dX12_gets_24 rfl ?_
    exact ⟨by unfold mGet; rw [if_neg zc4], rfl⟩
set_option maxRecDepth 20000 in
theorem s_mRunsBy {K : xK} {B : Nat} {l : Launch} {h : xH} (x y : Int32) : xU K B l 1 mX12_runsBy 0 0 [.int x, .int y] h (xQi (mIn y (x / 8) (5 + remI x 8)) h) := by
  refine ⟨qX12_runsBy, ?_⟩
  refine xS.intro RX12 false ⟨rfl, rfl, by decide, by decide, Nat.le_of_ble_eq_true rfl⟩ (ls := [some (.int x), some (.int y)]) rfl ?_
  refine xr_il1 dX12_runsBy_0 ?_
  refine xr_il0 dX12_runsBy_1 ?_
  refine xr_bipush (v := 8) dX12_runsBy_2 (by decide) ?_
  refine xr_idiv dX12_runsBy_4 (by decide) ?_
  refine xr_ic5 dX12_runsBy_5 ?_
  refine xr_il0 dX12_runsBy_6 ?_
  refine xr_bipush (v := 8) dX12_runsBy_7 (by decide) ?_
  refine xr_irem dX12_runsBy_9 (by decide) ?_
  refine xr_iadd dX12_runsBy_10 ?_
  refine xr_Si3 (s_mIn _ _ _) kX12_89 (by decide) (Nat.le_of_ble_eq_true rfl) (Nat.zero_add _) (Nat.zero_add _) dX12_runsBy_11 ?_
  refine xr_zret dX12_runsBy_14 rfl (bI_n _) ?_
  exact ⟨rfl, rfl⟩
def mLow (w : Int32) : Int32 := if w = 1 then 1 else 0
def mHigh (w : Int32) : Int32 := if w = 1 then 9 else if w = 2 then 4 else 1
set_option maxRecDepth 20000 in
theorem s_mLow {K : xK} {B : Nat} {l : Launch} {h : xH} (w : Int32) : xU K B l 0 mX12_lowOf 0 0 [.int w] h (xQi (mLow w) h) := by
  refine ⟨qX12_lowOf, ?_⟩
  refine xS.intro RX12 false ⟨rfl, rfl, by decide, by decide, Nat.le_of_ble_eq_true rfl⟩ (ls := [some (.int w)]) rfl ?_
  refine xr_il0 dX12_lowOf_0 ?_
  refine xr_ic1 dX12_lowOf_1 ?_
  refine xr_icmpne (tgt := 9) dX12_lowOf_2 (by decide) (fun zc2 => ?_) (fun zc2 => ?_)
  · skip
    refine xr_ic0 dX12_lowOf_9 ?_
    refine xr_iret dX12_lowOf_10 rfl ?_
    exact ⟨by unfold mLow; rw [if_neg zc2], rfl⟩
  · skip
    refine xr_ic1 dX12_lowOf_5 ?_
    refine xr_goto (tgt := 10) dX12_lowOf_6 (by decide) ?_
    refine xr_iret dX12_lowOf_10 rfl ?_
    exact ⟨by unfold mLow; rw [if_pos zc2], rfl⟩
set_option maxRecDepth 20000 in
theorem s_mHigh {K : xK} {B : Nat} {l : Launch} {h : xH} (w : Int32) : xU K B l 0 mX12_highOf 0 0 [.int w] h (xQi (mHigh w) h) := by
  refine ⟨qX12_highOf, ?_⟩
  refine xS.intro RX12 false ⟨rfl, rfl, by decide, by decide, Nat.le_of_ble_eq_true rfl⟩ (ls := [some (.int w)]) rfl ?_
  refine xr_il0 dX12_highOf_0 ?_
  refine xr_ic1 dX12_highOf_1 ?_
  refine xr_icmpne (tgt := 10) dX12_highOf_2 (by decide) (fun zc2 => ?_) (fun zc2 => ?_)
  · skip
    refine xr_il0 dX12_highOf_10 ?_
    refine xr_ic2 dX12_highOf_11 ?_
    refine xr_icmpne (tgt := 19) dX12_highOf_12 (by decide) (fun zc12 => ?_) (fun zc12 => ?_)
    · skip
      refine xr_ic1 dX12_highOf_19 ?_
      refine xr_iret dX12_highOf_20 rfl ?_
      exact ⟨by unfold mHigh; rw [if_neg zc2, if_neg zc12], rfl⟩
    · skip
      refine xr_ic4 dX12_highOf_15 ?_
      refine xr_goto (tgt := 20) dX12_highOf_16 (by decide) ?_
      refine xr_iret dX12_highOf_20 rfl ?_
      exact ⟨by unfold mHigh; rw [if_neg zc2, if_pos zc12], rfl⟩
  · skip
    refine xr_bipush (v := 9) dX12_highOf_5 (by decide) ?_
    refine xr_goto (tgt := 20) dX12_highOf_7 (by decide) ?_
    refine xr_iret dX12_highOf_20 rfl ?_
    exact ⟨by unfold mHigh; rw [if_pos zc2], rfl⟩
def mLet (c : Int32) : Int32 := if c = 110 then 0 else if c = 99 then 1 else if c = 117 then 2 else if c = 100 then 3 else if c = 119 then 4 else if c = 103 then 5 else if c = 116 then 6 else -1
set_option maxRecDepth 20000 in
theorem s_mLet {K : xK} {B : Nat} {l : Launch} {h : xH} (c : Int32) : xU K B l 0 mX12_letterOf 0 0 [.int c] h (xQi (mLet c) h) := by
  refine ⟨qX12_letterOf, ?_⟩
  refine xS.intro RX12 false ⟨rfl, rfl, by decide, by decide, Nat.le_of_ble_eq_true rfl⟩ (ls := [some (.int c)]) rfl ?_
  refine xr_il0 dX12_letterOf_0 ?_
  refine xr_bipush (v := 110) dX12_letterOf_1 (by decide) ?_
  refine xr_icmpne (tgt := 10) dX12_letterOf_3 (by decide) (fun zc3 => ?_) (fun zc3 => ?_)
  · skip
    refine xr_il0 dX12_letterOf_10 ?_
    refine xr_bipush (v := 99) dX12_letterOf_11 (by decide) ?_
    refine xr_icmpne (tgt := 20) dX12_letterOf_13 (by decide) (fun zc13 => ?_) (fun zc13 => ?_)
    · skip
      refine xr_il0 dX12_letterOf_20 ?_
      refine xr_bipush (v := 117) dX12_letterOf_21 (by decide) ?_
      refine xr_icmpne (tgt := 30) dX12_letterOf_23 (by decide) (fun zc23 => ?_) (fun zc23 => ?_)
      · skip
        refine xr_il0 dX12_letterOf_30 ?_
        refine xr_bipush (v := 100) dX12_letterOf_31 (by decide) ?_
        refine xr_icmpne (tgt := 40) dX12_letterOf_33 (by decide) (fun zc33 => ?_) (fun zc33 => ?_)
        · skip
          refine xr_il0 dX12_letterOf_40 ?_
          refine xr_bipush (v := 119) dX12_letterOf_41 (by decide) ?_
          refine xr_icmpne (tgt := 50) dX12_letterOf_43 (by decide) (fun zc43 => ?_) (fun zc43 => ?_)
          · skip
            refine xr_il0 dX12_letterOf_50 ?_
            refine xr_bipush (v := 103) dX12_letterOf_51 (by decide) ?_
            refine xr_icmpne (tgt := 60) dX12_letterOf_53 (by decide) (fun zc53 => ?_) (fun zc53 => ?_)
            · skip
              refine xr_il0 dX12_letterOf_60 ?_
              refine xr_bipush (v := 116) dX12_letterOf_61 (by decide) ?_
              refine xr_icmpne (tgt := 71) dX12_letterOf_63 (by decide) (fun zc63 => ?_) (fun zc63 => ?_)
              · skip
                refine xr_icm1 dX12_letterOf_71 ?_
                refine xr_iret dX12_letterOf_72 rfl ?_
                exact ⟨by unfold mLet; rw [if_neg zc3, if_neg zc13, if_neg zc23, if_neg zc33, if_neg zc43, if_neg zc53, if_neg zc63], rfl⟩
              · skip
                refine xr_bipush (v := 6) dX12_letterOf_66 (by decide) ?_
                refine xr_goto (tgt := 72) dX12_letterOf_68 (by decide) ?_
                refine xr_iret dX12_letterOf_72 rfl ?_
                exact ⟨by unfold mLet; rw [if_neg zc3, if_neg zc13, if_neg zc23, if_neg zc33, if_neg zc43, if_neg zc53, if_pos zc63], rfl⟩
            · skip
              refine xr_ic5 dX12_letterOf_56 ?_
              refine xr_goto (tgt := 72) dX12_letterOf_57 (by decide) ?_
              refine xr_iret dX12_letterOf_72 rfl ?_
              exact ⟨by unfold mLet; rw [if_neg zc3, if_neg zc13, if_neg zc23, if_neg zc33, if_neg zc43, if_pos zc53], rfl⟩
          · skip
            refine xr_ic4 dX12_letterOf_46 ?_
            refine xr_goto (tgt := 72) dX12_letterOf_47 (by decide) ?_
            refine xr_iret dX12_letterOf_72 rfl ?_
            exact ⟨by unfold mLet; rw [if_neg zc3, if_neg zc13, if_neg zc23, if_neg zc33, if_pos zc43], rfl⟩
        · skip
          refine xr_ic3 dX12_letterOf_36 ?_
          refine xr_goto (tgt := 72) dX12_letterOf_37 (by decide) ?_
          refine xr_iret dX12_letterOf_72 rfl ?_
          exact ⟨by unfold mLet; rw [if_neg zc3, if_neg zc13, if_neg zc23, if_pos zc33], rfl⟩
      · skip
        refine xr_ic2 dX12_letterOf_26 ?_
        refine xr_goto (tgt := 72) dX12_letterOf_27 (by decide) ?_
        refine xr_iret dX12_letterOf_72 rfl ?_
        exact ⟨by unfold mLet; rw [if_neg zc3, if_neg zc13, if_pos zc23], rfl⟩
    · skip
      refine xr_ic1 dX12_letterOf_16 ?_
      refine xr_goto (tgt := 72) dX12_letterOf_17 (by decide) ?_
      refine xr_iret dX12_letterOf_72 rfl ?_
      exact ⟨by unfold mLet; rw [if_neg zc3, if_pos zc13], rfl⟩
  · skip
    refine xr_ic0 dX12_letterOf_6 ?_
    refine xr_goto (tgt := 72) dX12_letterOf_7 (by decide) ?_
    refine xr_iret dX12_letterOf_72 rfl ?_
    exact ⟨by unfold mLet; rw [if_pos zc3], rfl⟩
