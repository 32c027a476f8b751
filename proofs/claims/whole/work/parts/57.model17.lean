/-! The model: minutes (written by wip/whole/mod17.py) -/
theorem bI_iff {p q : Prop} [Decidable p] [Decidable q] (h : p ↔ q) : bI p = bI q := by
  unfold bI
  by_cases hq : q
  · rw [if_pos hq, if_pos (h.mpr hq)]
  · rw [if_neg hq, if_neg (fun z => hq (h.mp z))]
theorem sum0 {σ : xs} (ok : hOk σ) : σ 10 + σ 11 ≤ 0 ↔ σ 10 + σ 11 = 0 := by
  have e0 := ok.1 0 (by decide)
  have e1 := ok.1 1 (by decide)
  have a0 : σ 10 = nI (ln σ 0) := e0.1
  have a1 : σ 11 = nI (ln σ 1) := e1.1
  rw [a0, a1, nI_add]
  have z : (0 : Int32) = nI 0 := rfl
  rw [z, nI_leI (by omega) (by decide), nI_eq (by omega) (by decide)]
  omega
theorem hRun_n {σ : xs} (h : ¬ hGo σ) (φ : xs → Int32) : hRun φ σ = hPass σ (φ σ) := by
  unfold hRun hMid
  rw [if_neg h]
theorem hRun_y {σ : xs} (h : hGo σ) (φ : xs → Int32) : hRun φ σ = hPass (hTravel σ (hNext σ 0) (hNext σ 1)) (φ (hTravel σ (hNext σ 0) (hNext σ 1))) := by
  unfold hRun hMid
  rw [if_pos h]
set_option maxRecDepth 20000 in
theorem s_mMinute {K : xK} {B : Nat} {l : Launch} {h0 h : xH} {Y : Nat} {m : Nat → Int32} {rd : Value} {ru ot : Nat} {u : Nat → Nat → Int32} {v : Nat → Int64} {j : Nat} {w : xs} (hj : j = 1 ∨ j = 11) (W : xMw K h0 h Y m rd ru ot (uu u j w) v) {φ : xs → Int32} (S : mSp K B l Y ru (m 15) (u 6) (u 7) φ) {σ : xs} (ok : hOk σ) (R : rr σ w) : xV K B l 201 mX12_goMinute 0 0 (Y) [.ref (Y + j)] h (xPv (fun g => ∃ w9, rr (hPass σ (φ σ)) w9 ∧ xMz K h0 g Y m ru ot (uu u j w9) v)) := by
  refine ⟨⟨_, _, _, _, W.o, rfl⟩, qX12_goMinute, ?_⟩
  refine xS.intro RX12 false ⟨rfl, rfl, by decide, by decide, Nat.le_of_ble_eq_true rfl⟩ (ls := [some (.ref Y), some (.ref (Y + j))]) rfl ?_
  refine xr_al1 dX12_goMinute_0 ?_
  refine xr_bipush (v := 14) dX12_goMinute_1 (by decide) ?_
  refine xr_sipush (v := 999) dX12_goMinute_3 (by decide) ?_
  refine xr_al1 dX12_goMinute_6 ?_
  refine xr_bipush (v := 14) dX12_goMinute_7 (by decide) ?_
  refine xr_iald (xMw_aj hj W) (xix_lit (j := 14) (by decide)) dX12_goMinute_9 ?_
  refine xr_al0 dX12_goMinute_10 ?_
  refine xr_al1 dX12_goMinute_11 ?_
  refine xr_Vpi1 (S _ _ _ _ _ _ _ _ _ hj W rfl rfl rfl σ ok R) kX12_214 (by decide) (Nat.le_of_ble_eq_true rfl) (Nat.zero_add _) (Nat.zero_add _) dX12_goMinute_12 (fun zv12 zh1 zq1 => ?_)
  obtain ⟨rfl, q9⟩ := zq1
  obtain ⟨za, zb, zc, zd, ze, zrd, z8, W⟩ := xMz_out (by omega) q9
  refine xr_iadd dX12_goMinute_15 ?_
  refine xr_min kmX12_195 ms_min wz_J9 mc_min (by decide) (Nat.le_of_ble_eq_true rfl) dX12_goMinute_16 ?_
  refine xr_iast (xMw_aj hj W) (xix_lit (j := 14) (by decide)) dX12_goMinute_19 ?_
  refine xT.nm (fun zh2 zg2 => ?_)
  have W := xMw_pj hj W zg2
  refine xr_al1 dX12_goMinute_20 ?_
  refine xr_bipush (v := 18) dX12_goMinute_21 (by decide) ?_
  refine xr_dup2 dX12_goMinute_23 rfl rfl ?_
  refine xr_iald (xMw_aj hj W) (xix_lit (j := 18) (by decide)) dX12_goMinute_24 ?_
  refine xr_ic1 dX12_goMinute_25 ?_
  refine xr_iadd dX12_goMinute_26 ?_
  refine xr_iast (xMw_aj hj W) (xix_lit (j := 18) (by decide)) dX12_goMinute_27 ?_
  refine xT.nm (fun zh3 zg3 => ?_)
  have W := xMw_pj hj W zg3
  refine xr_vret dX12_goMinute_28 rfl ?_
  exact ⟨rfl, _, rr_pass R _, xMz_jj (by omega) (xMz_of W)⟩
set_option maxRecDepth 20000 in
theorem s_mTrip1 {K : xK} {B : Nat} {l : Launch} {h0 h : xH} {Y : Nat} {m : Nat → Int32} {rd : Value} {ru ot : Nat} {u : Nat → Nat → Int32} {v : Nat → Int64} {j : Nat} {w : xs} (hj : j = 1 ∨ j = 11) (W : xMw K h0 h Y m rd ru ot (uu u j w) v) {φ : xs → Int32} (S : mSp K B l Y ru (m 15) (u 6) (u 7) φ) {σ : xs} (ok : hOk σ) (R : rr σ w) (x y : Int32) : xV K B l 202 mX12_goTrip 0 0 (Y) [.ref (Y + j), .int x, .int y] h (xPi (fun zr g => zr = bc x + bc y ∧ ∃ w9, rr (hPass (hTravel σ x y) (φ (hTravel σ x y))) w9 ∧ xMz K h0 g Y m ru ot (uu u j w9) v)) := by
  refine ⟨⟨_, _, _, _, W.o, rfl⟩, qX12_goTrip, ?_⟩
  refine xS.intro RX12 false ⟨rfl, rfl, by decide, by decide, Nat.le_of_ble_eq_true rfl⟩ (ls := [some (.ref Y), some (.ref (Y + j)), some (.int x), some (.int y)]) rfl ?_
  have okw := rr_ok R ok
  refine xr_al1 dX12_goTrip_0 ?_
  refine xr_bipush (v := 14) dX12_goTrip_1 (by decide) ?_
  refine xr_dup2 dX12_goTrip_3 rfl rfl ?_
  refine xr_iald (xMw_aj hj W) (xix_lit (j := 14) (by decide)) dX12_goTrip_4 ?_
  refine xr_al1 dX12_goTrip_5 ?_
  refine xr_il2 dX12_goTrip_6 ?_
  refine xr_il3 dX12_goTrip_7 ?_
  refine xr_Si3 (s_mWater (xMw_aj hj W) okw x y) kX12_218 (by decide) (Nat.le_of_ble_eq_true rfl) (Nat.zero_add _) (Nat.zero_add _) dX12_goTrip_8 ?_
  refine xr_isub dX12_goTrip_11 ?_
  refine xr_iast (xMw_aj hj W) (xix_lit (j := 14) (by decide)) dX12_goTrip_12 ?_
  refine xT.nm (fun zh1 zg1 => ?_)
  have ok1 : hOk (hT1 w x y) := hOk_upd okw (by decide) _
  have W : xMw K h0 zh1 Y m rd ru ot (uu u j (hT1 w x y)) v := xMw_pj hj W zg1
  refine xr_al1 dX12_goTrip_13 ?_
  refine xr_bipush (v := 15) dX12_goTrip_14 (by decide) ?_
  refine xr_sipush (v := 9999) dX12_goTrip_16 (by decide) ?_
  refine xr_al1 dX12_goTrip_19 ?_
  refine xr_bipush (v := 15) dX12_goTrip_20 (by decide) ?_
  refine xr_iald (xMw_aj hj W) (xix_lit (j := 15) (by decide)) dX12_goTrip_22 ?_
  refine xr_al1 dX12_goTrip_23 ?_
  refine xr_ic0 dX12_goTrip_24 ?_
  refine xr_il2 dX12_goTrip_25 ?_
  refine xr_Si3 (s_mWeightOf (xMw_aj hj W) ok1 (s := 0) (by decide) _) kX12_191 (by decide) (Nat.le_of_ble_eq_true rfl) (Nat.zero_add _) (Nat.zero_add _) dX12_goTrip_26 ?_
  refine xr_iadd dX12_goTrip_29 ?_
  refine xr_min kmX12_195 ms_min wz_J9 mc_min (by decide) (Nat.le_of_ble_eq_true rfl) dX12_goTrip_30 ?_
  refine xr_iast (xMw_aj hj W) (xix_lit (j := 15) (by decide)) dX12_goTrip_33 ?_
  refine xT.nm (fun zh2 zg2 => ?_)
  have ok2 : hOk (hT2 (hT1 w x y) x) := hOk_upd ok1 (by decide) _
  have W : xMw K h0 zh2 Y m rd ru ot (uu u j (hT2 (hT1 w x y) x)) v := xMw_pj hj W zg2
  refine xr_al1 dX12_goTrip_34 ?_
  refine xr_bipush (v := 16) dX12_goTrip_35 (by decide) ?_
  refine xr_sipush (v := 9999) dX12_goTrip_37 (by decide) ?_
  refine xr_al1 dX12_goTrip_40 ?_
  refine xr_bipush (v := 16) dX12_goTrip_41 (by decide) ?_
  refine xr_iald (xMw_aj hj W) (xix_lit (j := 16) (by decide)) dX12_goTrip_43 ?_
  refine xr_al1 dX12_goTrip_44 ?_
  refine xr_ic1 dX12_goTrip_45 ?_
  refine xr_il3 dX12_goTrip_46 ?_
  refine xr_Si3 (s_mWeightOf (xMw_aj hj W) ok2 (s := 1) (by decide) _) kX12_191 (by decide) (Nat.le_of_ble_eq_true rfl) (Nat.zero_add _) (Nat.zero_add _) dX12_goTrip_47 ?_
  refine xr_iadd dX12_goTrip_50 ?_
  refine xr_min kmX12_195 ms_min wz_J9 mc_min (by decide) (Nat.le_of_ble_eq_true rfl) dX12_goTrip_51 ?_
  refine xr_iast (xMw_aj hj W) (xix_lit (j := 16) (by decide)) dX12_goTrip_54 ?_
  refine xT.nm (fun zh3 zg3 => ?_)
  have ok3 : hOk (hT3 (hT2 (hT1 w x y) x) y) := hOk_upd ok2 (by decide) _
  have W : xMw K h0 zh3 Y m rd ru ot (uu u j (hT3 (hT2 (hT1 w x y) x) y)) v := xMw_pj hj W zg3
  refine xr_al1 dX12_goTrip_55 ?_
  refine xr_ic0 dX12_goTrip_56 ?_
  refine xr_il2 dX12_goTrip_57 ?_
  refine xr_Sv3 (s_mOut (xMw_aj hj W) ok3 (s := 0) (by decide) _) kX12_221 (by decide) (Nat.le_of_ble_eq_true rfl) (Nat.zero_add _) (Nat.zero_add _) dX12_goTrip_58 ?_
  refine xT.nm (fun zh4 zg4 => ?_)
  have ok4 : hOk (mOut (hT3 (hT2 (hT1 w x y) x) y) 0 x) := mOut_ok ok3 (by decide) _
  have W := xMw_pj hj W zg4
  refine xr_al1 dX12_goTrip_61 ?_
  refine xr_ic1 dX12_goTrip_62 ?_
  refine xr_il3 dX12_goTrip_63 ?_
  refine xr_Sv3 (s_mOut (xMw_aj hj W) ok4 (s := 1) (by decide) _) kX12_221 (by decide) (Nat.le_of_ble_eq_true rfl) (Nat.zero_add _) (Nat.zero_add _) dX12_goTrip_64 ?_
  refine xT.nm (fun zh5 zg5 => ?_)
  have W := xMw_pj hj W zg5
  refine xr_al1 dX12_goTrip_67 ?_
  refine xr_bipush (v := 17) dX12_goTrip_68 (by decide) ?_
  refine xr_dup2 dX12_goTrip_70 rfl rfl ?_
  refine xr_iald (xMw_aj hj W) (xix_lit (j := 17) (by decide)) dX12_goTrip_71 ?_
  refine xr_ic1 dX12_goTrip_72 ?_
  refine xr_iadd dX12_goTrip_73 ?_
  refine xr_iast (xMw_aj hj W) (xix_lit (j := 17) (by decide)) dX12_goTrip_74 ?_
  refine xT.nm (fun zh6 zg6 => ?_)
  have W : xMw K h0 zh6 Y m rd ru ot (uu u j (mTravel w x y)) v := xMw_pj hj W zg6
  refine xr_al0 dX12_goTrip_75 ?_
  refine xr_al1 dX12_goTrip_76 ?_
  refine xr_Vpv1 (s_mMinute hj W S (hOk_travel ok x y) (rr_travel R ok x y)) kX12_225 (by decide) (Nat.le_of_ble_eq_true rfl) (Nat.zero_add _) (Nat.zero_add _) dX12_goTrip_77 (fun zh7 zq7 => ?_)
  obtain ⟨w9, R9, S9⟩ := zq7
  refine xr_il2 dX12_goTrip_80 ?_
  refine xr_Si1 (s_bitCount _) kX12_229 (by decide) (Nat.le_of_ble_eq_true rfl) (Nat.zero_add _) (Nat.zero_add _) dX12_goTrip_81 ?_
  refine xr_il3 dX12_goTrip_84 ?_
  refine xr_Si1 (s_bitCount _) kX12_229 (by decide) (Nat.le_of_ble_eq_true rfl) (Nat.zero_add _) (Nat.zero_add _) dX12_goTrip_85 ?_
  refine xr_iadd dX12_goTrip_88 ?_
  refine xr_iret dX12_goTrip_89 rfl ?_
  exact ⟨_, rfl, rfl, w9, R9, S9⟩
set_option maxRecDepth 20000 in
theorem s_mGoNext {K : xK} {B : Nat} {l : Launch} {h0 h : xH} {Y : Nat} {m : Nat → Int32} {rd : Value} {ru ot : Nat} {u : Nat → Nat → Int32} {v : Nat → Int64} {j : Nat} {w : xs} (hj : j = 1 ∨ j = 11) (W : xMw K h0 h Y m rd ru ot (uu u j w) v) {φ : xs → Int32} (S : mSp K B l Y ru (m 15) (u 6) (u 7) φ) {σ : xs} (ok : hOk σ) (R : rr σ w) : xV K B l 203 mX12_goNext 0 0 (Y) [.ref (Y + j)] h (xPi (fun zr g => zr = bc (hNext σ 0) + bc (hNext σ 1) ∧ ∃ w9, rr (hPass (hTravel σ (hNext σ 0) (hNext σ 1)) (φ (hTravel σ (hNext σ 0) (hNext σ 1)))) w9 ∧ xMz K h0 g Y m ru ot (uu u j w9) v)) := by
  refine ⟨⟨_, _, _, _, W.o, rfl⟩, qX12_goNext, ?_⟩
  refine xS.intro RX12 false ⟨rfl, rfl, by decide, by decide, Nat.le_of_ble_eq_true rfl⟩ (ls := [some (.ref Y), some (.ref (Y + j))]) rfl ?_
  have okw := rr_ok R ok
  refine xr_al0 dX12_goNext_0 ?_
  refine xr_al1 dX12_goNext_1 ?_
  refine xr_al1 dX12_goNext_2 ?_
  refine xr_ic0 dX12_goNext_3 ?_
  refine xr_Si2 (s_mNextOf (xMw_aj hj W) okw (s := 0) (by decide)) kX12_234 (by decide) (Nat.le_of_ble_eq_true rfl) (Nat.zero_add _) (Nat.zero_add _) dX12_goNext_4 ?_
  refine xr_eqi (y := hNext σ 0) (rr_next R 0) ?_
  refine xr_al1 dX12_goNext_7 ?_
  refine xr_ic1 dX12_goNext_8 ?_
  refine xr_Si2 (s_mNextOf (xMw_aj hj W) okw (s := 1) (by decide)) kX12_234 (by decide) (Nat.le_of_ble_eq_true rfl) (Nat.zero_add _) (Nat.zero_add _) dX12_goNext_9 ?_
  refine xr_eqi (y := hNext σ 1) (rr_next R 1) ?_
  refine xr_Vpi3 (s_mTrip1 hj W S ok R _ _) kX12_237 (by decide) (Nat.le_of_ble_eq_true rfl) (Nat.zero_add _) (Nat.zero_add _) dX12_goNext_12 (fun zv12 zh1 zq1 => ?_)
  obtain ⟨rfl, w9, R9, S9⟩ := zq1
  refine xr_iret dX12_goNext_15 rfl ?_
  exact ⟨_, rfl, rfl, w9, R9, S9⟩
set_option maxRecDepth 20000 in
theorem s_mGo {K : xK} {B : Nat} {l : Launch} {h0 h : xH} {Y : Nat} {m : Nat → Int32} {rd : Value} {ru ot : Nat} {u : Nat → Nat → Int32} {v : Nat → Int64} {j : Nat} {w : xs} (hj : j = 1 ∨ j = 11) (W : xMw K h0 h Y m rd ru ot (uu u j w) v) {φ : xs → Int32} (S : mSp K B l Y ru (m 15) (u 6) (u 7) φ) {σ : xs} (ok : hOk σ) (R : rr σ w) : xV K B l 204 mX12_goRunning 0 0 (Y) [.ref (Y + j)] h (xPi (fun zr g => zr = bI (hGo σ) ∧ ∃ w9, rr (hRun φ σ) w9 ∧ xMz K h0 g Y m ru ot (uu u j w9) v)) := by
  refine ⟨⟨_, _, _, _, W.o, rfl⟩, qX12_goRunning, ?_⟩
  refine xS.intro RX12 false ⟨rfl, rfl, by decide, by decide, Nat.le_of_ble_eq_true rfl⟩ (ls := [some (.ref Y), some (.ref (Y + j)), none]) rfl ?_
  have okw := rr_ok R ok
  refine xr_al1 dX12_goRunning_0 ?_
  refine xr_Si1 (s_mCanGo (xMw_aj hj W) okw) kX12_246 (by decide) (Nat.le_of_ble_eq_true rfl) (Nat.zero_add _) (Nat.zero_add _) dX12_goRunning_1 ?_
  refine xr_eqi (y := bI (hGo σ)) (bI_iff (rr_go R ok)) ?_
  refine xr_is2 dX12_goRunning_4 (by decide) rfl ?_
  refine xr_il2 dX12_goRunning_5 ?_
  refine xr_ifeq (tgt := 18) dX12_goRunning_6 (by decide) (fun zc6 => ?_) (fun zc6 => ?_)
  · skip
    refine xr_al0 dX12_goRunning_18 ?_
    refine xr_al1 dX12_goRunning_19 ?_
    refine xr_Vpv1 (s_mMinute hj W S ok R) kX12_225 (by decide) (Nat.le_of_ble_eq_true rfl) (Nat.zero_add _) (Nat.zero_add _) dX12_goRunning_20 (fun zh1 zq1 => ?_)
    obtain ⟨w9, R9, S9⟩ := zq1
    refine xr_il2 dX12_goRunning_23 ?_
    refine xr_zret dX12_goRunning_24 rfl (bI_n _) ?_
    refine ⟨_, rfl, rfl, w9, ?_, S9⟩
    rw [hRun_n (bI_0.mp zc6)]
    exact R9
  · skip
    refine xr_al0 dX12_goRunning_9 ?_
    refine xr_al1 dX12_goRunning_10 ?_
    refine xr_Vpi1 (s_mGoNext hj W S ok R) kX12_250 (by decide) (Nat.le_of_ble_eq_true rfl) (Nat.zero_add _) (Nat.zero_add _) dX12_goRunning_11 (fun zv11 zh1 zq1 => ?_)
    obtain ⟨rfl, w9, R9, S9⟩ := zq1
    refine xr_pop dX12_goRunning_14 rfl ?_
    refine xr_goto (tgt := 23) dX12_goRunning_15 (by decide) ?_
    refine xr_il2 dX12_goRunning_23 ?_
    refine xr_zret dX12_goRunning_24 rfl (bI_n _) ?_
    refine ⟨_, rfl, rfl, w9, ?_, S9⟩
    rw [hRun_y (Decidable.not_not.mp (fun q => zc6 (bI_0.mpr q)))]
    exact R9
set_option maxRecDepth 20000 in
theorem lp_mRuns {K : xK} {B : Nat} {l : Launch} {h0 : xH} {Y : Nat} {m : Nat → Int32} {ru ot : Nat} {u : Nat → Nat → Int32} {v : Nat → Int64} {j : Nat} (hj : j = 1 ∨ j = 11) {φ : xs → Int32} (S : mSp K B l Y ru (m 15) (u 6) (u 7) φ) {N : Nat} (hN : N ≤ 99) : ∀ (r k : Nat) (t s : Int32) {x5 : Option Value} {h : xH} {w σ : xs} (ok : hOk σ) (R : rr σ w) (q9 : xMz K h0 h Y (upd m 22 s) ru ot (uu u j w) v), k + r = N → xT K B l 205 RX12 false cX12_goRuns 6 (some .int) 0 0 0 0 (xPi (fun zr g => zr = (rfN φ r t s σ).1 ∧ ∃ w9, rr (rfN φ r t s σ).2.2 w9 ∧ xMz K h0 g Y (upd m 22 (rfN φ r t s σ).2.1) ru ot (uu u j w9) v)) 10 [some (.ref Y), some (.ref (Y + j)), some (.int (nI N)), some (.int t), some (.int (nI k)), x5] [] h := by
  intro r
  induction r with
  | zero =>
    intro k t s x5 h w σ ok R q9 hk
    obtain ⟨za, zb, zc, zd, ze, zrd, z8, W⟩ := xMz_out (by omega) q9
    refine xr_il4 dX12_goRuns_10 ?_
    refine xr_il2 dX12_goRuns_12 ?_
    refine xr_icmpge (tgt := 65) dX12_goRuns_13 (by decide) (fun zc13 => ?_) (fun zc13 => ?_)
    · skip
      refine xr_il3 dX12_goRuns_65 ?_
      refine xr_iret dX12_goRuns_66 rfl ?_
      exact ⟨_, rfl, rfl, w, R, xMz_jj (by omega) (xMz_of W)⟩
    · skip
      exact absurd (nI_le (by omega) (by omega)) zc13
  | succ r ih =>
    intro k t s x5 h w σ ok R q9 hk
    obtain ⟨za, zb, zc, zd, ze, zrd, z8, W⟩ := xMz_out (by omega) q9
    refine xr_il4 dX12_goRuns_10 ?_
    refine xr_il2 dX12_goRuns_12 ?_
    refine xr_icmpge (tgt := 65) dX12_goRuns_13 (by decide) (fun zc13 => ?_) (fun zc13 => ?_)
    · skip
      exact absurd zc13 (nI_ge (by omega) (by omega))
    · skip
      refine xr_al1 dX12_goRuns_16 ?_
      refine xr_Si1 (s_mWaits (xMw_aj hj W)) kX12_240 (by decide) (Nat.le_of_ble_eq_true rfl) (Nat.zero_add _) (Nat.zero_add _) dX12_goRuns_17 ?_
      refine xr_eqi (y := σ 10 + σ 11) (by rw [R.1 10 (by omega) (by omega), R.1 11 (by omega) (by omega)]) ?_
      refine xr_ifle (tgt := 27) dX12_goRuns_20 (by decide) (fun zc20 => ?_) (fun zc20 => ?_)
      · skip
        refine xr_ic0 dX12_goRuns_27 ?_
        refine xr_is5 dX12_goRuns_28 (by decide) rfl ?_
        refine xr_al0 dX12_goRuns_30 ?_
        refine xr_al1 dX12_goRuns_31 ?_
        refine xr_Vpi1 (s_mGo hj W S ok R) kX12_273 (by decide) (Nat.le_of_ble_eq_true rfl) (Nat.zero_add _) (Nat.zero_add _) dX12_goRuns_32 (fun zv32 zh1 zq1 => ?_)
        obtain ⟨rfl, w9, R9, q9⟩ := zq1
        have q9 := xMz_jj (by omega) q9
        obtain ⟨za, zb, zc, zd, ze, zrd, z8, W⟩ := xMz_out (by omega) q9
        refine xr_ifeq (tgt := 44) dX12_goRuns_35 (by decide) (fun zc35 => ?_) (fun zc35 => ?_)
        · skip
          refine xr_il5 dX12_goRuns_44 ?_
          refine xr_ifeq (tgt := 59) dX12_goRuns_46 (by decide) (fun zc46 => ?_) (fun zc46 => ?_)
          · skip
            refine xr_inc4 dX12_goRuns_59 (nI_inc k) (by decide) rfl ?_
            refine xr_goto (tgt := 10) dX12_goRuns_62 (by decide) ?_
            rw [rfN_s, if_neg (bI_0.mp zc35), if_neg (bI_0.mp zc35), if_pos ((sum0 ok).mp zc20)]
            exact ih (k + 1) _ _ (hOk_run ok φ) R9 (xMz_jj (by omega) (xMz_of W)) (by omega)
          · skip
            exact absurd rfl zc46
        · skip
          refine xr_inc3 dX12_goRuns_38 (show t + Int32.ofInt 1 = t + 1 from rfl) (by decide) rfl ?_
          refine xr_goto (tgt := 59) dX12_goRuns_41 (by decide) ?_
          refine xr_inc4 dX12_goRuns_59 (nI_inc k) (by decide) rfl ?_
          refine xr_goto (tgt := 10) dX12_goRuns_62 (by decide) ?_
          rw [rfN_s, if_pos (Decidable.not_not.mp (fun q => zc35 (bI_0.mpr q))), if_pos (Decidable.not_not.mp (fun q => zc35 (bI_0.mpr q)))]
          exact ih (k + 1) _ _ (hOk_run ok φ) R9 (xMz_jj (by omega) (xMz_of W)) (by omega)
      · skip
        refine xr_ic1 dX12_goRuns_23 ?_
        refine xr_goto (tgt := 28) dX12_goRuns_24 (by decide) ?_
        refine xr_is5 dX12_goRuns_28 (by decide) rfl ?_
        refine xr_al0 dX12_goRuns_30 ?_
        refine xr_al1 dX12_goRuns_31 ?_
        refine xr_Vpi1 (s_mGo hj W S ok R) kX12_273 (by decide) (Nat.le_of_ble_eq_true rfl) (Nat.zero_add _) (Nat.zero_add _) dX12_goRuns_32 (fun zv32 zh1 zq1 => ?_)
        obtain ⟨rfl, w9, R9, q9⟩ := zq1
        have q9 := xMz_jj (by omega) q9
        obtain ⟨za, zb, zc, zd, ze, zrd, z8, W⟩ := xMz_out (by omega) q9
        refine xr_ifeq (tgt := 44) dX12_goRuns_35 (by decide) (fun zc35 => ?_) (fun zc35 => ?_)
        · skip
          refine xr_il5 dX12_goRuns_44 ?_
          refine xr_ifeq (tgt := 59) dX12_goRuns_46 (by decide) (fun zc46 => ?_) (fun zc46 => ?_)
          · skip
            exact absurd zc46 (by decide)
          · skip
            refine xr_al0 dX12_goRuns_49 ?_
            refine xr_dup dX12_goRuns_50 rfl ?_
            refine xr_get W.o fX12_270 rfl dX12_goRuns_51 ?_
            refine xr_eqi (y := s) rfl ?_
            refine xr_ic1 dX12_goRuns_54 ?_
            refine xr_iadd dX12_goRuns_55 ?_
            refine xr_put W.o fX12_270 (Nat.le_of_ble_eq_true rfl) rfl rfl dX12_goRuns_56 ?_
            refine xT.nm (fun zh2 zg2 => ?_)
            have W := W.f22 zg2
            refine xr_inc4 dX12_goRuns_59 (nI_inc k) (by decide) rfl ?_
            refine xr_goto (tgt := 10) dX12_goRuns_62 (by decide) ?_
            rw [rfN_s, if_neg (bI_0.mp zc35), if_neg (bI_0.mp zc35), if_neg (fun q => zc20 ((sum0 ok).mpr q))]
            rw [← scm_upd _ _ _ _ _ _ _ (by decide), upd_upd] at W
            exact ih (k + 1) _ _ (hOk_run ok φ) R9 (xMz_jj (by omega) (xMz_of W)) (by omega)
        · skip
          refine xr_inc3 dX12_goRuns_38 (show t + Int32.ofInt 1 = t + 1 from rfl) (by decide) rfl ?_
          refine xr_goto (tgt := 59) dX12_goRuns_41 (by decide) ?_
          refine xr_inc4 dX12_goRuns_59 (nI_inc k) (by decide) rfl ?_
          refine xr_goto (tgt := 10) dX12_goRuns_62 (by decide) ?_
          rw [rfN_s, if_pos (Decidable.not_not.mp (fun q => zc35 (bI_0.mpr q))), if_pos (Decidable.not_not.mp (fun q => zc35 (bI_0.mpr q)))]
          exact ih (k + 1) _ _ (hOk_run ok φ) R9 (xMz_jj (by omega) (xMz_of W)) (by omega)
set_option maxRecDepth 20000 in
theorem s_mRuns0 {K : xK} {B : Nat} {l : Launch} {h0 h : xH} {Y : Nat} {m : Nat → Int32} {rd : Value} {ru ot : Nat} {u : Nat → Nat → Int32} {v : Nat → Int64} {j : Nat} {w : xs} (hj : j = 1 ∨ j = 11) (W : xMw K h0 h Y m rd ru ot (uu u j w) v) {φ : xs → Int32} (S : mSp K B l Y ru (m 15) (u 6) (u 7) φ) {σ : xs} (ok : hOk σ) (R : rr σ w) {N : Nat} (hN : N ≤ 99) : xV K B l 205 mX12_goRuns 0 0 (Y) [.ref (Y + j), .int (nI N)] h (xPi (fun zr g => zr = (rfN φ N 0 0 σ).1 ∧ ∃ w9, rr (rfN φ N 0 0 σ).2.2 w9 ∧ xMz K h0 g Y (upd m 22 (rfN φ N 0 0 σ).2.1) ru ot (uu u j w9) v)) := by
  refine ⟨⟨_, _, _, _, W.o, rfl⟩, qX12_goRuns, ?_⟩
  refine xS.intro RX12 false ⟨rfl, rfl, by decide, by decide, Nat.le_of_ble_eq_true rfl⟩ (ls := [some (.ref Y), some (.ref (Y + j)), some (.int (nI N)), none, none, none]) rfl ?_
  refine xr_ic0 dX12_goRuns_0 ?_
  refine xr_is3 dX12_goRuns_1 (by decide) rfl ?_
  refine xr_al0 dX12_goRuns_2 ?_
  refine xr_ic0 dX12_goRuns_3 ?_
  refine xr_put W.o fX12_270 (Nat.le_of_ble_eq_true rfl) rfl rfl dX12_goRuns_4 ?_
  refine xT.nm (fun zh1 zg1 => ?_)
  have W := W.f22 zg1
  refine xr_ic0 dX12_goRuns_7 ?_
  refine xr_is4 dX12_goRuns_8 (by decide) rfl ?_
  exact lp_mRuns hj S hN N 0 0 0 ok R (xMz_of W) (by omega)
