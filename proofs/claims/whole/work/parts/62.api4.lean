/-! The model in the class's words: trips and running (written by wip/whole/mod21.py) -/
def maC (K : xK) (B : Nat) (l : Launch) (Y : Nat) (m : xs) (u : Nat → Nat → Int32) (v : Nat → Int64) (tn : Nat) (tf : xs) (rk : Int32) (rv : Nat → Int64) (σ : xs) (pn : Nat) (τ : Nat → xs) (ks : Nat → Bool) (κ : Nat → xs) (φ : xs → Int32) (hn : Nat) (hf hg : xs) (wn : Nat) (wf wg : xs) : Prop :=
  maT (m 2) (u 2) tn tf ∧ maR (m 4) v rk rv ∧ maN (u 1) σ ∧ maP (m 19) (u 9) pn τ ∧ maK (u 22) (u 23) ks κ ∧ maL K B l Y (m 15) (u 6) φ ∧ maH (m 32) (u 17) (u 18) hn hf hg ∧ maS (m 35) (u 19) (u 20) wn wf wg
theorem rr_lay {σ w : xs} (R : rr σ w) (ok : hOk σ) (z : xs) : rr σ (lyK z w 0 19) := rr_cg ok R (fun k hk => by
  unfold lyK
  rw [if_pos (by omega)]
  rfl)
theorem rr_sum {σ w : xs} (R : rr σ w) : w 10 + w 11 = σ 10 + σ 11 := by rw [R.1 10 (by omega) (by omega), R.1 11 (by omega) (by omega)]
theorem xMw_id1 {K : xK} {h0 h : xH} {Y : Nat} {m : Nat → Int32} {rd : Value} {ru ot : Nat} {u : Nat → Nat → Int32} {v : Nat → Int64} (W : xMw K h0 h Y m rd ru ot u v) : xMw K h0 h Y m rd ru ot (uu u 1 (u 1)) v := by
  rw [uu_id]
  exact W
theorem maR1e {v rv : Nat → Int64} {a a' : Int32} (ha : a = a') : maR 1 (vp_updL v 0 a.toInt64) 1 (tl1 rv a') := by
  subst ha
  exact maR1 _
theorem maR2e {v rv : Nat → Int64} {a a' b b' : Int32} (ha : a = a') (hb : b = b') : maR 2 (vp_updL (vp_updL v 0 a.toInt64) 1 b.toInt64) 2 (tl2 rv a' b') := by
  subst ha hb
  exact maR2 _ _
theorem hNext_p {σ : xs} (ok : hOk σ) {s : Nat} (hs : s < 2) : hNext σ (nI s) = nI (2 ^ min (sn σ) (ln σ s) - 1) := by
  unfold hNext
  rw [hWaits_s hs, (ok.1 s hs).1, ok.2.1]
  have h5 := (ok.1 s hs).2
  have h3 := ok.2.2.2
  have e : iMin (nI (sn σ)) (nI (ln σ s)) = nI (min (sn σ) (ln σ s)) := by
    unfold iMin
    by_cases c : ln σ s < sn σ
    · rw [if_pos (nI_lt c (by omega)), Nat.min_eq_right (by omega)]
    · rw [if_neg (nI_nlt (by omega) (by omega)), Nat.min_eq_left (by omega)]
  rw [e]
  have hm : min (sn σ) (ln σ s) ≤ 3 := by omega
  generalize min (sn σ) (ln σ s) = n at *
  rcases (show n = 0 ∨ n = 1 ∨ n = 2 ∨ n = 3 by omega) with rfl | rfl | rfl | rfl <;> rfl
theorem next0 {σ : xs} (ok : hOk σ) {s : Nat} (hs : s < 2) : hNext σ (nI s) = 0 ↔ ln σ s = 0 := by
  rw [hNext_p ok hs]
  have h5 := (ok.1 s hs).2
  have h3 := ok.2.2.2
  have h1 := ok.2.2.1
  have hm : min (sn σ) (ln σ s) ≤ 3 := by omega
  have key : min (sn σ) (ln σ s) = 0 ↔ ln σ s = 0 := by omega
  rw [← key]
  generalize min (sn σ) (ln σ s) = n at *
  rcases (show n = 0 ∨ n = 1 ∨ n = 2 ∨ n = 3 by omega) with rfl | rfl | rfl | rfl <;> decide
theorem sumL {σ : xs} (ok : hOk σ) : σ 10 + σ 11 = nI (ln σ 0 + ln σ 1) := by
  have a0 : σ 10 = nI (ln σ 0) := (ok.1 0 (by decide)).1
  have a1 : σ 11 = nI (ln σ 1) := (ok.1 1 (by decide)).1
  rw [a0, a1, nI_add]
theorem sumL0 {σ : xs} (ok : hOk σ) : σ 10 + σ 11 = 0 ↔ ln σ 0 = 0 ∧ ln σ 1 = 0 := by
  have h0 := (ok.1 0 (by decide)).2
  have h1 := (ok.1 1 (by decide)).2
  rw [sumL ok, show (0 : Int32) = nI 0 from rfl, nI_eq (by omega) (by decide)]
  omega
theorem nob_next {σ : xs} (ok : hOk σ) : (hNext σ 0 = 0 ∧ hNext σ 1 = 0) ↔ σ 10 + σ 11 = 0 := by
  rw [sumL0 ok, show hNext σ 0 = 0 ↔ ln σ 0 = 0 from next0 ok (s := 0) (by decide), show hNext σ 1 = 0 ↔ ln σ 1 = 0 from next0 ok (s := 1) (by decide)]
theorem bc_63 (x : Int32) : ∃ j : Nat, j < 64 ∧ bc x = nI j := pk_andE _ 6 rfl
theorem bc_pos (x y : Int32) : ¬ bc x + bc y < 0 := by
  obtain ⟨a, ha, ea⟩ := bc_63 x
  obtain ⟨b, hb, eb⟩ := bc_63 y
  rw [ea, eb, nI_add]
  exact nI_pos (by omega)
theorem mRef_rr {σ w : xs} (R : rr σ w) : mRef w = if σ 10 + σ 11 = 0 then -2 else if hWater σ (hNext σ 0) (hNext σ 1) ≤ σ 14 then 0 else -3 := by
  unfold mRef
  rw [rr_sum R, rr_nw R, R.1 14 (by omega) (by omega)]
set_option maxRecDepth 20000 in
theorem a_trip {K : xK} {B : Nat} {l : Launch} {h0 h : xH} {Y : Nat} {th : Int32} {tn : Nat} {tf : xs} {rk : Int32} {rv : Nat → Int64} {σ : xs} {pn : Nat} {τ : Nat → xs} {ks : Nat → Bool} {κ : Nat → xs} {φ : xs → Int32} {hn : Nat} {hf hg : xs} {wn : Nat} {wf wg : xs} (A : xMa K B l h0 h Y th tn tf rk rv σ pn τ ks κ φ hn hf hg wn wf wg)  : xV K B l 206 mX12_trip 0 0 (Y) [] h (xPi (fun zr g => zr = (gw φ σ rk rv (hNext σ 0) (hNext σ 1)).1 ∧ xMa K B l h0 g Y 0 tn tf ((gw φ σ rk rv (hNext σ 0) (hNext σ 1)).2.2.1) ((gw φ σ rk rv (hNext σ 0) (hNext σ 1)).2.2.2) ((gw φ σ rk rv (hNext σ 0) (hNext σ 1)).2.1) (rn_ (gw φ σ rk rv (hNext σ 0) (hNext σ 1)).1 pn) (rt_ (gw φ σ rk rv (hNext σ 0) (hNext σ 1)).1 pn τ σ) ks κ φ hn hf hg wn wf wg)) := by
  obtain ⟨m, rd, u, v, W, T, Rw, ⟨R, ok, iv⟩, P, Kp, L, H, Sw, hth⟩ := A
  refine ⟨⟨_, _, _, _, W.o, rfl⟩, qX12_trip, ?_⟩
  refine xS.intro RX12 false ⟨rfl, rfl, by decide, by decide, Nat.le_of_ble_eq_true rfl⟩ (ls := [some (.ref Y), none, none]) rfl ?_
  refine xr_al0 dX12_trip_0 ?_
  refine xr_ic0 dX12_trip_1 ?_
  refine xr_put W.o fX12_82 (Nat.le_of_ble_eq_true rfl) rfl rfl dX12_trip_2 ?_
  refine xT.nm (fun zh1 zg1 => ?_)
  have W := W.f5 zg1
  refine xr_al0 dX12_trip_5 ?_
  refine xr_get W.o fX12_9 rfl dX12_trip_6 ?_
  refine xr_Si1 (s_mRefuses W.a1 (rr_ok R ok)) kX12_257 (by decide) (Nat.le_of_ble_eq_true rfl) (Nat.zero_add _) (Nat.zero_add _) dX12_trip_9 ?_
  refine xr_eqi (mRef_rr R) ?_
  refine xr_is1 dX12_trip_12 (by decide) rfl ?_
  refine xr_il1 dX12_trip_13 ?_
  refine xr_ifge (tgt := 19) dX12_trip_14 (by decide) (fun zc14 => ?_) (fun zc14 => ?_)
  · skip
    have c1 : ¬ σ 10 + σ 11 = 0 := fun c => by
      rw [if_pos c] at zc14
      exact absurd zc14 (by decide)
    have c2 : hWater σ (hNext σ 0) (hNext σ 1) ≤ σ 14 := Decidable.not_not.mp (fun c => by
      rw [if_neg c1, if_neg c] at zc14
      exact absurd zc14 (by decide))
    have okn : hOk (hPass (hTravel σ (hNext σ 0) (hNext σ 1)) (φ (hTravel σ (hNext σ 0) (hNext σ 1)))) := hOk_pass (hOk_travel ok _ _) _
    have ivn : hIv (hPass (hTravel σ (hNext σ 0) (hNext σ 1)) (φ (hTravel σ (hNext σ 0) (hNext σ 1)))) := hIv_pass (hIv_travel iv ok _ _) (hOk_travel ok _ _) _
    refine xr_al0 dX12_trip_19 ?_
    refine xr_al0 dX12_trip_20 ?_
    refine xr_get W.o fX12_9 rfl dX12_trip_21 ?_
    refine xr_Vpv1 (s_mRemN W (n := pn) P.1 P.2.1) kX12_260 (by decide) (Nat.le_of_ble_eq_true rfl) (Nat.zero_add _) (Nat.zero_add _) dX12_trip_24 (fun zh2 zq2 => ?_)
    have W := zq2
    refine xr_al0 dX12_trip_27 ?_
    refine xr_get W.o fX12_9 rfl dX12_trip_28 ?_
    refine xr_Si1 (s_mNextWater W.a1 (rr_ok R ok)) kX12_243 (by decide) (Nat.le_of_ble_eq_true rfl) (Nat.zero_add _) (Nat.zero_add _) dX12_trip_31 ?_
    refine xr_eqi (y := hWater σ (hNext σ 0) (hNext σ 1)) (rr_nw R) ?_
    refine xr_is2 dX12_trip_34 (by decide) rfl ?_
    refine xr_al0 dX12_trip_35 ?_
    refine xr_il2 dX12_trip_36 ?_
    refine xr_al0 dX12_trip_37 ?_
    refine xr_al0 dX12_trip_38 ?_
    refine xr_get W.o fX12_9 rfl dX12_trip_39 ?_
    refine xr_Vpi1 (s_mGoNext (Or.inl rfl) (xMw_id1 W) (L _) ok R) kX12_250 (by decide) (Nat.le_of_ble_eq_true rfl) (Nat.zero_add _) (Nat.zero_add _) dX12_trip_42 (fun zv42 zh3 zq3 => ?_)
    obtain ⟨rfl, w9, R9, q9⟩ := zq3
    obtain ⟨za, zb, zc, zd, ze, zrd, z8, W⟩ := xMz_out (by decide) q9
    refine xr_Vpi2 (s_mTellTrip W _ _) kX12_263 (by decide) (Nat.le_of_ble_eq_true rfl) (Nat.zero_add _) (Nat.zero_add _) dX12_trip_45 (fun zv45 zh4 zq4 => ?_)
    obtain ⟨rfl, W⟩ := zq4
    refine xr_iret dX12_trip_48 rfl ?_
    have e : (gw φ σ rk rv (hNext σ 0) (hNext σ 1)) = _ := (if_neg (fun q => c1 ((nob_next ok).mp q))).trans (if_neg (Int32.not_lt.mpr c2))
    rw [e]
    dsimp only
    rw [rn_pos (bc_pos _ _), rt_pos (bc_pos _ _)]
    exact ⟨_, rfl, rfl, ⟨_, _, _, _, W, T, maR2e rfl (R9.1 14 (by omega) (by omega)), ⟨R9, okn, ivn⟩, maP_rem (maP_eq P) ⟨R, ok, iv⟩, Kp, L, H, Sw, rfl⟩⟩
  · skip
    by_cases c1 : σ 10 + σ 11 = 0
    · rw [if_pos c1] at *
      refine xr_il1 dX12_trip_17 ?_
      refine xr_iret dX12_trip_18 rfl ?_
      have e : (gw φ σ rk rv (hNext σ 0) (hNext σ 1)) = _ := if_pos ((nob_next ok).mpr c1)
      rw [e]
      dsimp only
      rw [rn_neg (by decide), rt_neg (by decide)]
      exact ⟨_, rfl, rfl, ⟨_, _, _, _, W, T, Rw, ⟨R, ok, iv⟩, P, Kp, L, H, Sw, rfl⟩⟩
    by_cases c2 : hWater σ (hNext σ 0) (hNext σ 1) ≤ σ 14
    · rw [if_neg c1, if_pos c2] at zc14
      exact absurd (by decide) zc14
    rw [if_neg c1, if_neg c2] at *
    refine xr_il1 dX12_trip_17 ?_
    refine xr_iret dX12_trip_18 rfl ?_
    have e : (gw φ σ rk rv (hNext σ 0) (hNext σ 1)) = _ := (if_neg (fun q => c1 ((nob_next ok).mp q))).trans (if_pos (Int32.not_le.mp c2))
    rw [e]
    dsimp only
    rw [rn_neg (by decide), rt_neg (by decide)]
    exact ⟨_, rfl, rfl, ⟨_, _, _, _, W, T, Rw, ⟨R, ok, iv⟩, P, Kp, L, H, Sw, rfl⟩⟩
theorem may_fw {g : Int32} {n : Nat} (h5 : n ≤ 5) (h : g &&& (nI (2 ^ n - 1) ^^^ (-1)) = 0) : ∃ j, j < 2 ^ n ∧ g = nI j := by
  have hm : (nI (2 ^ n - 1)).toBitVec.toNat = 2 ^ n - 1 := pk_tn (Nat.lt_of_le_of_lt (Nat.sub_le _ _) (Nat.lt_of_le_of_lt (Nat.pow_le_pow_right (by decide) h5) (by decide)))
  have e : g = g &&& nI (2 ^ n - 1) := by
    apply Int32.toBitVec_inj.mp
    have hb := congrArg Int32.toBitVec h
    rw [Int32.toBitVec_and, Int32.toBitVec_xor] at hb
    rw [Int32.toBitVec_and]
    generalize (nI (2 ^ n - 1)).toBitVec = M at *
    generalize g.toBitVec = b at *
    apply BitVec.eq_of_getLsbD_eq
    intro i hi
    have hbi := congrArg (fun z => BitVec.getLsbD z i) hb
    have e1 : (Int32.toBitVec (-1)).getLsbD i = true := by
      rw [show Int32.toBitVec (-1) = BitVec.allOnes 32 from rfl, BitVec.getLsbD_allOnes]
      simpa using hi
    have e0 : (Int32.toBitVec 0).getLsbD i = false := by
      rw [show Int32.toBitVec 0 = 0#32 from rfl, BitVec.getLsbD_zero]
    rw [BitVec.getLsbD_and, BitVec.getLsbD_xor, e1, e0] at hbi
    rw [BitVec.getLsbD_and]
    revert hbi
    cases b.getLsbD i <;> cases M.getLsbD i <;> decide
  rw [e, pk_and g n hm]
  exact ⟨_, Nat.mod_lt _ (Nat.two_pow_pos n), rfl⟩
theorem may_bw {j n : Nat} (h5 : n ≤ 5) (h : j < 2 ^ n) : nI j &&& (nI (2 ^ n - 1) ^^^ (-1)) = 0 := by
  have all : ∀ n, n < 6 → ∀ j, j < 32 → j < 2 ^ n → nI j &&& (nI (2 ^ n - 1) ^^^ (-1)) = 0 := by decide +kernel
  exact all n (by omega) j (Nat.lt_of_lt_of_le h (Nat.pow_le_pow_right (n := 2) (by decide) h5)) h
theorem may_iff {σ : xs} (ok : hOk σ) {s : Nat} (hs : s < 2) {g : Int32} : ¬ mIn g 0 (hAll σ (nI s)) = 0 ↔ g &&& (hAll σ (nI s) ^^^ (-1)) = 0 := by
  have h5 := (ok.1 s hs).2
  have h2 : 2 ^ ln σ s ≤ 32 := Nat.pow_le_pow_right (n := 2) (by decide) h5
  have h1 := Nat.two_pow_pos (ln σ s)
  rw [(hAll_n ok hs).1]
  unfold aN
  constructor
  · intro h
    obtain ⟨a, b⟩ := mIn_y h
    obtain ⟨j, hj, rfl⟩ := nI_of a
    exact may_bw h5 (by
      have hh : ¬ 2 ^ ln σ s - 1 < j := fun z => b (nI_lt z hj)
      omega)
  · intro h q
    obtain ⟨j, hj, rfl⟩ := may_fw h5 h
    rcases mIn_0.mp q with z | z
    · exact nI_pos (by omega) z
    · exact absurd z (nI_nlt (by omega) (by omega))
set_option maxRecDepth 20000 in
theorem s_mIsGroup {K : xK} {B : Nat} {l : Launch} {h0 h : xH} {Y : Nat} {m : Nat → Int32} {rd : Value} {ru ot : Nat} {u : Nat → Nat → Int32} {v : Nat → Int64} (W : xMw K h0 h Y m rd ru ot u v) {a : Nat} {f : xs} (Hf : h.2 a = some (iA K 19 f)) (okf : hOk f) {s : Nat} (hs : s < 2) (g : Int32) : xV K B l 1 mX12_isGroup 0 0 (Y) [.ref a, .int (nI s), .int g] h (xQi (bI (hMay f (nI s) g)) h) := by
  refine ⟨⟨_, _, _, _, W.o, rfl⟩, qX12_isGroup, ?_⟩
  refine xS.intro RX12 false ⟨rfl, rfl, by decide, by decide, Nat.le_of_ble_eq_true rfl⟩ (ls := [some (.ref Y), some (.ref a), some (.int (nI s)), some (.int g)]) rfl ?_
  refine xr_il3 dX12_isGroup_0 ?_
  refine xr_ic0 dX12_isGroup_1 ?_
  refine xr_al1 dX12_isGroup_2 ?_
  refine xr_il2 dX12_isGroup_3 ?_
  refine xr_Si2 (s_mAllOf Hf okf hs) kX12_187 (by decide) (Nat.le_of_ble_eq_true rfl) (Nat.zero_add _) (Nat.zero_add _) dX12_isGroup_4 ?_
  refine xr_Si3 (s_mIn _ _ _) kX12_89 (by decide) (Nat.le_of_ble_eq_true rfl) (Nat.zero_add _) (Nat.zero_add _) dX12_isGroup_7 ?_
  refine xr_ifeq (tgt := 28) dX12_isGroup_10 (by decide) (fun zc10 => ?_) (fun zc10 => ?_)
  · skip
    refine xr_ic0 dX12_isGroup_28 ?_
    refine xr_zret dX12_isGroup_29 rfl (by first | rfl | decide | assumption) ?_
    exact ⟨by rw [bI_f (fun q => (may_iff okf hs).mpr q.1 zc10)], rfl⟩
  · skip
    refine xr_il3 dX12_isGroup_13 ?_
    refine xr_Si1 (s_bitCount _) kX12_229 (by decide) (Nat.le_of_ble_eq_true rfl) (Nat.zero_add _) (Nat.zero_add _) dX12_isGroup_14 ?_
    refine xr_al1 dX12_isGroup_17 ?_
    refine xr_bipush (v := 12) dX12_isGroup_18 (by decide) ?_
    refine xr_iald Hf (xix_lit (j := 12) (by decide)) dX12_isGroup_20 ?_
    refine xr_icmpgt (tgt := 28) dX12_isGroup_21 (by decide) (fun zc21 => ?_) (fun zc21 => ?_)
    · skip
      refine xr_ic0 dX12_isGroup_28 ?_
      refine xr_zret dX12_isGroup_29 rfl (by first | rfl | decide | assumption) ?_
      exact ⟨by rw [bI_f (fun q => q.2 zc21)], rfl⟩
    · skip
      refine xr_ic1 dX12_isGroup_24 ?_
      refine xr_goto (tgt := 29) dX12_isGroup_25 (by decide) ?_
      refine xr_zret dX12_isGroup_29 rfl (by first | rfl | decide | assumption) ?_
      exact ⟨by rw [bI_t ⟨(may_iff okf hs).mp zc10, zc21⟩], rfl⟩
theorem rr_may {σ w : xs} (R : rr σ w) (x g : Int32) : hMay w x g ↔ hMay σ x g := by
  unfold hMay
  rw [rr_waits R, R.1 12 (by omega) (by omega)]
set_option maxRecDepth 20000 in
theorem a_sends {K : xK} {B : Nat} {l : Launch} {h0 h : xH} {Y : Nat} {th : Int32} {tn : Nat} {tf : xs} {rk : Int32} {rv : Nat → Int64} {σ : xs} {pn : Nat} {τ : Nat → xs} {ks : Nat → Bool} {κ : Nat → xs} {φ : xs → Int32} {hn : Nat} {hf hg : xs} {wn : Nat} {wf wg : xs} (A : xMa K B l h0 h Y th tn tf rk rv σ pn τ ks κ φ hn hf hg wn wf wg) (x y : Int32) : xV K B l 206 mX12_sends 0 0 (Y) [.int x, .int y] h (xPi (fun zr g => (¬ (hMay σ 0 x ∧ hMay σ 1 y) ∧ zr = -1 ∧ xMa K B l h0 g Y 0 tn tf rk rv σ pn τ ks κ φ hn hf hg wn wf wg) ∨ (hMay σ 0 x ∧ hMay σ 1 y) ∧ zr = (gw φ σ rk rv x y).1 ∧ xMa K B l h0 g Y 0 tn tf ((gw φ σ rk rv x y).2.2.1) ((gw φ σ rk rv x y).2.2.2) ((gw φ σ rk rv x y).2.1) (rn_ (gw φ σ rk rv x y).1 pn) (rt_ (gw φ σ rk rv x y).1 pn τ σ) ks κ φ hn hf hg wn wf wg)) := by
  obtain ⟨m, rd, u, v, W, T, Rw, ⟨R, ok, iv⟩, P, Kp, L, H, Sw, hth⟩ := A
  refine ⟨⟨_, _, _, _, W.o, rfl⟩, qX12_sends, ?_⟩
  refine xS.intro RX12 false ⟨rfl, rfl, by decide, by decide, Nat.le_of_ble_eq_true rfl⟩ (ls := [some (.ref Y), some (.int x), some (.int y), none]) rfl ?_
  refine xr_al0 dX12_sends_0 ?_
  refine xr_ic0 dX12_sends_1 ?_
  refine xr_put W.o fX12_82 (Nat.le_of_ble_eq_true rfl) rfl rfl dX12_sends_2 ?_
  refine xT.nm (fun zh1 zg1 => ?_)
  have W := W.f5 zg1
  refine xr_al0 dX12_sends_5 ?_
  refine xr_al0 dX12_sends_6 ?_
  refine xr_get W.o fX12_9 rfl dX12_sends_7 ?_
  refine xr_ic0 dX12_sends_10 ?_
  refine xr_il1 dX12_sends_11 ?_
  refine xr_Vi3 (s_mIsGroup W W.a1 (rr_ok R ok) (s := 0) (by decide) _) kX12_266 (by decide) (Nat.le_of_ble_eq_true rfl) (Nat.zero_add _) (Nat.zero_add _) dX12_sends_12 ?_
  refine xr_eqi (y := bI (hMay σ 0 x)) (bI_iff (rr_may R 0 x)) ?_
  refine xr_ifeq (tgt := 31) dX12_sends_15 (by decide) (fun zc15 => ?_) (fun zc15 => ?_)
  · skip
    refine xr_icm1 dX12_sends_31 ?_
    refine xr_iret dX12_sends_32 rfl ?_
    refine ⟨_, rfl, Or.inl ⟨?_, rfl, ⟨_, _, _, _, W, T, Rw, ⟨R, ok, iv⟩, P, Kp, L, H, Sw, rfl⟩⟩⟩
    exact fun q => (bI_0.mp zc15) q.1
  · skip
    refine xr_al0 dX12_sends_18 ?_
    refine xr_al0 dX12_sends_19 ?_
    refine xr_get W.o fX12_9 rfl dX12_sends_20 ?_
    refine xr_ic1 dX12_sends_23 ?_
    refine xr_il2 dX12_sends_24 ?_
    refine xr_Vi3 (s_mIsGroup W W.a1 (rr_ok R ok) (s := 1) (by decide) _) kX12_266 (by decide) (Nat.le_of_ble_eq_true rfl) (Nat.zero_add _) (Nat.zero_add _) dX12_sends_25 ?_
    refine xr_eqi (y := bI (hMay σ 1 y)) (bI_iff (rr_may R 1 y)) ?_
    refine xr_ifne (tgt := 33) dX12_sends_28 (by decide) (fun zc28 => ?_) (fun zc28 => ?_)
    · skip
      have c0 : hMay σ 0 x ∧ hMay σ 1 y := ⟨(Decidable.not_not.mp (fun q => zc15 (bI_0.mpr q))), (Decidable.not_not.mp (fun q => zc28 (bI_0.mpr q)))⟩
      refine xr_il1 dX12_sends_33 ?_
      refine xr_ifne (tgt := 44) dX12_sends_34 (by decide) (fun zc34 => ?_) (fun zc34 => ?_)
      · skip
        refine xr_al0 dX12_sends_44 ?_
        refine xr_get W.o fX12_9 rfl dX12_sends_45 ?_
        refine xr_il1 dX12_sends_48 ?_
        refine xr_il2 dX12_sends_49 ?_
        refine xr_Si3 (s_mWater W.a1 (rr_ok R ok) _ _) kX12_218 (by decide) (Nat.le_of_ble_eq_true rfl) (Nat.zero_add _) (Nat.zero_add _) dX12_sends_50 ?_
        refine xr_eqi (y := hWater σ x y) (rr_water R x y) ?_
        refine xr_is3 dX12_sends_53 (by decide) rfl ?_
        refine xr_il3 dX12_sends_54 ?_
        refine xr_al0 dX12_sends_55 ?_
        refine xr_get W.o fX12_9 rfl dX12_sends_56 ?_
        refine xr_bipush (v := 14) dX12_sends_59 (by decide) ?_
        refine xr_iald W.a1 (xix_lit (j := 14) (by decide)) dX12_sends_61 ?_
        refine xr_eqi (y := σ 14) (R.1 14 (by omega) (by omega)) ?_
        refine xr_icmple (tgt := 68) dX12_sends_62 (by decide) (fun zc62 => ?_) (fun zc62 => ?_)
        · skip
          have okn : hOk (hPass (hTravel σ x y) (φ (hTravel σ x y))) := hOk_pass (hOk_travel ok _ _) _
          have ivn : hIv (hPass (hTravel σ x y) (φ (hTravel σ x y))) := hIv_pass (hIv_travel iv ok _ _) (hOk_travel ok _ _) _
          refine xr_al0 dX12_sends_68 ?_
          refine xr_al0 dX12_sends_69 ?_
          refine xr_get W.o fX12_9 rfl dX12_sends_70 ?_
          refine xr_Vpv1 (s_mRemN W (n := pn) P.1 P.2.1) kX12_260 (by decide) (Nat.le_of_ble_eq_true rfl) (Nat.zero_add _) (Nat.zero_add _) dX12_sends_73 (fun zh2 zq2 => ?_)
          have W := zq2
          refine xr_al0 dX12_sends_76 ?_
          refine xr_il3 dX12_sends_77 ?_
          refine xr_al0 dX12_sends_78 ?_
          refine xr_al0 dX12_sends_79 ?_
          refine xr_get W.o fX12_9 rfl dX12_sends_80 ?_
          refine xr_il1 dX12_sends_83 ?_
          refine xr_il2 dX12_sends_84 ?_
          refine xr_Vpi3 (s_mTrip1 (Or.inl rfl) (xMw_id1 W) (L _) ok R _ _) kX12_237 (by decide) (Nat.le_of_ble_eq_true rfl) (Nat.zero_add _) (Nat.zero_add _) dX12_sends_85 (fun zv85 zh3 zq3 => ?_)
          obtain ⟨rfl, w9, R9, q9⟩ := zq3
          obtain ⟨za, zb, zc, zd, ze, zrd, z8, W⟩ := xMz_out (by decide) q9
          refine xr_Vpi2 (s_mTellTrip W _ _) kX12_263 (by decide) (Nat.le_of_ble_eq_true rfl) (Nat.zero_add _) (Nat.zero_add _) dX12_sends_88 (fun zv88 zh4 zq4 => ?_)
          obtain ⟨rfl, W⟩ := zq4
          refine xr_iret dX12_sends_91 rfl ?_
          have e : (gw φ σ rk rv x y) = _ := (if_neg (fun q => zc34 q.1)).trans (if_neg (Int32.not_lt.mpr zc62))
          rw [e]
          dsimp only
          rw [rn_pos (bc_pos _ _), rt_pos (bc_pos _ _)]
          exact ⟨_, rfl, Or.inr ⟨c0, rfl, ⟨_, _, _, _, W, T, maR2e rfl (R9.1 14 (by omega) (by omega)), ⟨R9, okn, ivn⟩, maP_rem (maP_eq P) ⟨R, ok, iv⟩, Kp, L, H, Sw, rfl⟩⟩⟩
        · skip
          refine xr_bipush (v := (-3)) dX12_sends_65 (by decide) ?_
          refine xr_iret dX12_sends_67 rfl ?_
          have e : (gw φ σ rk rv x y) = _ := (if_neg (fun q => zc34 q.1)).trans (if_pos (Int32.not_le.mp zc62))
          rw [e]
          dsimp only
          rw [rn_neg (by decide), rt_neg (by decide)]
          exact ⟨_, rfl, Or.inr ⟨c0, rfl, ⟨_, _, _, _, W, T, Rw, ⟨R, ok, iv⟩, P, Kp, L, H, Sw, rfl⟩⟩⟩
      · skip
        refine xr_il2 dX12_sends_37 ?_
        refine xr_ifne (tgt := 44) dX12_sends_38 (by decide) (fun zc38 => ?_) (fun zc38 => ?_)
        · skip
          refine xr_al0 dX12_sends_44 ?_
          refine xr_get W.o fX12_9 rfl dX12_sends_45 ?_
          refine xr_il1 dX12_sends_48 ?_
          refine xr_il2 dX12_sends_49 ?_
          refine xr_Si3 (s_mWater W.a1 (rr_ok R ok) _ _) kX12_218 (by decide) (Nat.le_of_ble_eq_true rfl) (Nat.zero_add _) (Nat.zero_add _) dX12_sends_50 ?_
          refine xr_eqi (y := hWater σ x y) (rr_water R x y) ?_
          refine xr_is3 dX12_sends_53 (by decide) rfl ?_
          refine xr_il3 dX12_sends_54 ?_
          refine xr_al0 dX12_sends_55 ?_
          refine xr_get W.o fX12_9 rfl dX12_sends_56 ?_
          refine xr_bipush (v := 14) dX12_sends_59 (by decide) ?_
          refine xr_iald W.a1 (xix_lit (j := 14) (by decide)) dX12_sends_61 ?_
          refine xr_eqi (y := σ 14) (R.1 14 (by omega) (by omega)) ?_
          refine xr_icmple (tgt := 68) dX12_sends_62 (by decide) (fun zc62 => ?_) (fun zc62 => ?_)
          · skip
            have okn : hOk (hPass (hTravel σ x y) (φ (hTravel σ x y))) := hOk_pass (hOk_travel ok _ _) _
            have ivn : hIv (hPass (hTravel σ x y) (φ (hTravel σ x y))) := hIv_pass (hIv_travel iv ok _ _) (hOk_travel ok _ _) _
            refine xr_al0 dX12_sends_68 ?_
            refine xr_al0 dX12_sends_69 ?_
            refine xr_get W.o fX12_9 rfl dX12_sends_70 ?_
            refine xr_Vpv1 (s_mRemN W (n := pn) P.1 P.2.1) kX12_260 (by decide) (Nat.le_of_ble_eq_true rfl) (Nat.zero_add _) (Nat.zero_add _) dX12_sends_73 (fun zh2 zq2 => ?_)
            have W := zq2
            refine xr_al0 dX12_sends_76 ?_
            refine xr_il3 dX12_sends_77 ?_
            refine xr_al0 dX12_sends_78 ?_
            refine xr_al0 dX12_sends_79 ?_
            refine xr_get W.o fX12_9 rfl dX12_sends_80 ?_
            refine xr_il1 dX12_sends_83 ?_
            refine xr_il2 dX12_sends_84 ?_
            refine xr_Vpi3 (s_mTrip1 (Or.inl rfl) (xMw_id1 W) (L _) ok R _ _) kX12_237 (by decide) (Nat.le_of_ble_eq_true rfl) (Nat.zero_add _) (Nat.zero_add _) dX12_sends_85 (fun zv85 zh3 zq3 => ?_)
            obtain ⟨rfl, w9, R9, q9⟩ := zq3
            obtain ⟨za, zb, zc, zd, ze, zrd, z8, W⟩ := xMz_out (by decide) q9
            refine xr_Vpi2 (s_mTellTrip W _ _) kX12_263 (by decide) (Nat.le_of_ble_eq_true rfl) (Nat.zero_add _) (Nat.zero_add _) dX12_sends_88 (fun zv88 zh4 zq4 => ?_)
            obtain ⟨rfl, W⟩ := zq4
            refine xr_iret dX12_sends_91 rfl ?_
            have e : (gw φ σ rk rv x y) = _ := (if_neg (fun q => zc38 q.2)).trans (if_neg (Int32.not_lt.mpr zc62))
            rw [e]
            dsimp only
            rw [rn_pos (bc_pos _ _), rt_pos (bc_pos _ _)]
            exact ⟨_, rfl, Or.inr ⟨c0, rfl, ⟨_, _, _, _, W, T, maR2e rfl (R9.1 14 (by omega) (by omega)), ⟨R9, okn, ivn⟩, maP_rem (maP_eq P) ⟨R, ok, iv⟩, Kp, L, H, Sw, rfl⟩⟩⟩
          · skip
            refine xr_bipush (v := (-3)) dX12_sends_65 (by decide) ?_
            refine xr_iret dX12_sends_67 rfl ?_
            have e : (gw φ σ rk rv x y) = _ := (if_neg (fun q => zc38 q.2)).trans (if_pos (Int32.not_le.mp zc62))
            rw [e]
            dsimp only
            rw [rn_neg (by decide), rt_neg (by decide)]
            exact ⟨_, rfl, Or.inr ⟨c0, rfl, ⟨_, _, _, _, W, T, Rw, ⟨R, ok, iv⟩, P, Kp, L, H, Sw, rfl⟩⟩⟩
        · skip
          refine xr_bipush (v := (-2)) dX12_sends_41 (by decide) ?_
          refine xr_iret dX12_sends_43 rfl ?_
          have e : (gw φ σ rk rv x y) = _ := if_pos ⟨zc34, zc38⟩
          rw [e]
          dsimp only
          rw [rn_neg (by decide), rt_neg (by decide)]
          exact ⟨_, rfl, Or.inr ⟨c0, rfl, ⟨_, _, _, _, W, T, Rw, ⟨R, ok, iv⟩, P, Kp, L, H, Sw, rfl⟩⟩⟩
    · skip
      refine xr_icm1 dX12_sends_31 ?_
      refine xr_iret dX12_sends_32 rfl ?_
      refine ⟨_, rfl, Or.inl ⟨?_, rfl, ⟨_, _, _, _, W, T, Rw, ⟨R, ok, iv⟩, P, Kp, L, H, Sw, rfl⟩⟩⟩
      exact fun q => (bI_0.mp zc28) q.2
