section XR2
variable {K : xK} {B : Nat} {l : Launch} {F : Nat} {own : String} {ini : Bool} {cc : ByteArray} {nL : Nat} {ret : Option FieldType} {mc ms rc rs : Nat} {Q : Option Value → xH → Prop} {pc : Nat} {ls : List (Option Value)} {st : List Value} {h : xH}
theorem xr_lsub {x y : Int64} (d : decode cc pc = .ok (.lsub, 1)) (k : xT K B l F own ini cc nL ret mc ms rc rs Q (pc + 1) ls (.long (x - y) :: st) h) : xT K B l F own ini cc nL ret mc ms rc rs Q pc ls (.long y :: .long x :: st) h :=
  xT.go k (fun _ _ _ _ _ _ _ _ _ _ _ _ _ _ C I w => lv_lsub C.1 C.2.1 d w)
theorem xr_lushr {x : Int64} {y : Int32} (d : decode cc pc = .ok (.lushr, 1)) (k : xT K B l F own ini cc nL ret mc ms rc rs Q (pc + 1) ls (.long ((x.toUInt64 >>> (y.toInt64.toUInt64 &&& Int64.toUInt64 63)).toInt64) :: st) h) : xT K B l F own ini cc nL ret mc ms rc rs Q pc ls (.int y :: .long x :: st) h :=
  xT.go k (fun _ _ _ _ _ _ _ _ _ _ _ _ _ _ C I w => lv_lushr C.1 C.2.1 d rfl w)
theorem xr_l2i {x : Int64} (d : decode cc pc = .ok (.l2i, 1)) (k : xT K B l F own ini cc nL ret mc ms rc rs Q (pc + 1) ls (.int x.toInt32 :: st) h) : xT K B l F own ini cc nL ret mc ms rc rs Q pc ls (.long x :: st) h :=
  xT.go k (fun _ _ _ _ _ _ _ _ _ _ _ _ _ _ C I w => lv_l2i C.1 C.2.1 d rfl w)
end XR2
theorem tab_in {c : Int32} {lo hi : Nat} (hh : hi < 2 ^ 31) (h : ¬ (c.toInt < (lo : Int) ∨ (hi : Int) < c.toInt)) : ∃ j : Nat, lo + j ≤ hi ∧ c = nI (lo + j) := by
  have h0 : ¬ c < 0 := by
    intro q
    rw [Int32.lt_iff_toInt_lt, Int32.toInt_zero] at q
    omega
  obtain ⟨m, hm, rfl⟩ := nI_of h0
  rw [nI_toInt hm] at h
  exact ⟨m - lo, by omega, by rw [show lo + (m - lo) = m by omega]⟩
set_option maxRecDepth 20000 in
theorem s_ruClear {K : xK} {B : Nat} {l : Launch} {h : xH} {a : Nat} {f g : Nat → Int32} {n : Int32} (H : X3 h a (ruO a n) (iA K 40 f) (iA K 40 g)) : xV K B l 0 mX7_clear 0 0 (a) [] h (xQv (P3 h a (ruO a 0) (iA K 40 f) (iA K 40 g))) := by
  obtain ⟨o0, o1, o2⟩ := id H
  refine ⟨⟨_, _, _, _, H.1, rfl⟩, qX7_clear, ?_⟩
  refine xS.intro RX7 false ⟨rfl, rfl, by decide, by decide, Nat.le_of_ble_eq_true rfl⟩ (ls := [some (.ref a)]) rfl ?_
  refine xr_al0 dX7_clear_0 ?_
  refine xr_ic0 dX7_clear_1 ?_
  refine xr_put o0 fX7_18 (Nat.le_of_ble_eq_true rfl) rfl rfl dX7_clear_2 ?_
  refine xT.nm (fun zh1 zg1 => ?_)
  have o0 := xg_eq zg1
  have o1 := xg_ne zg1 (by omega) o1
  have o2 := xg_ne zg1 (by omega) o2
  refine xr_vret dX7_clear_5 rfl ?_
  exact ⟨rfl, by rw [zg1]; exact P3_o H _⟩
set_option maxRecDepth 20000 in
theorem s_ruAdd {K : xK} {B : Nat} {l : Launch} {h : xH} {a : Nat} {f g : Nat → Int32} {n : Nat} (H : X3 h a (ruO a (nI n)) (iA K 40 f) (iA K 40 g)) (hn : n ≤ 40) (x : Int32) : xV K B l 0 mX7_add 0 0 (a) [.int x] h (xQv (if n < 40 then P3 h a (ruO a (nI (n + 1))) (iA K 40 (upd f n x)) (iA K 40 g) else h)) := by
  obtain ⟨o0, o1, o2⟩ := id H
  refine ⟨⟨_, _, _, _, H.1, rfl⟩, qX7_add, ?_⟩
  refine xS.intro RX7 false ⟨rfl, rfl, by decide, by decide, Nat.le_of_ble_eq_true rfl⟩ (ls := [some (.ref a), some (.int x)]) rfl ?_
  refine xr_al0 dX7_add_0 ?_
  refine xr_get o0 fX7_18 rfl dX7_add_1 ?_
  refine xr_bipush (v := 40) dX7_add_4 (by decide) ?_
  refine xr_icmpge (tgt := 29) dX7_add_6 (by decide) (fun zc6 => ?_) (fun zc6 => ?_)
  · skip
    refine xr_vret dX7_add_29 rfl ?_
    have h40 : ¬ n < 40 := fun q => nI_ge (b := 40) q (by decide) zc6
    exact ⟨rfl, by rw [if_neg h40]⟩
  · skip
    have h40 : n < 40 := by
      rcases Nat.lt_or_ge n 40 with q | q
      · exact q
      · exact absurd (nI_le (a := 40) q (by omega)) zc6
    refine xr_al0 dX7_add_9 ?_
    refine xr_get o0 fX7_11 rfl dX7_add_10 ?_
    refine xr_al0 dX7_add_13 ?_
    refine xr_get o0 fX7_18 rfl dX7_add_14 ?_
    refine xr_il1 dX7_add_17 ?_
    refine xr_iast o1 (xix_nI h40 (by decide)) dX7_add_18 ?_
    refine xT.nm (fun zh1 zg1 => ?_)
    have o0 := xg_ne zg1 (by omega) o0
    have o1 := xg_eq zg1
    have o2 := xg_ne zg1 (by omega) o2
    refine xr_al0 dX7_add_19 ?_
    refine xr_dup dX7_add_20 rfl ?_
    refine xr_get o0 fX7_18 rfl dX7_add_21 ?_
    refine xr_ic1 dX7_add_24 ?_
    refine xr_iadd dX7_add_25 ?_
    refine xr_eqi (nI_1 n) ?_
    refine xr_put o0 fX7_18 (Nat.le_of_ble_eq_true rfl) rfl rfl dX7_add_26 ?_
    refine xT.nm (fun zh2 zg2 => ?_)
    have o0 := xg_eq zg2
    have o1 := xg_ne zg2 (by omega) o1
    have o2 := xg_ne zg2 (by omega) o2
    refine xr_vret dX7_add_29 rfl ?_
    exact ⟨rfl, by rw [if_pos h40, zg2, zg1, P3_e H, P3_xup_o]; rfl⟩
set_option maxRecDepth 20000 in
theorem s_ruCopy {K : xK} {B : Nat} {l : Launch} {h : xH} {a : Nat} {b : Nat} {f g f2 g2 : Nat → Int32} {n n2 : Int32} (H : X3 h a (ruO a n) (iA K 40 f) (iA K 40 g)) (G : X3 h b (ruO b n2) (iA K 40 f2) (iA K 40 g2)) (dj : a + 3 ≤ b ∨ b + 3 ≤ a) : xV K B l 1 mX7_copyFrom 0 0 (a) [.ref b] h (xQv (P3 h a (ruO a n2) (iA K 40 f2) (iA K 40 g))) := by
  obtain ⟨o0, o1, o2⟩ := id H
  obtain ⟨q0, q1, q2⟩ := id G
  refine ⟨⟨_, _, _, _, H.1, rfl⟩, qX7_copyFrom, ?_⟩
  refine xS.intro RX7 false ⟨rfl, rfl, by decide, by decide, Nat.le_of_ble_eq_true rfl⟩ (ls := [some (.ref a), some (.ref b)]) rfl ?_
  refine xr_al1 dX7_copyFrom_0 ?_
  refine xr_get q0 fX7_11 rfl dX7_copyFrom_1 ?_
  refine xr_ic0 dX7_copyFrom_4 ?_
  refine xr_al0 dX7_copyFrom_5 ?_
  refine xr_get o0 fX7_11 rfl dX7_copyFrom_6 ?_
  refine xr_ic0 dX7_copyFrom_9 ?_
  refine xr_al0 dX7_copyFrom_10 ?_
  refine xr_get o0 fX7_11 rfl dX7_copyFrom_11 ?_
  refine xr_alen o1 1 rfl (v := 40) rfl dX7_copyFrom_14 ?_
  refine xr_copy kcX7_22 mn_arraycopy ms_arraycopy wz_J10 q1 o1 (ns := 0) (nd := 0) (nn := 40) rfl rfl rfl (by decide) (by decide) (by decide) (by decide) (by decide) (Nat.le_of_ble_eq_true rfl) dX7_copyFrom_15 ?_
  refine xT.nm (fun zh1 zg1 => ?_)
  have o0 := xg_ne zg1 (by omega) o0
  have o1 := xg_eq zg1
  have o2 := xg_ne zg1 (by omega) o2
  have q0 := xg_ne zg1 (by omega) q0
  have q1 := xg_ne zg1 (by omega) q1
  have q2 := xg_ne zg1 (by omega) q2
  refine xr_al0 dX7_copyFrom_18 ?_
  refine xr_al1 dX7_copyFrom_19 ?_
  refine xr_get q0 fX7_18 rfl dX7_copyFrom_20 ?_
  refine xr_put o0 fX7_18 (Nat.le_of_ble_eq_true rfl) rfl rfl dX7_copyFrom_23 ?_
  refine xT.nm (fun zh2 zg2 => ?_)
  have o0 := xg_eq zg2
  have o1 := xg_ne zg2 (by omega) o1
  have o2 := xg_ne zg2 (by omega) o2
  have q0 := xg_ne zg2 (by omega) q0
  have q1 := xg_ne zg2 (by omega) q1
  have q2 := xg_ne zg2 (by omega) q2
  rw [zg2, zg1, P3_e H, P3_xup_o]
  refine xT.equiv (xEq_P3 (xcong_i (g := f2) (fun j hj => ?_)) (xcong.rf _)) ?_
  · rw [pk_cpy_in (by omega) (by omega)]; congr 1; omega
  refine xr_vret dX7_copyFrom_26 rfl ?_
  exact ⟨rfl, rfl⟩
def jn (c : Int32) : Int32 := if c = 42 ∨ c = 43 ∨ c = 45 ∨ c = 47 ∨ c = 60 ∨ c = 61 ∨ c = 62 then 1 else 0
theorem jn_out {c : Int32} (h : c.toInt < (42 : Int) ∨ (62 : Int) < c.toInt) : jn c = 0 := by
  unfold jn
  rw [if_neg]
  rintro (rfl | rfl | rfl | rfl | rfl | rfl | rfl) <;> revert h <;> decide
theorem jn_n (c : Int32) : narrow .boolean (.int (jn c)) = .int (jn c) := by
  unfold jn
  split <;> rfl
set_option maxRecDepth 20000 in
theorem s_joins {K : xK} {B : Nat} {l : Launch} {h : xH} (c : Int32) : xU K B l 0 mX7_joins 0 0 [.int c] h (xQi (jn c) h) := by
  refine ⟨qX7_joins, ?_⟩
  refine xS.intro RX7 false ⟨rfl, rfl, by decide, by decide, Nat.le_of_ble_eq_true rfl⟩ (ls := [some (.int c)]) rfl ?_
  refine xr_il0 dX7_joins_0 ?_
  by_cases hlo : c.toInt < (42 : Int) ∨ (62 : Int) < c.toInt
  · skip
    refine xr_tabOut (tgt := 102) dX7_joins_1 hlo (by decide) ?_
    refine xr_ic0 dX7_joins_102 ?_
    refine xr_zret dX7_joins_103 rfl (by first | rfl | decide | assumption) ?_
    exact ⟨by rw [jn_out hlo], rfl⟩
  · skip
    obtain ⟨j, hj, rfl⟩ := tab_in (lo := 42) (hi := 62) (by decide) hlo
    rcases (show j = 0 ∨ j = 1 ∨ j = 2 ∨ j = 3 ∨ j = 4 ∨ j = 5 ∨ j = 6 ∨ j = 7 ∨ j = 8 ∨ j = 9 ∨ j = 10 ∨ j = 11 ∨ j = 12 ∨ j = 13 ∨ j = 14 ∨ j = 15 ∨ j = 16 ∨ j = 17 ∨ j = 18 ∨ j = 19 ∨ j = 20 by omega) with rfl | rfl | rfl | rfl | rfl | rfl | rfl | rfl | rfl | rfl | rfl | rfl | rfl | rfl | rfl | rfl | rfl | rfl | rfl | rfl | rfl
    · skip
      refine xr_tabIn (tgt := 100) dX7_joins_1 (by decide) (by decide) rfl (by decide) ?_
      refine xr_ic1 dX7_joins_100 ?_
      refine xr_zret dX7_joins_101 rfl (by first | rfl | decide | assumption) ?_
      exact ⟨by rw [show jn (nI (42 + 0)) = 1 by decide], rfl⟩
    · skip
      refine xr_tabIn (tgt := 100) dX7_joins_1 (by decide) (by decide) rfl (by decide) ?_
      refine xr_ic1 dX7_joins_100 ?_
      refine xr_zret dX7_joins_101 rfl (by first | rfl | decide | assumption) ?_
      exact ⟨by rw [show jn (nI (42 + 1)) = 1 by decide], rfl⟩
    · skip
      refine xr_tabIn (tgt := 102) dX7_joins_1 (by decide) (by decide) rfl (by decide) ?_
      refine xr_ic0 dX7_joins_102 ?_
      refine xr_zret dX7_joins_103 rfl (by first | rfl | decide | assumption) ?_
      exact ⟨by rw [show jn (nI (42 + 2)) = 0 by decide], rfl⟩
    · skip
      refine xr_tabIn (tgt := 100) dX7_joins_1 (by decide) (by decide) rfl (by decide) ?_
      refine xr_ic1 dX7_joins_100 ?_
      refine xr_zret dX7_joins_101 rfl (by first | rfl | decide | assumption) ?_
      exact ⟨by rw [show jn (nI (42 + 3)) = 1 by decide], rfl⟩
    · skip
      refine xr_tabIn (tgt := 102) dX7_joins_1 (by decide) (by decide) rfl (by decide) ?_
      refine xr_ic0 dX7_joins_102 ?_
      refine xr_zret dX7_joins_103 rfl (by first | rfl | decide | assumption) ?_
      exact ⟨by rw [show jn (nI (42 + 4)) = 0 by decide], rfl⟩
    · skip
      refine xr_tabIn (tgt := 100) dX7_joins_1 (by decide) (by decide) rfl (by decide) ?_
      refine xr_ic1 dX7_joins_100 ?_
      refine xr_zret dX7_joins_101 rfl (by first | rfl | decide | assumption) ?_
      exact ⟨by rw [show jn (nI (42 + 5)) = 1 by decide], rfl⟩
    · skip
      refine xr_tabIn (tgt := 102) dX7_joins_1 (by decide) (by decide) rfl (by decide) ?_
      refine xr_ic0 dX7_joins_102 ?_
      refine xr_zret dX7_joins_103 rfl (by first | rfl | decide | assumption) ?_
      exact ⟨by rw [show jn (nI (42 + 6)) = 0 by decide], rfl⟩
    · skip
      refine xr_tabIn (tgt := 102) dX7_joins_1 (by decide) (by decide) rfl (by decide) ?_
      refine xr_ic0 dX7_joins_102 ?_
      refine xr_zret dX7_joins_103 rfl (by first | rfl | decide | assumption) ?_
      exact ⟨by rw [show jn (nI (42 + 7)) = 0 by decide], rfl⟩
    · skip
      refine xr_tabIn (tgt := 102) dX7_joins_1 (by decide) (by decide) rfl (by decide) ?_
      refine xr_ic0 dX7_joins_102 ?_
      refine xr_zret dX7_joins_103 rfl (by first | rfl | decide | assumption) ?_
      exact ⟨by rw [show jn (nI (42 + 8)) = 0 by decide], rfl⟩
    · skip
      refine xr_tabIn (tgt := 102) dX7_joins_1 (by decide) (by decide) rfl (by decide) ?_
      refine xr_ic0 dX7_joins_102 ?_
      refine xr_zret dX7_joins_103 rfl (by first | rfl | decide | assumption) ?_
      exact ⟨by rw [show jn (nI (42 + 9)) = 0 by decide], rfl⟩
    · skip
      refine xr_tabIn (tgt := 102) dX7_joins_1 (by decide) (by decide) rfl (by decide) ?_
      refine xr_ic0 dX7_joins_102 ?_
      refine xr_zret dX7_joins_103 rfl (by first | rfl | decide | assumption) ?_
      exact ⟨by rw [show jn (nI (42 + 10)) = 0 by decide], rfl⟩
    · skip
      refine xr_tabIn (tgt := 102) dX7_joins_1 (by decide) (by decide) rfl (by decide) ?_
      refine xr_ic0 dX7_joins_102 ?_
      refine xr_zret dX7_joins_103 rfl (by first | rfl | decide | assumption) ?_
      exact ⟨by rw [show jn (nI (42 + 11)) = 0 by decide], rfl⟩
    · skip
      refine xr_tabIn (tgt := 102) dX7_joins_1 (by decide) (by decide) rfl (by decide) ?_
      refine xr_ic0 dX7_joins_102 ?_
      refine xr_zret dX7_joins_103 rfl (by first | rfl | decide | assumption) ?_
      exact ⟨by rw [show jn (nI (42 + 12)) = 0 by decide], rfl⟩
    · skip
      refine xr_tabIn (tgt := 102) dX7_joins_1 (by decide) (by decide) rfl (by decide) ?_
      refine xr_ic0 dX7_joins_102 ?_
      refine xr_zret dX7_joins_103 rfl (by first | rfl | decide | assumption) ?_
      exact ⟨by rw [show jn (nI (42 + 13)) = 0 by decide], rfl⟩
    · skip
      refine xr_tabIn (tgt := 102) dX7_joins_1 (by decide) (by decide) rfl (by decide) ?_
      refine xr_ic0 dX7_joins_102 ?_
      refine xr_zret dX7_joins_103 rfl (by first | rfl | decide | assumption) ?_
      exact ⟨by rw [show jn (nI (42 + 14)) = 0 by decide], rfl⟩
    · skip
      refine xr_tabIn (tgt := 102) dX7_joins_1 (by decide) (by decide) rfl (by decide) ?_
      refine xr_ic0 dX7_joins_102 ?_
      refine xr_zret dX7_joins_103 rfl (by first | rfl | decide | assumption) ?_
      exact ⟨by rw [show jn (nI (42 + 15)) = 0 by decide], rfl⟩
    · skip
      refine xr_tabIn (tgt := 102) dX7_joins_1 (by decide) (by decide) rfl (by decide) ?_
      refine xr_ic0 dX7_joins_102 ?_
      refine xr_zret dX7_joins_103 rfl (by first | rfl | decide | assumption) ?_
      exact ⟨by rw [show jn (nI (42 + 16)) = 0 by decide], rfl⟩
    · skip
      refine xr_tabIn (tgt := 102) dX7_joins_1 (by decide) (by decide) rfl (by decide) ?_
      refine xr_ic0 dX7_joins_102 ?_
      refine xr_zret dX7_joins_103 rfl (by first | rfl | decide | assumption) ?_
      exact ⟨by rw [show jn (nI (42 + 17)) = 0 by decide], rfl⟩
    · skip
      refine xr_tabIn (tgt := 100) dX7_joins_1 (by decide) (by decide) rfl (by decide) ?_
      refine xr_ic1 dX7_joins_100 ?_
      refine xr_zret dX7_joins_101 rfl (by first | rfl | decide | assumption) ?_
      exact ⟨by rw [show jn (nI (42 + 18)) = 1 by decide], rfl⟩
    · skip
      refine xr_tabIn (tgt := 100) dX7_joins_1 (by decide) (by decide) rfl (by decide) ?_
      refine xr_ic1 dX7_joins_100 ?_
      refine xr_zret dX7_joins_101 rfl (by first | rfl | decide | assumption) ?_
      exact ⟨by rw [show jn (nI (42 + 19)) = 1 by decide], rfl⟩
    · skip
      refine xr_tabIn (tgt := 100) dX7_joins_1 (by decide) (by decide) rfl (by decide) ?_
      refine xr_ic1 dX7_joins_100 ?_
      refine xr_zret dX7_joins_101 rfl (by first | rfl | decide | assumption) ?_
      exact ⟨by rw [show jn (nI (42 + 20)) = 1 by decide], rfl⟩
def nm (c : Int32) : Int32 := if c = 99 ∨ c = 100 ∨ c = 103 ∨ c = 110 ∨ c = 116 ∨ c = 117 ∨ c = 119 then 1 else 0
theorem nm_out {c : Int32} (h : c.toInt < (99 : Int) ∨ (119 : Int) < c.toInt) : nm c = 0 := by
  unfold nm
  rw [if_neg]
  rintro (rfl | rfl | rfl | rfl | rfl | rfl | rfl) <;> revert h <;> decide
theorem nm_n (c : Int32) : narrow .boolean (.int (nm c)) = .int (nm c) := by
  unfold nm
  split <;> rfl
set_option maxRecDepth 20000 in
theorem s_names {K : xK} {B : Nat} {l : Launch} {h : xH} (c : Int32) : xU K B l 0 mX7_names 0 0 [.int c] h (xQi (nm c) h) := by
  refine ⟨qX7_names, ?_⟩
  refine xS.intro RX7 false ⟨rfl, rfl, by decide, by decide, Nat.le_of_ble_eq_true rfl⟩ (ls := [some (.int c)]) rfl ?_
  refine xr_il0 dX7_names_0 ?_
  by_cases hlo : c.toInt < (99 : Int) ∨ (119 : Int) < c.toInt
  · skip
    refine xr_tabOut (tgt := 102) dX7_names_1 hlo (by decide) ?_
    refine xr_ic0 dX7_names_102 ?_
    refine xr_zret dX7_names_103 rfl (by first | rfl | decide | assumption) ?_
    exact ⟨by rw [nm_out hlo], rfl⟩
  · skip
    obtain ⟨j, hj, rfl⟩ := tab_in (lo := 99) (hi := 119) (by decide) hlo
    rcases (show j = 0 ∨ j = 1 ∨ j = 2 ∨ j = 3 ∨ j = 4 ∨ j = 5 ∨ j = 6 ∨ j = 7 ∨ j = 8 ∨ j = 9 ∨ j = 10 ∨ j = 11 ∨ j = 12 ∨ j = 13 ∨ j = 14 ∨ j = 15 ∨ j = 16 ∨ j = 17 ∨ j = 18 ∨ j = 19 ∨ j = 20 by omega) with rfl | rfl | rfl | rfl | rfl | rfl | rfl | rfl | rfl | rfl | rfl | rfl | rfl | rfl | rfl | rfl | rfl | rfl | rfl | rfl | rfl
    · skip
      refine xr_tabIn (tgt := 100) dX7_names_1 (by decide) (by decide) rfl (by decide) ?_
      refine xr_ic1 dX7_names_100 ?_
      refine xr_zret dX7_names_101 rfl (by first | rfl | decide | assumption) ?_
      exact ⟨by rw [show nm (nI (99 + 0)) = 1 by decide], rfl⟩
    · skip
      refine xr_tabIn (tgt := 100) dX7_names_1 (by decide) (by decide) rfl (by decide) ?_
      refine xr_ic1 dX7_names_100 ?_
      refine xr_zret dX7_names_101 rfl (by first | rfl | decide | assumption) ?_
      exact ⟨by rw [show nm (nI (99 + 1)) = 1 by decide], rfl⟩
    · skip
      refine xr_tabIn (tgt := 102) dX7_names_1 (by decide) (by decide) rfl (by decide) ?_
      refine xr_ic0 dX7_names_102 ?_
      refine xr_zret dX7_names_103 rfl (by first | rfl | decide | assumption) ?_
      exact ⟨by rw [show nm (nI (99 + 2)) = 0 by decide], rfl⟩
    · skip
      refine xr_tabIn (tgt := 102) dX7_names_1 (by decide) (by decide) rfl (by decide) ?_
      refine xr_ic0 dX7_names_102 ?_
      refine xr_zret dX7_names_103 rfl (by first | rfl | decide | assumption) ?_
      exact ⟨by rw [show nm (nI (99 + 3)) = 0 by decide], rfl⟩
    · skip
      refine xr_tabIn (tgt := 100) dX7_names_1 (by decide) (by decide) rfl (by decide) ?_
      refine xr_ic1 dX7_names_100 ?_
      refine xr_zret dX7_names_101 rfl (by first | rfl | decide | assumption) ?_
      exact ⟨by rw [show nm (nI (99 + 4)) = 1 by decide], rfl⟩
    · skip
      refine xr_tabIn (tgt := 102) dX7_names_1 (by decide) (by decide) rfl (by decide) ?_
      refine xr_ic0 dX7_names_102 ?_
      refine xr_zret dX7_names_103 rfl (by first | rfl | decide | assumption) ?_
      exact ⟨by rw [show nm (nI (99 + 5)) = 0 by decide], rfl⟩
    · skip
      refine xr_tabIn (tgt := 102) dX7_names_1 (by decide) (by decide) rfl (by decide) ?_
      refine xr_ic0 dX7_names_102 ?_
      refine xr_zret dX7_names_103 rfl (by first | rfl | decide | assumption) ?_
      exact ⟨by rw [show nm (nI (99 + 6)) = 0 by decide], rfl⟩
    · skip
      refine xr_tabIn (tgt := 102) dX7_names_1 (by decide) (by decide) rfl (by decide) ?_
      refine xr_ic0 dX7_names_102 ?_
      refine xr_zret dX7_names_103 rfl (by first | rfl | decide | assumption) ?_
      exact ⟨by rw [show nm (nI (99 + 7)) = 0 by decide], rfl⟩
    · skip
      refine xr_tabIn (tgt := 102) dX7_names_1 (by decide) (by decide) rfl (by decide) ?_
      refine xr_ic0 dX7_names_102 ?_
      refine xr_zret dX7_names_103 rfl (by first | rfl | decide | assumption) ?_
      exact ⟨by rw [show nm (nI (99 + 8)) = 0 by decide], rfl⟩
    · skip
      refine xr_tabIn (tgt := 102) dX7_names_1 (by decide) (by decide) rfl (by decide) ?_
      refine xr_ic0 dX7_names_102 ?_
      refine xr_zret dX7_names_103 rfl (by first | rfl | decide | assumption) ?_
      exact ⟨by rw [show nm (nI (99 + 9)) = 0 by decide], rfl⟩
    · skip
      refine xr_tabIn (tgt := 102) dX7_names_1 (by decide) (by decide) rfl (by decide) ?_
      refine xr_ic0 dX7_names_102 ?_
      refine xr_zret dX7_names_103 rfl (by first | rfl | decide | assumption) ?_
      exact ⟨by rw [show nm (nI (99 + 10)) = 0 by decide], rfl⟩
    · skip
      refine xr_tabIn (tgt := 100) dX7_names_1 (by decide) (by decide) rfl (by decide) ?_
      refine xr_ic1 dX7_names_100 ?_
      refine xr_zret dX7_names_101 rfl (by first | rfl | decide | assumption) ?_
      exact ⟨by rw [show nm (nI (99 + 11)) = 1 by decide], rfl⟩
    · skip
      refine xr_tabIn (tgt := 102) dX7_names_1 (by decide) (by decide) rfl (by decide) ?_
      refine xr_ic0 dX7_names_102 ?_
      refine xr_zret dX7_names_103 rfl (by first | rfl | decide | assumption) ?_
      exact ⟨by rw [show nm (nI (99 + 12)) = 0 by decide], rfl⟩
    · skip
      refine xr_tabIn (tgt := 102) dX7_names_1 (by decide) (by decide) rfl (by decide) ?_
      refine xr_ic0 dX7_names_102 ?_
      refine xr_zret dX7_names_103 rfl (by first | rfl | decide | assumption) ?_
      exact ⟨by rw [show nm (nI (99 + 13)) = 0 by decide], rfl⟩
    · skip
      refine xr_tabIn (tgt := 102) dX7_names_1 (by decide) (by decide) rfl (by decide) ?_
      refine xr_ic0 dX7_names_102 ?_
      refine xr_zret dX7_names_103 rfl (by first | rfl | decide | assumption) ?_
      exact ⟨by rw [show nm (nI (99 + 14)) = 0 by decide], rfl⟩
    · skip
      refine xr_tabIn (tgt := 102) dX7_names_1 (by decide) (by decide) rfl (by decide) ?_
      refine xr_ic0 dX7_names_102 ?_
      refine xr_zret dX7_names_103 rfl (by first | rfl | decide | assumption) ?_
      exact ⟨by rw [show nm (nI (99 + 15)) = 0 by decide], rfl⟩
    · skip
      refine xr_tabIn (tgt := 102) dX7_names_1 (by decide) (by decide) rfl (by decide) ?_
      refine xr_ic0 dX7_names_102 ?_
      refine xr_zret dX7_names_103 rfl (by first | rfl | decide | assumption) ?_
      exact ⟨by rw [show nm (nI (99 + 16)) = 0 by decide], rfl⟩
    · skip
      refine xr_tabIn (tgt := 100) dX7_names_1 (by decide) (by decide) rfl (by decide) ?_
      refine xr_ic1 dX7_names_100 ?_
      refine xr_zret dX7_names_101 rfl (by first | rfl | decide | assumption) ?_
      exact ⟨by rw [show nm (nI (99 + 17)) = 1 by decide], rfl⟩
    · skip
      refine xr_tabIn (tgt := 100) dX7_names_1 (by decide) (by decide) rfl (by decide) ?_
      refine xr_ic1 dX7_names_100 ?_
      refine xr_zret dX7_names_101 rfl (by first | rfl | decide | assumption) ?_
      exact ⟨by rw [show nm (nI (99 + 18)) = 1 by decide], rfl⟩
    · skip
      refine xr_tabIn (tgt := 102) dX7_names_1 (by decide) (by decide) rfl (by decide) ?_
      refine xr_ic0 dX7_names_102 ?_
      refine xr_zret dX7_names_103 rfl (by first | rfl | decide | assumption) ?_
      exact ⟨by rw [show nm (nI (99 + 19)) = 0 by decide], rfl⟩
    · skip
      refine xr_tabIn (tgt := 100) dX7_names_1 (by decide) (by decide) rfl (by decide) ?_
      refine xr_ic1 dX7_names_100 ?_
      refine xr_zret dX7_names_101 rfl (by first | rfl | decide | assumption) ?_
      exact ⟨by rw [show nm (nI (99 + 20)) = 1 by decide], rfl⟩
def jo (c x y : Int32) : Int32 := if c = 42 then x * y else if c = 43 then x + y else if c = 45 then x - y else if c = 60 then bI (x < y) else if c = 61 then bI (x = y) else if c = 62 then bI (y < x) else if y = 0 then 0 else x / y
set_option maxRecDepth 20000 in
theorem s_join {K : xK} {B : Nat} {l : Launch} {h : xH} (c x y : Int32) : xU K B l 0 mX7_join 0 0 [.int c, .int x, .int y] h (xQi (jo c x y) h) := by
  refine ⟨qX7_join, ?_⟩
  refine xS.intro RX7 false ⟨rfl, rfl, by decide, by decide, Nat.le_of_ble_eq_true rfl⟩ (ls := [some (.int c), some (.int x), some (.int y)]) rfl ?_
  refine xr_il0 dX7_join_0 ?_
  by_cases e42 : c = 42
  · skip
    subst e42
    refine xr_lookup (tgt := 101) dX7_join_1 (by decide) rfl (by decide) ?_
    refine xr_il1 dX7_join_101 ?_
    refine xr_il2 dX7_join_102 ?_
    refine xr_imul dX7_join_103 ?_
    refine xr_iret dX7_join_104 rfl ?_
    exact ⟨rfl, rfl⟩
  by_cases e43 : c = 43
  · skip
    subst e43
    refine xr_lookup (tgt := 93) dX7_join_1 (by decide) rfl (by decide) ?_
    refine xr_il1 dX7_join_93 ?_
    refine xr_il2 dX7_join_94 ?_
    refine xr_iadd dX7_join_95 ?_
    refine xr_iret dX7_join_96 rfl ?_
    exact ⟨rfl, rfl⟩
  by_cases e45 : c = 45
  · skip
    subst e45
    refine xr_lookup (tgt := 97) dX7_join_1 (by decide) rfl (by decide) ?_
    refine xr_il1 dX7_join_97 ?_
    refine xr_il2 dX7_join_98 ?_
    refine xr_isub dX7_join_99 ?_
    refine xr_iret dX7_join_100 rfl ?_
    exact ⟨rfl, rfl⟩
  by_cases e60 : c = 60
  · skip
    subst e60
    refine xr_lookup (tgt := 60) dX7_join_1 (by decide) rfl (by decide) ?_
    refine xr_il1 dX7_join_60 ?_
    refine xr_il2 dX7_join_61 ?_
    refine xr_icmpge (tgt := 69) dX7_join_62 (by decide) (fun zc62 => ?_) (fun zc62 => ?_)
    · skip
      refine xr_ic0 dX7_join_69 ?_
      refine xr_iret dX7_join_70 rfl ?_
      exact ⟨by show _ = some (Value.int (bI (x < y))); rw [bI_f (fun q => absurd zc62 (Int32.not_le.mpr q))], rfl⟩
    · skip
      refine xr_ic1 dX7_join_65 ?_
      refine xr_goto (tgt := 70) dX7_join_66 (by decide) ?_
      refine xr_iret dX7_join_70 rfl ?_
      exact ⟨by show _ = some (Value.int (bI (x < y))); rw [bI_t (Int32.not_le.mp zc62)], rfl⟩
  by_cases e61 : c = 61
  · skip
    subst e61
    refine xr_lookup (tgt := 82) dX7_join_1 (by decide) rfl (by decide) ?_
    refine xr_il1 dX7_join_82 ?_
    refine xr_il2 dX7_join_83 ?_
    refine xr_icmpne (tgt := 91) dX7_join_84 (by decide) (fun zc84 => ?_) (fun zc84 => ?_)
    · skip
      refine xr_ic0 dX7_join_91 ?_
      refine xr_iret dX7_join_92 rfl ?_
      exact ⟨by show _ = some (Value.int (bI (x = y))); rw [bI_f zc84], rfl⟩
    · skip
      refine xr_ic1 dX7_join_87 ?_
      refine xr_goto (tgt := 92) dX7_join_88 (by decide) ?_
      refine xr_iret dX7_join_92 rfl ?_
      exact ⟨by show _ = some (Value.int (bI (x = y))); rw [bI_t zc84], rfl⟩
  by_cases e62 : c = 62
  · skip
    subst e62
    refine xr_lookup (tgt := 71) dX7_join_1 (by decide) rfl (by decide) ?_
    refine xr_il1 dX7_join_71 ?_
    refine xr_il2 dX7_join_72 ?_
    refine xr_icmple (tgt := 80) dX7_join_73 (by decide) (fun zc73 => ?_) (fun zc73 => ?_)
    · skip
      refine xr_ic0 dX7_join_80 ?_
      refine xr_iret dX7_join_81 rfl ?_
      exact ⟨by show _ = some (Value.int (bI (y < x))); rw [bI_f (fun q => absurd zc73 (Int32.not_le.mpr q))], rfl⟩
    · skip
      refine xr_ic1 dX7_join_76 ?_
      refine xr_goto (tgt := 81) dX7_join_77 (by decide) ?_
      refine xr_iret dX7_join_81 rfl ?_
      exact ⟨by show _ = some (Value.int (bI (y < x))); rw [bI_t (Int32.not_le.mp zc73)], rfl⟩
  refine xr_lookup (off := 104) (tgt := 105) dX7_join_1 (by decide) ((lv_osw e42 rfl).trans ((lv_osw e43 rfl).trans ((lv_osw e45 rfl).trans ((lv_osw e60 rfl).trans ((lv_osw e61 rfl).trans ((lv_osw e62 rfl).trans rfl)))))) (by decide) ?_
  refine xr_il2 dX7_join_105 ?_
  refine xr_ifne (tgt := 113) dX7_join_106 (by decide) (fun zc106 => ?_) (fun zc106 => ?_)
  · skip
    refine xr_il1 dX7_join_113 ?_
    refine xr_il2 dX7_join_114 ?_
    refine xr_idiv dX7_join_115 zc106 ?_
    refine xr_iret dX7_join_116 rfl ?_
    exact ⟨by unfold jo; rw [if_neg e42, if_neg e43, if_neg e45, if_neg e60, if_neg e61, if_neg e62, if_neg zc106], rfl⟩
  · skip
    refine xr_ic0 dX7_join_109 ?_
    refine xr_goto (tgt := 116) dX7_join_110 (by decide) ?_
    refine xr_iret dX7_join_116 rfl ?_
    exact ⟨by unfold jo; rw [if_neg e42, if_neg e43, if_neg e45, if_neg e60, if_neg e61, if_neg e62, if_pos zc106], rfl⟩
def nmd (σ : xs) (c : Int32) : Int32 := if c = 110 then remI (σ 18) 7 else if c = 99 then σ 14 else if c = 117 then σ 10 else if c = 100 then σ 11 else if c = 119 then wt σ 0 31 else if c = 103 then σ 13 else if c = 116 then remI (σ 17) 5 else 0
theorem nmd_out (σ : xs) {c : Int32} (h : c.toInt < (99 : Int) ∨ (119 : Int) < c.toInt) : nmd σ c = 0 := by
  unfold nmd
  rw [if_neg, if_neg, if_neg, if_neg, if_neg, if_neg, if_neg] <;> (intro e; subst e; revert h; decide)
set_option maxRecDepth 20000 in
theorem s_named {K : xK} {B : Nat} {l : Launch} {h : xH} {a : Nat} {σ : xs} (G : xHill K h a σ) (ok : hOk σ) (c : Int32) : xU K B l 1 mX7_named 0 0 [.int c, .ref a] h (xQi (nmd σ c) h) := by
  obtain ⟨q0, q1, q2⟩ := id G
  unfold hO at q0
  refine ⟨qX7_named, ?_⟩
  refine xS.intro RX7 false ⟨rfl, rfl, by decide, by decide, Nat.le_of_ble_eq_true rfl⟩ (ls := [some (.int c), some (.ref a)]) rfl ?_
  refine xr_il0 dX7_named_0 ?_
  by_cases hlo : c.toInt < (99 : Int) ∨ (119 : Int) < c.toInt
  · skip
    refine xr_tabOut (tgt := 145) dX7_named_1 hlo (by decide) ?_
    refine xr_ic0 dX7_named_145 ?_
    refine xr_iret dX7_named_146 rfl ?_
    exact ⟨by rw [nmd_out σ hlo], rfl⟩
  · skip
    obtain ⟨j, hj, rfl⟩ := tab_in (lo := 99) (hi := 119) (by decide) hlo
    rcases (show j = 0 ∨ j = 1 ∨ j = 2 ∨ j = 3 ∨ j = 4 ∨ j = 5 ∨ j = 6 ∨ j = 7 ∨ j = 8 ∨ j = 9 ∨ j = 10 ∨ j = 11 ∨ j = 12 ∨ j = 13 ∨ j = 14 ∨ j = 15 ∨ j = 16 ∨ j = 17 ∨ j = 18 ∨ j = 19 ∨ j = 20 by omega) with rfl | rfl | rfl | rfl | rfl | rfl | rfl | rfl | rfl | rfl | rfl | rfl | rfl | rfl | rfl | rfl | rfl | rfl | rfl | rfl | rfl
    · skip
      refine xr_tabIn (tgt := 108) dX7_named_1 (by decide) (by decide) rfl (by decide) ?_
      refine xr_al1 dX7_named_108 ?_
      refine xr_get q0 fX7_54 rfl dX7_named_109 ?_
      refine xr_iret dX7_named_112 rfl ?_
      exact ⟨by unfold nmd; rw [if_neg (by decide), if_pos (by decide)], rfl⟩
    · skip
      refine xr_tabIn (tgt := 119) dX7_named_1 (by decide) (by decide) rfl (by decide) ?_
      refine xr_al1 dX7_named_119 ?_
      refine xr_ic1 dX7_named_120 ?_
      refine xr_Vi1 (s_waits G _) kX7_57 (by decide) (Nat.le_of_ble_eq_true rfl) (Nat.zero_add _) (Nat.zero_add _) dX7_named_121 ?_
      refine xr_iret dX7_named_124 rfl ?_
      exact ⟨by unfold nmd; rw [if_neg (by decide), if_neg (by decide), if_neg (by decide), if_pos (by decide)]; rfl, rfl⟩
    · skip
      refine xr_tabIn (tgt := 145) dX7_named_1 (by decide) (by decide) rfl (by decide) ?_
      refine xr_ic0 dX7_named_145 ?_
      refine xr_iret dX7_named_146 rfl ?_
      exact ⟨by unfold nmd; rw [if_neg (by decide), if_neg (by decide), if_neg (by decide), if_neg (by decide), if_neg (by decide), if_neg (by decide), if_neg (by decide)], rfl⟩
    · skip
      refine xr_tabIn (tgt := 145) dX7_named_1 (by decide) (by decide) rfl (by decide) ?_
      refine xr_ic0 dX7_named_145 ?_
      refine xr_iret dX7_named_146 rfl ?_
      exact ⟨by unfold nmd; rw [if_neg (by decide), if_neg (by decide), if_neg (by decide), if_neg (by decide), if_neg (by decide), if_neg (by decide), if_neg (by decide)], rfl⟩
    · skip
      refine xr_tabIn (tgt := 133) dX7_named_1 (by decide) (by decide) rfl (by decide) ?_
      refine xr_al1 dX7_named_133 ?_
      refine xr_get q0 fX7_64 rfl dX7_named_134 ?_
      refine xr_iret dX7_named_137 rfl ?_
      exact ⟨by unfold nmd; rw [if_neg (by decide), if_neg (by decide), if_neg (by decide), if_neg (by decide), if_neg (by decide), if_pos (by decide)], rfl⟩
    · skip
      refine xr_tabIn (tgt := 145) dX7_named_1 (by decide) (by decide) rfl (by decide) ?_
      refine xr_ic0 dX7_named_145 ?_
      refine xr_iret dX7_named_146 rfl ?_
      exact ⟨by unfold nmd; rw [if_neg (by decide), if_neg (by decide), if_neg (by decide), if_neg (by decide), if_neg (by decide), if_neg (by decide), if_neg (by decide)], rfl⟩
    · skip
      refine xr_tabIn (tgt := 145) dX7_named_1 (by decide) (by decide) rfl (by decide) ?_
      refine xr_ic0 dX7_named_145 ?_
      refine xr_iret dX7_named_146 rfl ?_
      exact ⟨by unfold nmd; rw [if_neg (by decide), if_neg (by decide), if_neg (by decide), if_neg (by decide), if_neg (by decide), if_neg (by decide), if_neg (by decide)], rfl⟩
    · skip
      refine xr_tabIn (tgt := 145) dX7_named_1 (by decide) (by decide) rfl (by decide) ?_
      refine xr_ic0 dX7_named_145 ?_
      refine xr_iret dX7_named_146 rfl ?_
      exact ⟨by unfold nmd; rw [if_neg (by decide), if_neg (by decide), if_neg (by decide), if_neg (by decide), if_neg (by decide), if_neg (by decide), if_neg (by decide)], rfl⟩
    · skip
      refine xr_tabIn (tgt := 145) dX7_named_1 (by decide) (by decide) rfl (by decide) ?_
      refine xr_ic0 dX7_named_145 ?_
      refine xr_iret dX7_named_146 rfl ?_
      exact ⟨by unfold nmd; rw [if_neg (by decide), if_neg (by decide), if_neg (by decide), if_neg (by decide), if_neg (by decide), if_neg (by decide), if_neg (by decide)], rfl⟩
    · skip
      refine xr_tabIn (tgt := 145) dX7_named_1 (by decide) (by decide) rfl (by decide) ?_
      refine xr_ic0 dX7_named_145 ?_
      refine xr_iret dX7_named_146 rfl ?_
      exact ⟨by unfold nmd; rw [if_neg (by decide), if_neg (by decide), if_neg (by decide), if_neg (by decide), if_neg (by decide), if_neg (by decide), if_neg (by decide)], rfl⟩
    · skip
      refine xr_tabIn (tgt := 145) dX7_named_1 (by decide) (by decide) rfl (by decide) ?_
      refine xr_ic0 dX7_named_145 ?_
      refine xr_iret dX7_named_146 rfl ?_
      exact ⟨by unfold nmd; rw [if_neg (by decide), if_neg (by decide), if_neg (by decide), if_neg (by decide), if_neg (by decide), if_neg (by decide), if_neg (by decide)], rfl⟩
    · skip
      refine xr_tabIn (tgt := 100) dX7_named_1 (by decide) (by decide) rfl (by decide) ?_
      refine xr_al1 dX7_named_100 ?_
      refine xr_get q0 fX7_49 rfl dX7_named_101 ?_
      refine xr_bipush (v := 7) dX7_named_104 (by decide) ?_
      refine xr_irem dX7_named_106 (by decide) ?_
      refine xr_iret dX7_named_107 rfl ?_
      exact ⟨by unfold nmd; rw [if_pos (by decide)]; rfl, rfl⟩
    · skip
      refine xr_tabIn (tgt := 145) dX7_named_1 (by decide) (by decide) rfl (by decide) ?_
      refine xr_ic0 dX7_named_145 ?_
      refine xr_iret dX7_named_146 rfl ?_
      exact ⟨by unfold nmd; rw [if_neg (by decide), if_neg (by decide), if_neg (by decide), if_neg (by decide), if_neg (by decide), if_neg (by decide), if_neg (by decide)], rfl⟩
    · skip
      refine xr_tabIn (tgt := 145) dX7_named_1 (by decide) (by decide) rfl (by decide) ?_
      refine xr_ic0 dX7_named_145 ?_
      refine xr_iret dX7_named_146 rfl ?_
      exact ⟨by unfold nmd; rw [if_neg (by decide), if_neg (by decide), if_neg (by decide), if_neg (by decide), if_neg (by decide), if_neg (by decide), if_neg (by decide)], rfl⟩
    · skip
      refine xr_tabIn (tgt := 145) dX7_named_1 (by decide) (by decide) rfl (by decide) ?_
      refine xr_ic0 dX7_named_145 ?_
      refine xr_iret dX7_named_146 rfl ?_
      exact ⟨by unfold nmd; rw [if_neg (by decide), if_neg (by decide), if_neg (by decide), if_neg (by decide), if_neg (by decide), if_neg (by decide), if_neg (by decide)], rfl⟩
    · skip
      refine xr_tabIn (tgt := 145) dX7_named_1 (by decide) (by decide) rfl (by decide) ?_
      refine xr_ic0 dX7_named_145 ?_
      refine xr_iret dX7_named_146 rfl ?_
      exact ⟨by unfold nmd; rw [if_neg (by decide), if_neg (by decide), if_neg (by decide), if_neg (by decide), if_neg (by decide), if_neg (by decide), if_neg (by decide)], rfl⟩
    · skip
      refine xr_tabIn (tgt := 145) dX7_named_1 (by decide) (by decide) rfl (by decide) ?_
      refine xr_ic0 dX7_named_145 ?_
      refine xr_iret dX7_named_146 rfl ?_
      exact ⟨by unfold nmd; rw [if_neg (by decide), if_neg (by decide), if_neg (by decide), if_neg (by decide), if_neg (by decide), if_neg (by decide), if_neg (by decide)], rfl⟩
    · skip
      refine xr_tabIn (tgt := 138) dX7_named_1 (by decide) (by decide) rfl (by decide) ?_
      refine xr_al1 dX7_named_138 ?_
      refine xr_get q0 fX7_67 rfl dX7_named_139 ?_
      refine xr_ic5 dX7_named_142 ?_
      refine xr_irem dX7_named_143 (by decide) ?_
      refine xr_iret dX7_named_144 rfl ?_
      exact ⟨by unfold nmd; rw [if_neg (by decide), if_neg (by decide), if_neg (by decide), if_neg (by decide), if_neg (by decide), if_neg (by decide), if_pos (by decide)]; rfl, rfl⟩
    · skip
      refine xr_tabIn (tgt := 113) dX7_named_1 (by decide) (by decide) rfl (by decide) ?_
      refine xr_al1 dX7_named_113 ?_
      refine xr_ic0 dX7_named_114 ?_
      refine xr_Vi1 (s_waits G _) kX7_57 (by decide) (Nat.le_of_ble_eq_true rfl) (Nat.zero_add _) (Nat.zero_add _) dX7_named_115 ?_
      refine xr_iret dX7_named_118 rfl ?_
      exact ⟨by unfold nmd; rw [if_neg (by decide), if_neg (by decide), if_pos (by decide)]; rfl, rfl⟩
    · skip
      refine xr_tabIn (tgt := 145) dX7_named_1 (by decide) (by decide) rfl (by decide) ?_
      refine xr_ic0 dX7_named_145 ?_
      refine xr_iret dX7_named_146 rfl ?_
      exact ⟨by unfold nmd; rw [if_neg (by decide), if_neg (by decide), if_neg (by decide), if_neg (by decide), if_neg (by decide), if_neg (by decide), if_neg (by decide)], rfl⟩
    · skip
      refine xr_tabIn (tgt := 125) dX7_named_1 (by decide) (by decide) rfl (by decide) ?_
      refine xr_al1 dX7_named_125 ?_
      refine xr_ic0 dX7_named_126 ?_
      refine xr_bipush (v := 31) dX7_named_127 (by decide) ?_
      refine xr_Vi2 (s_weightOf G ok (s := 0) (by decide) _) kX7_61 (by decide) (Nat.le_of_ble_eq_true rfl) (Nat.zero_add _) (Nat.zero_add _) dX7_named_129 ?_
      refine xr_iret dX7_named_132 rfl ?_
      exact ⟨by unfold nmd; rw [if_neg (by decide), if_neg (by decide), if_neg (by decide), if_neg (by decide), if_pos (by decide)], rfl⟩
def sp1 (σ : xs) (c : Int32) (S : (Nat → Int32) × Nat) : (Nat → Int32) × Nat :=
  if c = -1 then (if S.2 < 1 then S else (upd S.1 (S.2 - 1) (0 - S.1 (S.2 - 1)), S.2))
  else if jn (0 - c) = 0 then (if 40 ≤ S.2 then S else (upd S.1 S.2 (if c < 0 then nmd σ (0 - c) else c), S.2 + 1))
  else (if S.2 < 2 then S else (upd S.1 (S.2 - 2) (jo (0 - c) (S.1 (S.2 - 2)) (S.1 (S.2 - 1))), S.2 - 1))
def spN (σ : xs) (f : Nat → Int32) (S : (Nat → Int32) × Nat) : Nat → (Nat → Int32) × Nat
  | 0 => S
  | k + 1 => sp1 σ (f k) (spN σ f S k)
theorem spN_s (σ : xs) (f : Nat → Int32) (S : (Nat → Int32) × Nat) (k : Nat) : spN σ f S (k + 1) = sp1 σ (f k) (spN σ f S k) := rfl
theorem sp1_le (σ : xs) (c : Int32) (S : (Nat → Int32) × Nat) (h : S.2 ≤ 40) : (sp1 σ c S).2 ≤ 40 := by
  unfold sp1
  split
  · split
    · exact h
    · exact h
  · split
    · split
      · exact h
      · show S.2 + 1 ≤ 40
        omega
    · split
      · exact h
      · show S.2 - 1 ≤ 40
        omega
theorem spN_le (σ : xs) (f : Nat → Int32) (S : (Nat → Int32) × Nat) (h : S.2 ≤ 40) (k : Nat) : (spN σ f S k).2 ≤ 40 := by
  induction k with
  | zero => exact h
  | succ k ih => exact sp1_le σ _ _ ih
def spr (σ : xs) (f g : Nat → Int32) (n : Nat) : Int32 := if n = 0 then 3 else iMax 0 (iMin 9 ((spN σ f (g, 0) n).1 0))
theorem nI_sub {a b : Nat} (h : b ≤ a) : nI a - nI b = nI (a - b) := pk_sub h
theorem nI_dec {t : Nat} (h : 1 ≤ t) : nI t + Int32.ofInt (-1) = nI (t - 1) := by
  obtain ⟨m, rfl⟩ : ∃ m, t = m + 1 := ⟨t - 1, by omega⟩
  exact pk_m1 m
theorem xix_sub {t d n : Nat} (hd : d ≤ t) (ht : t ≤ n) (h1 : 1 ≤ d) (hn : n < 2 ^ 31) : xix (nI t - nI d) n (t - d) := by
  rw [nI_sub hd]
  exact xix_nI (by omega) hn
theorem xup_same {h : xH} {a : Nat} {e : va_E} {b : Nat} (n : b ≠ a) {v : Option va_E} (hb : h.2 b = v) : (xup h a e).2 b = v := (xup_ne _ _ n).trans hb
set_option maxRecDepth 20000 in
theorem lp_spring {K : xK} {B : Nat} {l : Launch} {h : xH} {a : Nat} {b : Nat} {σ : xs} {f g : Nat → Int32} {n : Nat} (H : X3 h a (ruO a (nI n)) (iA K 40 f) (iA K 40 g)) (hn : n ≤ 40) (G : xHill K h b σ) (ok : hOk σ) (dj : a + 3 ≤ b ∨ b + 3 ≤ a) (h0 : ¬ n = 0) : ∀ (r k : Nat) (y4 : Option Value), k + r = n → xT K B l 2 RX7 false cX7_spring 5 (some .int) 0 0 0 0 (xQi (spr σ f g n) (xup h (a + 2) (iA K 40 (spN σ f (g, 0) n).1))) 13 [some (.ref a), some (.ref b), some (.int (nI (spN σ f (g, 0) k).2)), some (.int (nI k)), y4] [] (xup h (a + 2) (iA K 40 (spN σ f (g, 0) k).1)) := by
  intro r
  induction r with
  | zero =>
    intro k y4 hk
    have hk' : k = n := hk
    have ht : (spN σ f (g, 0) k).2 ≤ 40 := spN_le σ f (g, 0) (Nat.zero_le 40) k
    obtain ⟨o0, o1, o2⟩ := id H
    have o0 := xup_same (e := iA K 40 (spN σ f (g, 0) k).1) (show a ≠ a + 2 by omega) o0
    have o1 := xup_same (e := iA K 40 (spN σ f (g, 0) k).1) (show a + 1 ≠ a + 2 by omega) o1
    have o2 := xup_eq h (a + 2) (iA K 40 (spN σ f (g, 0) k).1)
    have G2 : xHill K (xup h (a + 2) (iA K 40 (spN σ f (g, 0) k).1)) b σ := G.fr (fun c _ _ => xup_ne _ _ (by omega))
    refine xr_il3 dX7_spring_13 ?_
    refine xr_al0 dX7_spring_14 ?_
    refine xr_get o0 fX7_18 rfl dX7_spring_15 ?_
    refine xr_icmpge (tgt := 154) dX7_spring_18 (by decide) (fun zc18 => ?_) (fun zc18 => ?_)
    · skip
      refine xr_ic0 dX7_spring_154 ?_
      refine xr_bipush (v := 9) dX7_spring_155 (by decide) ?_
      refine xr_al0 dX7_spring_157 ?_
      refine xr_get o0 fX7_15 rfl dX7_spring_158 ?_
      refine xr_ic0 dX7_spring_161 ?_
      refine xr_iald o2 (xix_lit (j := 0) (by decide)) dX7_spring_162 ?_
      refine xr_min kmX7_40 ms_min wz_J9 mc_min (by decide) (Nat.le_of_ble_eq_true rfl) dX7_spring_163 ?_
      refine xr_max kmX7_46 ms_max wz_J9 mc_max (by decide) (Nat.le_of_ble_eq_true rfl) dX7_spring_166 ?_
      refine xr_iret dX7_spring_169 rfl ?_
      subst hk'
      exact ⟨by unfold spr; rw [if_neg h0]; rfl, rfl⟩
    · skip
      exact absurd (nI_le (by omega) (by omega)) zc18
  | succ r ih =>
    intro k y4 hk
    have hk5 : k < 40 := by omega
    have ht : (spN σ f (g, 0) k).2 ≤ 40 := spN_le σ f (g, 0) (Nat.zero_le 40) k
    obtain ⟨o0, o1, o2⟩ := id H
    have o0 := xup_same (e := iA K 40 (spN σ f (g, 0) k).1) (show a ≠ a + 2 by omega) o0
    have o1 := xup_same (e := iA K 40 (spN σ f (g, 0) k).1) (show a + 1 ≠ a + 2 by omega) o1
    have o2 := xup_eq h (a + 2) (iA K 40 (spN σ f (g, 0) k).1)
    have G2 : xHill K (xup h (a + 2) (iA K 40 (spN σ f (g, 0) k).1)) b σ := G.fr (fun c _ _ => xup_ne _ _ (by omega))
    refine xr_il3 dX7_spring_13 ?_
    refine xr_al0 dX7_spring_14 ?_
    refine xr_get o0 fX7_18 rfl dX7_spring_15 ?_
    refine xr_icmpge (tgt := 154) dX7_spring_18 (by decide) (fun zc18 => ?_) (fun zc18 => ?_)
    · skip
      exact absurd zc18 (nI_ge (by omega) (by omega))
    · skip
      refine xr_il3 dX7_spring_21 ?_
      refine xr_bipush (v := 40) dX7_spring_22 (by decide) ?_
      refine xr_icmpge (tgt := 154) dX7_spring_24 (by decide) (fun zc24 => ?_) (fun zc24 => ?_)
      · skip
        exact absurd zc24 (nI_ge (b := 40) (by omega) (by decide))
      · skip
        refine xr_al0 dX7_spring_27 ?_
        refine xr_get o0 fX7_11 rfl dX7_spring_28 ?_
        refine xr_il3 dX7_spring_31 ?_
        refine xr_iald o1 (xix_nI hk5 (by decide)) dX7_spring_32 ?_
        refine xr_is4 dX7_spring_33 (by decide) rfl ?_
        refine xr_il4 dX7_spring_35 ?_
        refine xr_icm1 dX7_spring_37 ?_
        refine xr_icmpne (tgt := 66) dX7_spring_38 (by decide) (fun zc38 => ?_) (fun zc38 => ?_)
        · skip
          refine xr_il4 dX7_spring_66 ?_
          refine xr_ineg dX7_spring_68 ?_
          refine xr_Si1 (s_joins _) kX7_28 (by decide) (Nat.le_of_ble_eq_true rfl) (Nat.zero_add _) (Nat.zero_add _) dX7_spring_69 ?_
          refine xr_ifeq (tgt := 116) dX7_spring_72 (by decide) (fun zc72 => ?_) (fun zc72 => ?_)
          · skip
            refine xr_il2 dX7_spring_116 ?_
            refine xr_bipush (v := 40) dX7_spring_117 (by decide) ?_
            refine xr_icmpge (tgt := 148) dX7_spring_119 (by decide) (fun zc119 => ?_) (fun zc119 => ?_)
            · skip
              have t40 : 40 ≤ (spN σ f (g, 0) k).2 := (nI_leI (by decide) (by omega)).mp zc119
              refine xr_inc3 dX7_spring_148 (nI_inc k) (by decide) rfl ?_
              refine xr_goto (tgt := 13) dX7_spring_151 (by decide) ?_
              have hi := ih (k + 1) (some (.int (f k))) (by omega)
              rw [spN_s] at hi
              unfold sp1 at hi
              rw [if_neg zc38, if_pos zc72] at hi
              rw [if_pos t40] at hi
              exact hi
            · skip
              have t40 : ¬ 40 ≤ (spN σ f (g, 0) k).2 := fun q => zc119 (nI_le q (by omega))
              refine xr_al0 dX7_spring_122 ?_
              refine xr_get o0 fX7_15 rfl dX7_spring_123 ?_
              refine xr_il2 dX7_spring_126 ?_
              refine xr_il4 dX7_spring_127 ?_
              refine xr_iflt (tgt := 137) dX7_spring_129 (by decide) (fun zc129 => ?_) (fun zc129 => ?_)
              · skip
                refine xr_il4 dX7_spring_137 ?_
                refine xr_ineg dX7_spring_139 ?_
                refine xr_al1 dX7_spring_140 ?_
                refine xr_Si2 (s_named G2 ok _) kX7_36 (by decide) (Nat.le_of_ble_eq_true rfl) (Nat.zero_add _) (Nat.zero_add _) dX7_spring_141 ?_
                refine xr_iast o2 (xix_nI (by omega) (by decide)) dX7_spring_144 ?_
                refine xT.nm (fun zh1 zg1 => ?_)
                have o0 := xg_ne zg1 (by omega) o0
                have o1 := xg_ne zg1 (by omega) o1
                have o2 := xg_eq zg1
                refine xr_inc2 dX7_spring_145 (nI_inc _) (by decide) rfl ?_
                refine xr_inc3 dX7_spring_148 (nI_inc k) (by decide) rfl ?_
                refine xr_goto (tgt := 13) dX7_spring_151 (by decide) ?_
                have hi := ih (k + 1) (some (.int (f k))) (by omega)
                rw [spN_s] at hi
                unfold sp1 at hi
                rw [if_neg zc38, if_pos zc72] at hi
                rw [if_neg t40] at hi
                rw [if_pos zc129] at hi
                rw [zg1, xup_xup]
                exact hi
              · skip
                refine xr_il4 dX7_spring_132 ?_
                refine xr_goto (tgt := 144) dX7_spring_134 (by decide) ?_
                refine xr_iast o2 (xix_nI (by omega) (by decide)) dX7_spring_144 ?_
                refine xT.nm (fun zh1 zg1 => ?_)
                have o0 := xg_ne zg1 (by omega) o0
                have o1 := xg_ne zg1 (by omega) o1
                have o2 := xg_eq zg1
                refine xr_inc2 dX7_spring_145 (nI_inc _) (by decide) rfl ?_
                refine xr_inc3 dX7_spring_148 (nI_inc k) (by decide) rfl ?_
                refine xr_goto (tgt := 13) dX7_spring_151 (by decide) ?_
                have hi := ih (k + 1) (some (.int (f k))) (by omega)
                rw [spN_s] at hi
                unfold sp1 at hi
                rw [if_neg zc38, if_pos zc72] at hi
                rw [if_neg t40] at hi
                rw [if_neg zc129] at hi
                rw [zg1, xup_xup]
                exact hi
          · skip
            refine xr_il2 dX7_spring_75 ?_
            refine xr_ic2 dX7_spring_76 ?_
            refine xr_icmplt (tgt := 148) dX7_spring_77 (by decide) (fun zc77 => ?_) (fun zc77 => ?_)
            · skip
              have t2 : (spN σ f (g, 0) k).2 < 2 := (nI_ltI (by omega) (by decide)).mp zc77
              refine xr_inc3 dX7_spring_148 (nI_inc k) (by decide) rfl ?_
              refine xr_goto (tgt := 13) dX7_spring_151 (by decide) ?_
              have hi := ih (k + 1) (some (.int (f k))) (by omega)
              rw [spN_s] at hi
              unfold sp1 at hi
              rw [if_neg zc38, if_neg zc72] at hi
              rw [if_pos t2] at hi
              exact hi
            · skip
              have t2 : ¬ (spN σ f (g, 0) k).2 < 2 := fun q => zc77 (nI_lt q (by decide))
              refine xr_al0 dX7_spring_80 ?_
              refine xr_get o0 fX7_15 rfl dX7_spring_81 ?_
              refine xr_il2 dX7_spring_84 ?_
              refine xr_ic2 dX7_spring_85 ?_
              refine xr_isub dX7_spring_86 ?_
              refine xr_il4 dX7_spring_87 ?_
              refine xr_ineg dX7_spring_89 ?_
              refine xr_al0 dX7_spring_90 ?_
              refine xr_get o0 fX7_15 rfl dX7_spring_91 ?_
              refine xr_il2 dX7_spring_94 ?_
              refine xr_ic2 dX7_spring_95 ?_
              refine xr_isub dX7_spring_96 ?_
              refine xr_iald o2 (xix_sub (d := 2) (by omega) ht (by decide) (by decide)) dX7_spring_97 ?_
              refine xr_al0 dX7_spring_98 ?_
              refine xr_get o0 fX7_15 rfl dX7_spring_99 ?_
              refine xr_il2 dX7_spring_102 ?_
              refine xr_ic1 dX7_spring_103 ?_
              refine xr_isub dX7_spring_104 ?_
              refine xr_iald o2 (xix_sub (d := 1) (by omega) ht (by decide) (by decide)) dX7_spring_105 ?_
              refine xr_Si3 (s_join _ _ _) kX7_32 (by decide) (Nat.le_of_ble_eq_true rfl) (Nat.zero_add _) (Nat.zero_add _) dX7_spring_106 ?_
              refine xr_iast o2 (xix_sub (d := 2) (by omega) ht (by decide) (by decide)) dX7_spring_109 ?_
              refine xT.nm (fun zh1 zg1 => ?_)
              have o0 := xg_ne zg1 (by omega) o0
              have o1 := xg_ne zg1 (by omega) o1
              have o2 := xg_eq zg1
              refine xr_inc2 dX7_spring_110 (nI_dec (by omega)) (by decide) rfl ?_
              refine xr_goto (tgt := 148) dX7_spring_113 (by decide) ?_
              refine xr_inc3 dX7_spring_148 (nI_inc k) (by decide) rfl ?_
              refine xr_goto (tgt := 13) dX7_spring_151 (by decide) ?_
              have hi := ih (k + 1) (some (.int (f k))) (by omega)
              rw [spN_s] at hi
              unfold sp1 at hi
              rw [if_neg zc38, if_neg zc72] at hi
              rw [if_neg t2] at hi
              rw [zg1, xup_xup]
              exact hi
        · skip
          refine xr_il2 dX7_spring_41 ?_
          refine xr_ic1 dX7_spring_42 ?_
          refine xr_icmplt (tgt := 148) dX7_spring_43 (by decide) (fun zc43 => ?_) (fun zc43 => ?_)
          · skip
            have t1 : (spN σ f (g, 0) k).2 < 1 := (nI_ltI (by omega) (by decide)).mp zc43
            refine xr_inc3 dX7_spring_148 (nI_inc k) (by decide) rfl ?_
            refine xr_goto (tgt := 13) dX7_spring_151 (by decide) ?_
            have hi := ih (k + 1) (some (.int (f k))) (by omega)
            rw [spN_s] at hi
            unfold sp1 at hi
            rw [if_pos zc38] at hi
            rw [if_pos t1] at hi
            exact hi
          · skip
            have t1 : ¬ (spN σ f (g, 0) k).2 < 1 := fun q => zc43 (nI_lt q (by decide))
            refine xr_al0 dX7_spring_46 ?_
            refine xr_get o0 fX7_15 rfl dX7_spring_47 ?_
            refine xr_il2 dX7_spring_50 ?_
            refine xr_ic1 dX7_spring_51 ?_
            refine xr_isub dX7_spring_52 ?_
            refine xr_al0 dX7_spring_53 ?_
            refine xr_get o0 fX7_15 rfl dX7_spring_54 ?_
            refine xr_il2 dX7_spring_57 ?_
            refine xr_ic1 dX7_spring_58 ?_
            refine xr_isub dX7_spring_59 ?_
            refine xr_iald o2 (xix_sub (d := 1) (by omega) ht (by decide) (by decide)) dX7_spring_60 ?_
            refine xr_ineg dX7_spring_61 ?_
            refine xr_iast o2 (xix_sub (d := 1) (by omega) ht (by decide) (by decide)) dX7_spring_62 ?_
            refine xT.nm (fun zh1 zg1 => ?_)
            have o0 := xg_ne zg1 (by omega) o0
            have o1 := xg_ne zg1 (by omega) o1
            have o2 := xg_eq zg1
            refine xr_goto (tgt := 148) dX7_spring_63 (by decide) ?_
            refine xr_inc3 dX7_spring_148 (nI_inc k) (by decide) rfl ?_
            refine xr_goto (tgt := 13) dX7_spring_151 (by decide) ?_
            have hi := ih (k + 1) (some (.int (f k))) (by omega)
            rw [spN_s] at hi
            unfold sp1 at hi
            rw [if_pos zc38] at hi
            rw [if_neg t1] at hi
            rw [zg1, xup_xup]
            exact hi
set_option maxRecDepth 20000 in
theorem s_spring {K : xK} {B : Nat} {l : Launch} {h : xH} {a : Nat} {b : Nat} {σ : xs} {f g : Nat → Int32} {n : Nat} (H : X3 h a (ruO a (nI n)) (iA K 40 f) (iA K 40 g)) (hn : n ≤ 40) (G : xHill K h b σ) (ok : hOk σ) (dj : a + 3 ≤ b ∨ b + 3 ≤ a) : xV K B l 2 mX7_spring 0 0 (a) [.ref b] h (xQi (spr σ f g n) (xup h (a + 2) (iA K 40 (spN σ f (g, 0) n).1))) := by
  obtain ⟨o0, o1, o2⟩ := id H
  refine ⟨⟨_, _, _, _, H.1, rfl⟩, qX7_spring, ?_⟩
  refine xS.intro RX7 false ⟨rfl, rfl, by decide, by decide, Nat.le_of_ble_eq_true rfl⟩ (ls := [some (.ref a), some (.ref b), none, none, none]) rfl ?_
  refine xr_al0 dX7_spring_0 ?_
  refine xr_get o0 fX7_18 rfl dX7_spring_1 ?_
  refine xr_ifne (tgt := 9) dX7_spring_4 (by decide) (fun zc4 => ?_) (fun zc4 => ?_)
  · skip
    have h0 : ¬ n = 0 := fun q => zc4 (by rw [q]; rfl)
    refine xr_ic0 dX7_spring_9 ?_
    refine xr_is2 dX7_spring_10 (by decide) rfl ?_
    refine xr_ic0 dX7_spring_11 ?_
    refine xr_is3 dX7_spring_12 (by decide) rfl ?_
    have hi := lp_spring (B := B) (l := l) H hn G ok dj h0 n 0 none (by omega)
    have e0 : xup h (a + 2) (iA K 40 (spN σ f (g, 0) 0).1) = h := xup_id H.2.2
    rw [e0] at hi
    exact hi
  · skip
    refine xr_ic3 dX7_spring_7 ?_
    refine xr_iret dX7_spring_8 rfl ?_
    have h0 : n = 0 := (nI_eq (by omega) (by decide)).mp zc4
    subst h0
    exact ⟨rfl, (xup_id H.2.2).symm⟩
abbrev hGo (σ : xs) : Prop := ¬ σ 10 + σ 11 = 0 ∧ ¬ σ 14 < hWater σ (hNext σ 0) (hNext σ 1)
def hMid (σ : xs) : xs := if hGo σ then hTravel σ (hNext σ 0) (hNext σ 1) else σ
theorem hOk_mid {σ : xs} (ok : hOk σ) : hOk (hMid σ) := by
  unfold hMid
  split
  · exact hOk_travel ok _ _
  · exact ok
theorem xpH_up (K : xK) (h : xH) {a c : Nat} (σ : xs) (e : va_E) (n : c + 1 ≤ a ∨ a + 3 ≤ c) : xup (xpH K h a σ) c e = xpH K (xup h c e) a σ := by
  unfold xpH
  rw [xup_comm _ (hN K σ) e (by omega), xup_comm _ (hW K σ) e (by omega), xup_comm _ (hO a σ) e (by omega)]
theorem X3.pH {K : xK} {h : xH} {a b : Nat} {σ : xs} {o e f : va_E} (H : X3 h b o e f) (dj : a + 3 ≤ b ∨ b + 3 ≤ a) : X3 (xpH K h a σ) b o e f :=
  ⟨(xpH_ne K h σ (by omega) (by omega) (by omega)).trans H.1, (xpH_ne K h σ (by omega) (by omega) (by omega)).trans H.2.1, (xpH_ne K h σ (by omega) (by omega) (by omega)).trans H.2.2⟩
set_option maxRecDepth 20000 in
theorem s_runMinute {K : xK} {B : Nat} {l : Launch} {h : xH} {a : Nat} {b : Nat} {σ : xs} {f g : Nat → Int32} {n : Nat} (H : xHill K h a σ) (ok : hOk σ) (R : X3 h b (ruO b (nI n)) (iA K 40 f) (iA K 40 g)) (hn : n ≤ 40) (dj : b + 3 ≤ a ∨ a + 3 ≤ b) : xV K B l 3 mX3_runMinute 0 0 (a) [.ref b] h (xQi (bI (hGo σ)) (xpH K (xup h (b + 2) (iA K 40 (spN (hMid σ) f (g, 0) n).1)) a (hPass (hMid σ) (spr (hMid σ) f g n)))) := by
  obtain ⟨o0, o1, o2⟩ := id H
  unfold hO at o0; unfold hW at o1; unfold hN at o2
  refine ⟨⟨_, _, _, _, H.1, rfl⟩, qX3_runMinute, ?_⟩
  refine xS.intro RX3 false ⟨rfl, rfl, by decide, by decide, Nat.le_of_ble_eq_true rfl⟩ (ls := [some (.ref a), some (.ref b), none, none, none]) rfl ?_
  refine xr_al0 dX3_runMinute_0 ?_
  refine xr_ic0 dX3_runMinute_1 ?_
  refine xr_Vi1 (s_nextOf H _) kX3_85 (by decide) (Nat.le_of_ble_eq_true rfl) (Nat.zero_add _) (Nat.zero_add _) dX3_runMinute_2 ?_
  refine xr_is2 dX3_runMinute_5 (by decide) rfl ?_
  refine xr_al0 dX3_runMinute_6 ?_
  refine xr_ic1 dX3_runMinute_7 ?_
  refine xr_Vi1 (s_nextOf H _) kX3_85 (by decide) (Nat.le_of_ble_eq_true rfl) (Nat.zero_add _) (Nat.zero_add _) dX3_runMinute_8 ?_
  refine xr_is3 dX3_runMinute_11 (by decide) rfl ?_
  refine xr_al0 dX3_runMinute_12 ?_
  refine xr_Vi0 (s_nobodyWaits H) kX3_95 (by decide) (Nat.le_of_ble_eq_true rfl) (Nat.zero_add _) (Nat.zero_add _) dX3_runMinute_13 ?_
  refine xr_ifne (tgt := 36) dX3_runMinute_16 (by decide) (fun zc16 => ?_) (fun zc16 => ?_)
  · skip
    have hg : ¬ hGo σ := fun q => q.1 (Decidable.not_not.mp (fun z => zc16 (bI_0.mpr z)))
    refine xr_ic0 dX3_runMinute_36 ?_
    refine xr_is4 dX3_runMinute_37 (by decide) rfl ?_
    refine xr_il4 dX3_runMinute_39 ?_
    refine xr_ifeq (tgt := 50) dX3_runMinute_41 (by decide) (fun zc41 => ?_) (fun zc41 => ?_)
    · skip
      refine xr_al0 dX3_runMinute_50 ?_
      refine xr_al1 dX3_runMinute_51 ?_
      refine xr_al0 dX3_runMinute_52 ?_
      have hm : hMid σ = σ := if_neg hg
      refine xT.heq (h' := xpH K h a (hMid σ)) (by rw [hm, xpH_id H]) ?_
      refine xr_Vi1 (s_spring (R.pH (by omega)) hn (xpH_at K h a (hMid σ)) (hOk_mid ok) dj) kX3_102 (by decide) (Nat.le_of_ble_eq_true rfl) (Nat.zero_add _) (Nat.zero_add _) dX3_runMinute_53 ?_
      rw [xpH_up K h _ _ (by omega)]
      refine xr_Vv1 (s_passMinute (xpH_at K _ a (hMid σ)) _) kX3_108 (by decide) (Nat.le_of_ble_eq_true rfl) (Nat.zero_add _) (Nat.zero_add _) dX3_runMinute_56 ?_
      rw [xpH_pH]
      refine xr_il4 dX3_runMinute_59 ?_
      refine xr_zret dX3_runMinute_61 rfl (by first | rfl | decide | assumption) ?_
      exact ⟨by rw [bI_f hg], rfl⟩
    · skip
      exact absurd rfl zc41
  · skip
    refine xr_al0 dX3_runMinute_19 ?_
    refine xr_get o0 fX3_25 rfl dX3_runMinute_20 ?_
    refine xr_al0 dX3_runMinute_23 ?_
    refine xr_il2 dX3_runMinute_24 ?_
    refine xr_il3 dX3_runMinute_25 ?_
    refine xr_Vi2 (s_waterFor H ok _ _) kX3_92 (by decide) (Nat.le_of_ble_eq_true rfl) (Nat.zero_add _) (Nat.zero_add _) dX3_runMinute_26 ?_
    refine xr_icmplt (tgt := 36) dX3_runMinute_29 (by decide) (fun zc29 => ?_) (fun zc29 => ?_)
    · skip
      have hg : ¬ hGo σ := fun q => q.2 zc29
      refine xr_ic0 dX3_runMinute_36 ?_
      refine xr_is4 dX3_runMinute_37 (by decide) rfl ?_
      refine xr_il4 dX3_runMinute_39 ?_
      refine xr_ifeq (tgt := 50) dX3_runMinute_41 (by decide) (fun zc41 => ?_) (fun zc41 => ?_)
      · skip
        refine xr_al0 dX3_runMinute_50 ?_
        refine xr_al1 dX3_runMinute_51 ?_
        refine xr_al0 dX3_runMinute_52 ?_
        have hm : hMid σ = σ := if_neg hg
        refine xT.heq (h' := xpH K h a (hMid σ)) (by rw [hm, xpH_id H]) ?_
        refine xr_Vi1 (s_spring (R.pH (by omega)) hn (xpH_at K h a (hMid σ)) (hOk_mid ok) dj) kX3_102 (by decide) (Nat.le_of_ble_eq_true rfl) (Nat.zero_add _) (Nat.zero_add _) dX3_runMinute_53 ?_
        rw [xpH_up K h _ _ (by omega)]
        refine xr_Vv1 (s_passMinute (xpH_at K _ a (hMid σ)) _) kX3_108 (by decide) (Nat.le_of_ble_eq_true rfl) (Nat.zero_add _) (Nat.zero_add _) dX3_runMinute_56 ?_
        rw [xpH_pH]
        refine xr_il4 dX3_runMinute_59 ?_
        refine xr_zret dX3_runMinute_61 rfl (by first | rfl | decide | assumption) ?_
        exact ⟨by rw [bI_f hg], rfl⟩
      · skip
        exact absurd rfl zc41
    · skip
      have hg : hGo σ := ⟨bI_0.mp zc16, zc29⟩
      refine xr_ic1 dX3_runMinute_32 ?_
      refine xr_goto (tgt := 37) dX3_runMinute_33 (by decide) ?_
      refine xr_is4 dX3_runMinute_37 (by decide) rfl ?_
      refine xr_il4 dX3_runMinute_39 ?_
      refine xr_ifeq (tgt := 50) dX3_runMinute_41 (by decide) (fun zc41 => ?_) (fun zc41 => ?_)
      · skip
        exact absurd zc41 (by decide)
      · skip
        refine xr_al0 dX3_runMinute_44 ?_
        refine xr_il2 dX3_runMinute_45 ?_
        refine xr_il3 dX3_runMinute_46 ?_
        refine xr_Vv2 (s_travel H ok _ _) kX3_99 (by decide) (Nat.le_of_ble_eq_true rfl) (Nat.zero_add _) (Nat.zero_add _) dX3_runMinute_47 ?_
        refine xr_al0 dX3_runMinute_50 ?_
        refine xr_al1 dX3_runMinute_51 ?_
        refine xr_al0 dX3_runMinute_52 ?_
        have hm : hMid σ = hTravel σ (hNext σ 0) (hNext σ 1) := if_pos hg
        rw [← hm]
        refine xr_Vi1 (s_spring (R.pH (by omega)) hn (xpH_at K h a (hMid σ)) (hOk_mid ok) dj) kX3_102 (by decide) (Nat.le_of_ble_eq_true rfl) (Nat.zero_add _) (Nat.zero_add _) dX3_runMinute_53 ?_
        rw [xpH_up K h _ _ (by omega)]
        refine xr_Vv1 (s_passMinute (xpH_at K _ a (hMid σ)) _) kX3_108 (by decide) (Nat.le_of_ble_eq_true rfl) (Nat.zero_add _) (Nat.zero_add _) dX3_runMinute_56 ?_
        rw [xpH_pH]
        refine xr_il4 dX3_runMinute_59 ?_
        refine xr_zret dX3_runMinute_61 rfl (by first | rfl | decide | assumption) ?_
        exact ⟨by rw [bI_t hg], rfl⟩
