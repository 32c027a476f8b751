set_option maxRecDepth 20000 in
theorem s_slLength {K : xK} {B : Nat} {l : Launch} {h : xH} {a : Nat} {f : Nat → Int32} {n : Int32} (H : X2 h a (slO a n) (iA K 80 f)) : xV K B l 0 mX10_length 0 0 (a) [] h (xQi n h) := by
  obtain ⟨o0, o1⟩ := id H
  refine ⟨⟨_, _, _, _, H.1, rfl⟩, qX10_length, ?_⟩
  refine xS.intro RX10 false ⟨rfl, rfl, by decide, by decide, Nat.le_of_ble_eq_true rfl⟩ (ls := [some (.ref a)]) rfl ?_
  refine xr_al0 dX10_length_0 ?_
  refine xr_get o0 fX10_13 rfl dX10_length_1 ?_
  refine xr_iret dX10_length_4 rfl ?_
  exact ⟨rfl, rfl⟩
def slAt (f : Nat → Int32) (n p : Int32) : Int32 := if ¬ p < 0 ∧ ¬ n ≤ p ∧ ¬ (80 : Int32) ≤ p then f p.toNatClampNeg else -1
theorem xix_pos {p : Int32} {N : Nat} {M : Int32} (hM : M = nI N) (hN : N < 2 ^ 31) (h0 : ¬ p < 0) (h1 : ¬ M ≤ p) : xix p N p.toNatClampNeg := by
  rcases pk_ix p hN with z | z | ⟨j, hj, rfl⟩
  · exact absurd z h0
  · exact absurd (hM ▸ z) h1
  · exact ⟨vp_in_nI hj hN, rfl⟩
set_option maxRecDepth 20000 in
theorem s_slAt {K : xK} {B : Nat} {l : Launch} {h : xH} {a : Nat} {f : Nat → Int32} {n : Int32} (H : X2 h a (slO a n) (iA K 80 f)) (p : Int32) : xV K B l 0 mX10_at 0 0 (a) [.int p] h (xQi (slAt f n p) h) := by
  obtain ⟨o0, o1⟩ := id H
  refine ⟨⟨_, _, _, _, H.1, rfl⟩, qX10_at, ?_⟩
  refine xS.intro RX10 false ⟨rfl, rfl, by decide, by decide, Nat.le_of_ble_eq_true rfl⟩ (ls := [some (.ref a), some (.int p)]) rfl ?_
  refine xr_il1 dX10_at_0 ?_
  refine xr_iflt (tgt := 27) dX10_at_1 (by decide) (fun zc1 => ?_) (fun zc1 => ?_)
  · skip
    refine xr_icm1 dX10_at_27 ?_
    refine xr_iret dX10_at_28 rfl ?_
    exact ⟨by unfold slAt; rw [if_neg (fun q => q.1 zc1)], rfl⟩
  · skip
    refine xr_il1 dX10_at_4 ?_
    refine xr_al0 dX10_at_5 ?_
    refine xr_get o0 fX10_13 rfl dX10_at_6 ?_
    refine xr_icmpge (tgt := 27) dX10_at_9 (by decide) (fun zc9 => ?_) (fun zc9 => ?_)
    · skip
      refine xr_icm1 dX10_at_27 ?_
      refine xr_iret dX10_at_28 rfl ?_
      exact ⟨by unfold slAt; rw [if_neg (fun q => q.2.1 zc9)], rfl⟩
    · skip
      refine xr_il1 dX10_at_12 ?_
      refine xr_bipush (v := 80) dX10_at_13 (by decide) ?_
      refine xr_icmpge (tgt := 27) dX10_at_15 (by decide) (fun zc15 => ?_) (fun zc15 => ?_)
      · skip
        refine xr_icm1 dX10_at_27 ?_
        refine xr_iret dX10_at_28 rfl ?_
        exact ⟨by unfold slAt; rw [if_neg (fun q => q.2.2 zc15)], rfl⟩
      · skip
        refine xr_al0 dX10_at_18 ?_
        refine xr_get o0 fX10_9 rfl dX10_at_19 ?_
        refine xr_il1 dX10_at_22 ?_
        refine xr_iald o1 (xix_pos (M := 80) rfl (by decide) zc1 zc15) dX10_at_23 ?_
        refine xr_goto (tgt := 28) dX10_at_24 (by decide) ?_
        refine xr_iret dX10_at_28 rfl ?_
        exact ⟨by unfold slAt; rw [if_pos ⟨zc1, zc9, zc15⟩], rfl⟩
set_option maxRecDepth 20000 in
theorem s_slWrite {K : xK} {B : Nat} {l : Launch} {h : xH} {a : Nat} {f : Nat → Int32} {n : Nat} (H : X2 h a (slO a (nI n)) (iA K 80 f)) (hn : n < 80) (x : Int32) : xV K B l 0 mX10_write 0 0 (a) [.int x] h (xQv (P2 h a (slO a (nI (n + 1))) (iA K 80 (upd f n x)))) := by
  obtain ⟨o0, o1⟩ := id H
  refine ⟨⟨_, _, _, _, H.1, rfl⟩, qX10_write, ?_⟩
  refine xS.intro RX10 false ⟨rfl, rfl, by decide, by decide, Nat.le_of_ble_eq_true rfl⟩ (ls := [some (.ref a), some (.int x)]) rfl ?_
  refine xr_al0 dX10_write_0 ?_
  refine xr_get o0 fX10_13 rfl dX10_write_1 ?_
  refine xr_bipush (v := 80) dX10_write_4 (by decide) ?_
  refine xr_icmpge (tgt := 29) dX10_write_6 (by decide) (fun zc6 => ?_) (fun zc6 => ?_)
  · skip
    exact absurd zc6 (nI_ge (b := 80) hn (by decide))
  · skip
    refine xr_al0 dX10_write_9 ?_
    refine xr_get o0 fX10_9 rfl dX10_write_10 ?_
    refine xr_al0 dX10_write_13 ?_
    refine xr_get o0 fX10_13 rfl dX10_write_14 ?_
    refine xr_il1 dX10_write_17 ?_
    refine xr_iast o1 (xix_nI hn (by decide)) dX10_write_18 ?_
    refine xT.nm (fun zh1 zg1 => ?_)
    have o0 := xg_ne zg1 (by omega) o0
    have o1 := xg_eq zg1
    refine xr_al0 dX10_write_19 ?_
    refine xr_dup dX10_write_20 rfl ?_
    refine xr_get o0 fX10_13 rfl dX10_write_21 ?_
    refine xr_ic1 dX10_write_24 ?_
    refine xr_iadd dX10_write_25 ?_
    refine xr_eqi (nI_1 n) ?_
    refine xr_put o0 fX10_13 (Nat.le_of_ble_eq_true rfl) rfl rfl dX10_write_26 ?_
    refine xT.nm (fun zh2 zg2 => ?_)
    have o0 := xg_eq zg2
    have o1 := xg_ne zg2 (by omega) o1
    refine xr_vret dX10_write_29 rfl ?_
    exact ⟨rfl, by rw [zg2, zg1]; exact P2_eo _ _ _ _⟩
set_option maxRecDepth 20000 in
theorem s_slCut {K : xK} {B : Nat} {l : Launch} {h : xH} {a : Nat} {f : Nat → Int32} {n : Int32} (H : X2 h a (slO a n) (iA K 80 f)) (m : Int32) : xV K B l 0 mX10_cutTo 0 0 (a) [.int m] h (xQi (bI (¬ m < 0 ∧ m ≤ n)) (if ¬ m < 0 ∧ m ≤ n then P2 h a (slO a m) (iA K 80 f) else h)) := by
  obtain ⟨o0, o1⟩ := id H
  refine ⟨⟨_, _, _, _, H.1, rfl⟩, qX10_cutTo, ?_⟩
  refine xS.intro RX10 false ⟨rfl, rfl, by decide, by decide, Nat.le_of_ble_eq_true rfl⟩ (ls := [some (.ref a), some (.int m)]) rfl ?_
  refine xr_il1 dX10_cutTo_0 ?_
  refine xr_iflt (tgt := 12) dX10_cutTo_1 (by decide) (fun zc1 => ?_) (fun zc1 => ?_)
  · skip
    refine xr_ic0 dX10_cutTo_12 ?_
    refine xr_zret dX10_cutTo_13 rfl (by first | rfl | decide | assumption) ?_
    exact ⟨by rw [bI_f (fun q => q.1 zc1)], by rw [if_neg (fun q => q.1 zc1)]⟩
  · skip
    refine xr_il1 dX10_cutTo_4 ?_
    refine xr_al0 dX10_cutTo_5 ?_
    refine xr_get o0 fX10_13 rfl dX10_cutTo_6 ?_
    refine xr_icmple (tgt := 14) dX10_cutTo_9 (by decide) (fun zc9 => ?_) (fun zc9 => ?_)
    · skip
      refine xr_al0 dX10_cutTo_14 ?_
      refine xr_il1 dX10_cutTo_15 ?_
      refine xr_put o0 fX10_13 (Nat.le_of_ble_eq_true rfl) rfl rfl dX10_cutTo_16 ?_
      refine xT.nm (fun zh1 zg1 => ?_)
      have o0 := xg_eq zg1
      have o1 := xg_ne zg1 (by omega) o1
      refine xr_ic1 dX10_cutTo_19 ?_
      refine xr_zret dX10_cutTo_20 rfl (by first | rfl | decide | assumption) ?_
      exact ⟨by rw [bI_t ⟨zc1, zc9⟩], by rw [if_pos ⟨zc1, zc9⟩, zg1]; exact P2_o H _⟩
    · skip
      refine xr_ic0 dX10_cutTo_12 ?_
      refine xr_zret dX10_cutTo_13 rfl (by first | rfl | decide | assumption) ?_
      exact ⟨by rw [bI_f (fun q => zc9 q.2)], by rw [if_neg (fun q => zc9 q.2)]⟩
set_option maxRecDepth 20000 in
theorem s_slClear {K : xK} {B : Nat} {l : Launch} {h : xH} {a : Nat} {f : Nat → Int32} {n : Int32} (H : X2 h a (slO a n) (iA K 80 f)) : xV K B l 0 mX10_clear 0 0 (a) [] h (xQv (P2 h a (slO a 0) (iA K 80 f))) := by
  obtain ⟨o0, o1⟩ := id H
  refine ⟨⟨_, _, _, _, H.1, rfl⟩, qX10_clear, ?_⟩
  refine xS.intro RX10 false ⟨rfl, rfl, by decide, by decide, Nat.le_of_ble_eq_true rfl⟩ (ls := [some (.ref a)]) rfl ?_
  refine xr_al0 dX10_clear_0 ?_
  refine xr_ic0 dX10_clear_1 ?_
  refine xr_put o0 fX10_13 (Nat.le_of_ble_eq_true rfl) rfl rfl dX10_clear_2 ?_
  refine xT.nm (fun zh1 zg1 => ?_)
  have o0 := xg_eq zg1
  have o1 := xg_ne zg1 (by omega) o1
  refine xr_vret dX10_clear_5 rfl ?_
  exact ⟨rfl, by rw [zg1]; exact P2_o H _⟩
set_option maxRecDepth 20000 in
theorem s_nuSize {K : xK} {B : Nat} {l : Launch} {h : xH} {a : Nat} {f : Nat → Int64} {n : Int32} (H : X2 h a (nuO a n) (lA K 4 f)) : xV K B l 0 mX4_size 0 0 (a) [] h (xQi n h) := by
  obtain ⟨o0, o1⟩ := id H
  refine ⟨⟨_, _, _, _, H.1, rfl⟩, qX4_size, ?_⟩
  refine xS.intro RX4 false ⟨rfl, rfl, by decide, by decide, Nat.le_of_ble_eq_true rfl⟩ (ls := [some (.ref a)]) rfl ?_
  refine xr_al0 dX4_size_0 ?_
  refine xr_get o0 fX4_13 rfl dX4_size_1 ?_
  refine xr_iret dX4_size_4 rfl ?_
  exact ⟨rfl, rfl⟩
abbrev nuHas (n i : Int32) : Prop := ¬ i < 0 ∧ ¬ n ≤ i ∧ ¬ (4 : Int32) ≤ i
set_option maxRecDepth 20000 in
theorem s_nuHas {K : xK} {B : Nat} {l : Launch} {h : xH} {a : Nat} {f : Nat → Int64} {n : Int32} (H : X2 h a (nuO a n) (lA K 4 f)) (i : Int32) : xV K B l 0 mX4_has 0 0 (a) [.int i] h (xQi (bI (nuHas n i)) h) := by
  obtain ⟨o0, o1⟩ := id H
  refine ⟨⟨_, _, _, _, H.1, rfl⟩, qX4_has, ?_⟩
  refine xS.intro RX4 false ⟨rfl, rfl, by decide, by decide, Nat.le_of_ble_eq_true rfl⟩ (ls := [some (.ref a), some (.int i)]) rfl ?_
  refine xr_il1 dX4_has_0 ?_
  refine xr_iflt (tgt := 25) dX4_has_1 (by decide) (fun zc1 => ?_) (fun zc1 => ?_)
  · skip
    refine xr_ic0 dX4_has_25 ?_
    refine xr_zret dX4_has_26 rfl (by first | rfl | decide | assumption) ?_
    exact ⟨by rw [bI_f (fun q => q.1 zc1)], rfl⟩
  · skip
    refine xr_il1 dX4_has_4 ?_
    refine xr_al0 dX4_has_5 ?_
    refine xr_get o0 fX4_13 rfl dX4_has_6 ?_
    refine xr_icmpge (tgt := 25) dX4_has_9 (by decide) (fun zc9 => ?_) (fun zc9 => ?_)
    · skip
      refine xr_ic0 dX4_has_25 ?_
      refine xr_zret dX4_has_26 rfl (by first | rfl | decide | assumption) ?_
      exact ⟨by rw [bI_f (fun q => q.2.1 zc9)], rfl⟩
    · skip
      refine xr_il1 dX4_has_12 ?_
      refine xr_al0 dX4_has_13 ?_
      refine xr_get o0 fX4_7 rfl dX4_has_14 ?_
      refine xr_alen o1 2 rfl (v := 4) rfl dX4_has_17 ?_
      refine xr_icmpge (tgt := 25) dX4_has_18 (by decide) (fun zc18 => ?_) (fun zc18 => ?_)
      · skip
        refine xr_ic0 dX4_has_25 ?_
        refine xr_zret dX4_has_26 rfl (by first | rfl | decide | assumption) ?_
        exact ⟨by rw [bI_f (fun q => q.2.2 zc18)], rfl⟩
      · skip
        refine xr_ic1 dX4_has_21 ?_
        refine xr_goto (tgt := 26) dX4_has_22 (by decide) ?_
        refine xr_zret dX4_has_26 rfl (by first | rfl | decide | assumption) ?_
        exact ⟨by rw [bI_t ⟨zc1, zc9, zc18⟩], rfl⟩
set_option maxRecDepth 20000 in
theorem s_nuAt {K : xK} {B : Nat} {l : Launch} {h : xH} {a : Nat} {f : Nat → Int64} {n : Int32} (H : X2 h a (nuO a n) (lA K 4 f)) (i : Int32) : xV K B l 1 mX4_at 0 0 (a) [.int i] h (xQl (if nuHas n i then f i.toNatClampNeg else 0) h) := by
  obtain ⟨o0, o1⟩ := id H
  refine ⟨⟨_, _, _, _, H.1, rfl⟩, qX4_at, ?_⟩
  refine xS.intro RX4 false ⟨rfl, rfl, by decide, by decide, Nat.le_of_ble_eq_true rfl⟩ (ls := [some (.ref a), some (.int i)]) rfl ?_
  refine xr_al0 dX4_at_0 ?_
  refine xr_il1 dX4_at_1 ?_
  refine xr_Vi1 (s_nuHas H _) kX4_17 (by decide) (Nat.le_of_ble_eq_true rfl) (Nat.zero_add _) (Nat.zero_add _) dX4_at_2 ?_
  refine xr_ifeq (tgt := 17) dX4_at_5 (by decide) (fun zc5 => ?_) (fun zc5 => ?_)
  · skip
    refine xr_lc0 dX4_at_17 ?_
    refine xr_lret dX4_at_18 rfl ?_
    exact ⟨by rw [if_neg (bI_0.mp zc5)], rfl⟩
  · skip
    have hh : nuHas n i := Decidable.not_not.mp (fun z => zc5 (bI_0.mpr z))
    refine xr_al0 dX4_at_8 ?_
    refine xr_get o0 fX4_7 rfl dX4_at_9 ?_
    refine xr_il1 dX4_at_12 ?_
    refine xr_lald o1 (xix_pos (M := 4) rfl (by decide) hh.1 hh.2.2) dX4_at_13 ?_
    refine xr_goto (tgt := 18) dX4_at_14 (by decide) ?_
    refine xr_lret dX4_at_18 rfl ?_
    exact ⟨by rw [if_pos hh], rfl⟩
set_option maxRecDepth 20000 in
theorem s_tell0 {K : xK} {B : Nat} {l : Launch} {h : xH} {a : Nat} {f : Nat → Int64} {n : Int32} (H : X2 h a (nuO a n) (lA K 4 f)) : xV K B l 0 mX4_tell 0 0 (a) [] h (xQv (P2 h a (nuO a 0) (lA K 4 f))) := by
  obtain ⟨o0, o1⟩ := id H
  refine ⟨⟨_, _, _, _, H.1, rfl⟩, qX4_tell, ?_⟩
  refine xS.intro RX4 false ⟨rfl, rfl, by decide, by decide, Nat.le_of_ble_eq_true rfl⟩ (ls := [some (.ref a)]) rfl ?_
  refine xr_al0 dX4_tell_0 ?_
  refine xr_ic0 dX4_tell_1 ?_
  refine xr_put o0 fX4_13 (Nat.le_of_ble_eq_true rfl) rfl rfl dX4_tell_2 ?_
  refine xT.nm (fun zh1 zg1 => ?_)
  have o0 := xg_eq zg1
  have o1 := xg_ne zg1 (by omega) o1
  refine xr_vret dX4_tell_5 rfl ?_
  exact ⟨rfl, by rw [zg1]; exact P2_o H _⟩
set_option maxRecDepth 20000 in
theorem s_tell1 {K : xK} {B : Nat} {l : Launch} {h : xH} {a : Nat} {f : Nat → Int64} {n : Int32} (H : X2 h a (nuO a n) (lA K 4 f)) (x : Int64) : xV K B l 0 mX4_tell_ 0 0 (a) [.long x] h (xQv (P2 h a (nuO a 1) (lA K 4 (vp_updL f 0 x)))) := by
  obtain ⟨o0, o1⟩ := id H
  refine ⟨⟨_, _, _, _, H.1, rfl⟩, qX4_tell_, ?_⟩
  refine xS.intro RX4 false ⟨rfl, rfl, by decide, by decide, Nat.le_of_ble_eq_true rfl⟩ (ls := [some (.ref a), some (.long x), none]) rfl ?_
  refine xr_al0 dX4_tell__0 ?_
  refine xr_get o0 fX4_7 rfl dX4_tell__1 ?_
  refine xr_ic0 dX4_tell__4 ?_
  refine xr_ll1 dX4_tell__5 ?_
  refine xr_last o1 (xix_lit (j := 0) (by decide)) dX4_tell__6 ?_
  refine xT.nm (fun zh1 zg1 => ?_)
  have o0 := xg_ne zg1 (by omega) o0
  have o1 := xg_eq zg1
  refine xr_al0 dX4_tell__7 ?_
  refine xr_ic1 dX4_tell__8 ?_
  refine xr_put o0 fX4_13 (Nat.le_of_ble_eq_true rfl) rfl rfl dX4_tell__9 ?_
  refine xT.nm (fun zh2 zg2 => ?_)
  have o0 := xg_eq zg2
  have o1 := xg_ne zg2 (by omega) o1
  refine xr_vret dX4_tell__12 rfl ?_
  exact ⟨rfl, by rw [zg2, zg1]; exact P2_eo _ _ _ _⟩
set_option maxRecDepth 20000 in
theorem s_tell2 {K : xK} {B : Nat} {l : Launch} {h : xH} {a : Nat} {f : Nat → Int64} {n : Int32} (H : X2 h a (nuO a n) (lA K 4 f)) (x1 x2 : Int64) : xV K B l 1 mX4_tell__ 0 0 (a) [.long x1, .long x2] h (xQv (P2 h a (nuO a 2) (lA K 4 (vp_updL (vp_updL f 0 x1) 1 x2)))) := by
  obtain ⟨o0, o1⟩ := id H
  refine ⟨⟨_, _, _, _, H.1, rfl⟩, qX4_tell__, ?_⟩
  refine xS.intro RX4 false ⟨rfl, rfl, by decide, by decide, Nat.le_of_ble_eq_true rfl⟩ (ls := [some (.ref a), some (.long x1), none, some (.long x2), none]) rfl ?_
  refine xr_al0 dX4_tell___0 ?_
  refine xr_ll1 dX4_tell___1 ?_
  refine xr_Vv1 (s_tell1 H _) kX4_21 (by decide) (Nat.le_of_ble_eq_true rfl) (Nat.zero_add _) (Nat.zero_add _) dX4_tell___2 ?_
  have H1 := P2_at h a (nuO a 1) (lA K 4 (vp_updL f 0 x1))
  obtain ⟨o0, o1⟩ := id H1
  refine xr_al0 dX4_tell___5 ?_
  refine xr_get o0 fX4_7 rfl dX4_tell___6 ?_
  refine xr_ic1 dX4_tell___9 ?_
  refine xr_ll3 dX4_tell___10 ?_
  refine xr_last o1 (xix_lit (j := 1) (by decide)) dX4_tell___11 ?_
  refine xT.nm (fun zh1 zg1 => ?_)
  have o0 := xg_ne zg1 (by omega) o0
  have o1 := xg_eq zg1
  refine xr_al0 dX4_tell___12 ?_
  refine xr_ic2 dX4_tell___13 ?_
  refine xr_put o0 fX4_13 (Nat.le_of_ble_eq_true rfl) rfl rfl dX4_tell___14 ?_
  refine xT.nm (fun zh2 zg2 => ?_)
  have o0 := xg_eq zg2
  have o1 := xg_ne zg2 (by omega) o1
  refine xr_vret dX4_tell___17 rfl ?_
  exact ⟨rfl, by rw [zg2, zg1, P2_eo, P2_P2]; rfl⟩
set_option maxRecDepth 20000 in
theorem s_tell3 {K : xK} {B : Nat} {l : Launch} {h : xH} {a : Nat} {f : Nat → Int64} {n : Int32} (H : X2 h a (nuO a n) (lA K 4 f)) (x1 x2 x3 : Int64) : xV K B l 2 mX4_tell___ 0 0 (a) [.long x1, .long x2, .long x3] h (xQv (P2 h a (nuO a 3) (lA K 4 (vp_updL (vp_updL (vp_updL f 0 x1) 1 x2) 2 x3)))) := by
  obtain ⟨o0, o1⟩ := id H
  refine ⟨⟨_, _, _, _, H.1, rfl⟩, qX4_tell___, ?_⟩
  refine xS.intro RX4 false ⟨rfl, rfl, by decide, by decide, Nat.le_of_ble_eq_true rfl⟩ (ls := [some (.ref a), some (.long x1), none, some (.long x2), none, some (.long x3), none]) rfl ?_
  refine xr_al0 dX4_tell____0 ?_
  refine xr_ll1 dX4_tell____1 ?_
  refine xr_ll3 dX4_tell____2 ?_
  refine xr_Vv2 (s_tell2 H _ _) kX4_25 (by decide) (Nat.le_of_ble_eq_true rfl) (Nat.zero_add _) (Nat.zero_add _) dX4_tell____3 ?_
  have H1 := P2_at h a (nuO a 2) (lA K 4 (vp_updL (vp_updL f 0 x1) 1 x2))
  obtain ⟨o0, o1⟩ := id H1
  refine xr_al0 dX4_tell____6 ?_
  refine xr_get o0 fX4_7 rfl dX4_tell____7 ?_
  refine xr_ic2 dX4_tell____10 ?_
  refine xr_ll5 dX4_tell____11 ?_
  refine xr_last o1 (xix_lit (j := 2) (by decide)) dX4_tell____13 ?_
  refine xT.nm (fun zh1 zg1 => ?_)
  have o0 := xg_ne zg1 (by omega) o0
  have o1 := xg_eq zg1
  refine xr_al0 dX4_tell____14 ?_
  refine xr_ic3 dX4_tell____15 ?_
  refine xr_put o0 fX4_13 (Nat.le_of_ble_eq_true rfl) rfl rfl dX4_tell____16 ?_
  refine xT.nm (fun zh2 zg2 => ?_)
  have o0 := xg_eq zg2
  have o1 := xg_ne zg2 (by omega) o1
  refine xr_vret dX4_tell____19 rfl ?_
  exact ⟨rfl, by rw [zg2, zg1, P2_eo, P2_P2]; rfl⟩
set_option maxRecDepth 20000 in
theorem s_tell4 {K : xK} {B : Nat} {l : Launch} {h : xH} {a : Nat} {f : Nat → Int64} {n : Int32} (H : X2 h a (nuO a n) (lA K 4 f)) (x1 x2 x3 x4 : Int64) : xV K B l 3 mX4_tell____ 0 0 (a) [.long x1, .long x2, .long x3, .long x4] h (xQv (P2 h a (nuO a 4) (lA K 4 (vp_updL (vp_updL (vp_updL (vp_updL f 0 x1) 1 x2) 2 x3) 3 x4)))) := by
  obtain ⟨o0, o1⟩ := id H
  refine ⟨⟨_, _, _, _, H.1, rfl⟩, qX4_tell____, ?_⟩
  refine xS.intro RX4 false ⟨rfl, rfl, by decide, by decide, Nat.le_of_ble_eq_true rfl⟩ (ls := [some (.ref a), some (.long x1), none, some (.long x2), none, some (.long x3), none, some (.long x4), none]) rfl ?_
  refine xr_al0 dX4_tell_____0 ?_
  refine xr_ll1 dX4_tell_____1 ?_
  refine xr_ll3 dX4_tell_____2 ?_
  refine xr_ll5 dX4_tell_____3 ?_
  refine xr_Vv3 (s_tell3 H _ _ _) kX4_28 (by decide) (Nat.le_of_ble_eq_true rfl) (Nat.zero_add _) (Nat.zero_add _) dX4_tell_____5 ?_
  have H1 := P2_at h a (nuO a 3) (lA K 4 (vp_updL (vp_updL (vp_updL f 0 x1) 1 x2) 2 x3))
  obtain ⟨o0, o1⟩ := id H1
  refine xr_al0 dX4_tell_____8 ?_
  refine xr_get o0 fX4_7 rfl dX4_tell_____9 ?_
  refine xr_ic3 dX4_tell_____12 ?_
  refine xr_ll7 dX4_tell_____13 ?_
  refine xr_last o1 (xix_lit (j := 3) (by decide)) dX4_tell_____15 ?_
  refine xT.nm (fun zh1 zg1 => ?_)
  have o0 := xg_ne zg1 (by omega) o0
  have o1 := xg_eq zg1
  refine xr_al0 dX4_tell_____16 ?_
  refine xr_ic4 dX4_tell_____17 ?_
  refine xr_put o0 fX4_13 (Nat.le_of_ble_eq_true rfl) rfl rfl dX4_tell_____18 ?_
  refine xT.nm (fun zh2 zg2 => ?_)
  have o0 := xg_eq zg2
  have o1 := xg_ne zg2 (by omega) o1
  refine xr_vret dX4_tell_____21 rfl ?_
  exact ⟨rfl, by rw [zg2, zg1, P2_eo, P2_P2]; rfl⟩
set_option maxRecDepth 20000 in
theorem s_diStart {K : xK} {B : Nat} {l : Launch} {h : xH} {a : Nat} {s : Int32} (o0 : h.2 a = some (diO s)) (x : Int32) : xV K B l 0 mX0_startFrom 0 0 (a) [.int x] h (xQv (xup h a (diO x))) := by
  refine ⟨⟨_, _, _, _, o0, rfl⟩, qX0_startFrom, ?_⟩
  refine xS.intro RX0 false ⟨rfl, rfl, by decide, by decide, Nat.le_of_ble_eq_true rfl⟩ (ls := [some (.ref a), some (.int x)]) rfl ?_
  refine xr_al0 dX0_startFrom_0 ?_
  refine xr_il1 dX0_startFrom_1 ?_
  refine xr_put o0 fX0_7 (Nat.le_of_ble_eq_true rfl) rfl rfl dX0_startFrom_2 ?_
  refine xT.nm (fun zh1 zg1 => ?_)
  have o0 := xg_eq zg1
  refine xr_vret dX0_startFrom_5 rfl ?_
  exact ⟨rfl, zg1⟩
def dr (s : Int32) : Int32 := s * 1103515245 + 12345
def drN (s n : Int32) : Int32 := ushr s 16 - ushr s 16 / n * n
set_option maxRecDepth 20000 in
theorem s_diDraw {K : xK} {B : Nat} {l : Launch} {h : xH} {a : Nat} {s : Int32} (o0 : h.2 a = some (diO s)) {n : Int32} (hn : ¬ n ≤ 0) : xV K B l 0 mX0_draw 0 0 (a) [.int n] h (xQi (drN (dr s) n) (xup h a (diO (dr s)))) := by
  refine ⟨⟨_, _, _, _, o0, rfl⟩, qX0_draw, ?_⟩
  refine xS.intro RX0 false ⟨rfl, rfl, by decide, by decide, Nat.le_of_ble_eq_true rfl⟩ (ls := [some (.ref a), some (.int n)]) rfl ?_
  refine xr_al0 dX0_draw_0 ?_
  refine xr_al0 dX0_draw_1 ?_
  refine xr_get o0 fX0_7 rfl dX0_draw_2 ?_
  refine xr_ldc nX0_13 dX0_draw_5 ?_
  refine xr_imul dX0_draw_7 ?_
  refine xr_sipush (v := 12345) dX0_draw_8 (by decide) ?_
  refine xr_iadd dX0_draw_11 ?_
  refine xr_put o0 fX0_7 (Nat.le_of_ble_eq_true rfl) rfl rfl dX0_draw_12 ?_
  refine xT.nm (fun zh1 zg1 => ?_)
  have o0 := xg_eq zg1
  refine xr_il1 dX0_draw_15 ?_
  refine xr_ifle (tgt := 31) dX0_draw_16 (by decide) (fun zc16 => ?_) (fun zc16 => ?_)
  · skip
    exact absurd zc16 hn
  · skip
    refine xr_al0 dX0_draw_19 ?_
    refine xr_get o0 fX0_7 rfl dX0_draw_20 ?_
    refine xr_bipush (v := 16) dX0_draw_23 (by decide) ?_
    refine xr_iushr dX0_draw_25 ?_
    refine xr_il1 dX0_draw_26 ?_
    refine xr_irem dX0_draw_27 (fun z => hn (by rw [z]; decide)) ?_
    refine xr_goto (tgt := 32) dX0_draw_28 (by decide) ?_
    refine xr_iret dX0_draw_32 rfl ?_
    exact ⟨rfl, zg1⟩
set_option maxRecDepth 20000 in
theorem s_heSize {K : xK} {B : Nat} {l : Launch} {h : xH} {a : Nat} {f g : Nat → Int32} {n : Int32} (H : X3 h a (heO a n) (iA K 12 f) (iA K 12 g)) : xV K B l 0 mX2_size 0 0 (a) [] h (xQi n h) := by
  obtain ⟨o0, o1, o2⟩ := id H
  refine ⟨⟨_, _, _, _, H.1, rfl⟩, qX2_size, ?_⟩
  refine xS.intro RX2 false ⟨rfl, rfl, by decide, by decide, Nat.le_of_ble_eq_true rfl⟩ (ls := [some (.ref a)]) rfl ?_
  refine xr_al0 dX2_size_0 ?_
  refine xr_get o0 fX2_18 rfl dX2_size_1 ?_
  refine xr_iret dX2_size_4 rfl ?_
  exact ⟨rfl, rfl⟩
set_option maxRecDepth 20000 in
theorem s_heAdd {K : xK} {B : Nat} {l : Launch} {h : xH} {a : Nat} {f g : Nat → Int32} {n : Nat} (H : X3 h a (heO a (nI n)) (iA K 12 f) (iA K 12 g)) (hn : n ≤ 12) (x y : Int32) : xV K B l 0 mX2_add 0 0 (a) [.int x, .int y] h (xQi (bI (n < 12)) (if n < 12 then P3 h a (heO a (nI (n + 1))) (iA K 12 (upd f n x)) (iA K 12 (upd g n y)) else h)) := by
  obtain ⟨o0, o1, o2⟩ := id H
  refine ⟨⟨_, _, _, _, H.1, rfl⟩, qX2_add, ?_⟩
  refine xS.intro RX2 false ⟨rfl, rfl, by decide, by decide, Nat.le_of_ble_eq_true rfl⟩ (ls := [some (.ref a), some (.int x), some (.int y)]) rfl ?_
  refine xr_al0 dX2_add_0 ?_
  refine xr_get o0 fX2_18 rfl dX2_add_1 ?_
  refine xr_bipush (v := 12) dX2_add_4 (by decide) ?_
  refine xr_icmplt (tgt := 11) dX2_add_6 (by decide) (fun zc6 => ?_) (fun zc6 => ?_)
  · skip
    have h12 : n < 12 := (nI_ltI (by omega) (by decide)).mp zc6
    refine xr_al0 dX2_add_11 ?_
    refine xr_get o0 fX2_11 rfl dX2_add_12 ?_
    refine xr_al0 dX2_add_15 ?_
    refine xr_get o0 fX2_18 rfl dX2_add_16 ?_
    refine xr_il1 dX2_add_19 ?_
    refine xr_iast o1 (xix_nI h12 (by decide)) dX2_add_20 ?_
    refine xT.nm (fun zh1 zg1 => ?_)
    have o0 := xg_ne zg1 (by omega) o0
    have o1 := xg_eq zg1
    have o2 := xg_ne zg1 (by omega) o2
    refine xr_al0 dX2_add_21 ?_
    refine xr_get o0 fX2_15 rfl dX2_add_22 ?_
    refine xr_al0 dX2_add_25 ?_
    refine xr_get o0 fX2_18 rfl dX2_add_26 ?_
    refine xr_il2 dX2_add_29 ?_
    refine xr_iast o2 (xix_nI h12 (by decide)) dX2_add_30 ?_
    refine xT.nm (fun zh2 zg2 => ?_)
    have o0 := xg_ne zg2 (by omega) o0
    have o1 := xg_ne zg2 (by omega) o1
    have o2 := xg_eq zg2
    refine xr_al0 dX2_add_31 ?_
    refine xr_dup dX2_add_32 rfl ?_
    refine xr_get o0 fX2_18 rfl dX2_add_33 ?_
    refine xr_ic1 dX2_add_36 ?_
    refine xr_iadd dX2_add_37 ?_
    refine xr_eqi (nI_1 n) ?_
    refine xr_put o0 fX2_18 (Nat.le_of_ble_eq_true rfl) rfl rfl dX2_add_38 ?_
    refine xT.nm (fun zh3 zg3 => ?_)
    have o0 := xg_eq zg3
    have o1 := xg_ne zg3 (by omega) o1
    have o2 := xg_ne zg3 (by omega) o2
    refine xr_ic1 dX2_add_41 ?_
    refine xr_zret dX2_add_42 rfl (by first | rfl | decide | assumption) ?_
    exact ⟨by rw [bI_t h12], by rw [if_pos h12, zg3, zg2, zg1]; exact P3_efo _ _ _ _ _⟩
  · skip
    refine xr_ic0 dX2_add_9 ?_
    refine xr_zret dX2_add_10 rfl (by first | rfl | decide | assumption) ?_
    have h12 : ¬ n < 12 := fun q => zc6 (nI_lt q (by decide))
    exact ⟨by rw [bI_f h12], by rw [if_neg h12]⟩
set_option maxRecDepth 20000 in
theorem s_heClear {K : xK} {B : Nat} {l : Launch} {h : xH} {a : Nat} {f g : Nat → Int32} {n : Int32} (H : X3 h a (heO a n) (iA K 12 f) (iA K 12 g)) : xV K B l 0 mX2_clear 0 0 (a) [] h (xQi n (P3 h a (heO a 0) (iA K 12 f) (iA K 12 g))) := by
  obtain ⟨o0, o1, o2⟩ := id H
  refine ⟨⟨_, _, _, _, H.1, rfl⟩, qX2_clear, ?_⟩
  refine xS.intro RX2 false ⟨rfl, rfl, by decide, by decide, Nat.le_of_ble_eq_true rfl⟩ (ls := [some (.ref a), none]) rfl ?_
  refine xr_al0 dX2_clear_0 ?_
  refine xr_get o0 fX2_18 rfl dX2_clear_1 ?_
  refine xr_is1 dX2_clear_4 (by decide) rfl ?_
  refine xr_al0 dX2_clear_5 ?_
  refine xr_ic0 dX2_clear_6 ?_
  refine xr_put o0 fX2_18 (Nat.le_of_ble_eq_true rfl) rfl rfl dX2_clear_7 ?_
  refine xT.nm (fun zh1 zg1 => ?_)
  have o0 := xg_eq zg1
  have o1 := xg_ne zg1 (by omega) o1
  have o2 := xg_ne zg1 (by omega) o2
  refine xr_il1 dX2_clear_10 ?_
  refine xr_iret dX2_clear_11 rfl ?_
  exact ⟨rfl, by rw [zg1]; exact P3_o H _⟩
