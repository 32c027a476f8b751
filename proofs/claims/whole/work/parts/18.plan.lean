def gAt (u : Nat → Int32) (z : Int32) : Int32 := if ¬ z < 0 ∧ ¬ (32 : Int32) ≤ z then u z.toNatClampNeg else 0
theorem gAt_n (u : Nat → Int32) {j : Nat} (h : j < 32) : gAt u (nI j) = u j := by
  unfold gAt
  rw [if_pos ⟨nI_pos (by omega), nI_ge (b := 32) h (by decide)⟩, nI_clamp (by omega)]
def gWat (u w : Nat → Int32) (g p q : Int32) : Int32 := iMax 0 (gAt w q + g - gAt u p)
set_option maxRecDepth 20000 in
theorem s_gAbove {K : xK} {B : Nat} {l : Launch} {h : xH} {b : Nat} {u w : Nat → Int32} {x y s g : Int32} (H : X3 h b (grO b x y s g) (iA K 32 u) (iA K 32 w)) (z : Int32) : xV K B l 0 mX1_weightAbove 0 0 (b) [.int z] h (xQi (gAt u z) h) := by
  obtain ⟨o0, o1, o2⟩ := id H
  refine ⟨⟨_, _, _, _, H.1, rfl⟩, qX1_weightAbove, ?_⟩
  refine xS.intro RX1 false ⟨rfl, rfl, by decide, by decide, Nat.le_of_ble_eq_true rfl⟩ (ls := [some (.ref b), some (.int z)]) rfl ?_
  refine xr_il1 dX1_weightAbove_0 ?_
  refine xr_iflt (tgt := 19) dX1_weightAbove_1 (by decide) (fun zc1 => ?_) (fun zc1 => ?_)
  · skip
    refine xr_ic0 dX1_weightAbove_19 ?_
    refine xr_iret dX1_weightAbove_20 rfl ?_
    exact ⟨by unfold gAt; rw [if_neg (fun q => q.1 zc1)], rfl⟩
  · skip
    refine xr_il1 dX1_weightAbove_4 ?_
    refine xr_bipush (v := 32) dX1_weightAbove_5 (by decide) ?_
    refine xr_icmpge (tgt := 19) dX1_weightAbove_7 (by decide) (fun zc7 => ?_) (fun zc7 => ?_)
    · skip
      refine xr_ic0 dX1_weightAbove_19 ?_
      refine xr_iret dX1_weightAbove_20 rfl ?_
      exact ⟨by unfold gAt; rw [if_neg (fun q => q.2 zc7)], rfl⟩
    · skip
      refine xr_al0 dX1_weightAbove_10 ?_
      refine xr_get o0 fX1_9 rfl dX1_weightAbove_11 ?_
      refine xr_il1 dX1_weightAbove_14 ?_
      refine xr_iald o1 (xix_pos (M := 32) rfl (by decide) zc1 zc7) dX1_weightAbove_15 ?_
      refine xr_goto (tgt := 20) dX1_weightAbove_16 (by decide) ?_
      refine xr_iret dX1_weightAbove_20 rfl ?_
      exact ⟨by unfold gAt; rw [if_pos ⟨zc1, zc7⟩], rfl⟩
set_option maxRecDepth 20000 in
theorem s_gBelow {K : xK} {B : Nat} {l : Launch} {h : xH} {b : Nat} {u w : Nat → Int32} {x y s g : Int32} (H : X3 h b (grO b x y s g) (iA K 32 u) (iA K 32 w)) (z : Int32) : xV K B l 0 mX1_weightBelow 0 0 (b) [.int z] h (xQi (gAt w z) h) := by
  obtain ⟨o0, o1, o2⟩ := id H
  refine ⟨⟨_, _, _, _, H.1, rfl⟩, qX1_weightBelow, ?_⟩
  refine xS.intro RX1 false ⟨rfl, rfl, by decide, by decide, Nat.le_of_ble_eq_true rfl⟩ (ls := [some (.ref b), some (.int z)]) rfl ?_
  refine xr_il1 dX1_weightBelow_0 ?_
  refine xr_iflt (tgt := 19) dX1_weightBelow_1 (by decide) (fun zc1 => ?_) (fun zc1 => ?_)
  · skip
    refine xr_ic0 dX1_weightBelow_19 ?_
    refine xr_iret dX1_weightBelow_20 rfl ?_
    exact ⟨by unfold gAt; rw [if_neg (fun q => q.1 zc1)], rfl⟩
  · skip
    refine xr_il1 dX1_weightBelow_4 ?_
    refine xr_bipush (v := 32) dX1_weightBelow_5 (by decide) ?_
    refine xr_icmpge (tgt := 19) dX1_weightBelow_7 (by decide) (fun zc7 => ?_) (fun zc7 => ?_)
    · skip
      refine xr_ic0 dX1_weightBelow_19 ?_
      refine xr_iret dX1_weightBelow_20 rfl ?_
      exact ⟨by unfold gAt; rw [if_neg (fun q => q.2 zc7)], rfl⟩
    · skip
      refine xr_al0 dX1_weightBelow_10 ?_
      refine xr_get o0 fX1_15 rfl dX1_weightBelow_11 ?_
      refine xr_il1 dX1_weightBelow_14 ?_
      refine xr_iald o2 (xix_pos (M := 32) rfl (by decide) zc1 zc7) dX1_weightBelow_15 ?_
      refine xr_goto (tgt := 20) dX1_weightBelow_16 (by decide) ?_
      refine xr_iret dX1_weightBelow_20 rfl ?_
      exact ⟨by unfold gAt; rw [if_pos ⟨zc1, zc7⟩], rfl⟩
set_option maxRecDepth 20000 in
theorem s_gWater {K : xK} {B : Nat} {l : Launch} {h : xH} {b : Nat} {u w : Nat → Int32} {x y s g : Int32} (H : X3 h b (grO b x y s g) (iA K 32 u) (iA K 32 w)) (p q : Int32) : xV K B l 1 mX1_waterFor 0 0 (b) [.int p, .int q] h (xQi (gWat u w g p q) h) := by
  obtain ⟨o0, o1, o2⟩ := id H
  refine ⟨⟨_, _, _, _, H.1, rfl⟩, qX1_waterFor, ?_⟩
  refine xS.intro RX1 false ⟨rfl, rfl, by decide, by decide, Nat.le_of_ble_eq_true rfl⟩ (ls := [some (.ref b), some (.int p), some (.int q)]) rfl ?_
  refine xr_ic0 dX1_waterFor_0 ?_
  refine xr_al0 dX1_waterFor_1 ?_
  refine xr_il2 dX1_waterFor_2 ?_
  refine xr_Vi1 (s_gBelow H _) kX1_48 (by decide) (Nat.le_of_ble_eq_true rfl) (Nat.zero_add _) (Nat.zero_add _) dX1_waterFor_3 ?_
  refine xr_al0 dX1_waterFor_6 ?_
  refine xr_get o0 fX1_38 rfl dX1_waterFor_7 ?_
  refine xr_iadd dX1_waterFor_10 ?_
  refine xr_al0 dX1_waterFor_11 ?_
  refine xr_il1 dX1_waterFor_12 ?_
  refine xr_Vi1 (s_gAbove H _) kX1_51 (by decide) (Nat.le_of_ble_eq_true rfl) (Nat.zero_add _) (Nat.zero_add _) dX1_waterFor_13 ?_
  refine xr_isub dX1_waterFor_16 ?_
  refine xr_max kmX1_54 ms_max wz_J9 mc_max (by decide) (Nat.le_of_ble_eq_true rfl) dX1_waterFor_17 ?_
  refine xr_iret dX1_waterFor_20 rfl ?_
  exact ⟨rfl, rfl⟩
set_option maxRecDepth 20000 in
theorem s_haveSeats {K : xK} {B : Nat} {l : Launch} {h : xH} {b : Nat} {kn nx u w : Nat → Int32} {t fa fb x y s g : Int32} (H : X3 h (b + 3) (plO (b + 3) b t fa fb) (iA K 1024 kn) (iA K 1024 nx)) (G : X3 h b (grO b x y s g) (iA K 32 u) (iA K 32 w)) (p q : Int32) : xV K B l 1 mX6_haveSeats 0 0 (b + 3) [.int p, .int q] h (xQi (bI (¬ t * s < bc p ∧ ¬ t * s < bc q)) h) := by
  obtain ⟨o0, o1, o2⟩ := id H
  obtain ⟨g0, g1, g2⟩ := id G
  refine ⟨⟨_, _, _, _, H.1, rfl⟩, qX6_haveSeats, ?_⟩
  refine xS.intro RX6 false ⟨rfl, rfl, by decide, by decide, Nat.le_of_ble_eq_true rfl⟩ (ls := [some (.ref (b + 3)), some (.int p), some (.int q), none]) rfl ?_
  refine xr_al0 dX6_haveSeats_0 ?_
  refine xr_get o0 fX6_23 rfl dX6_haveSeats_1 ?_
  refine xr_al0 dX6_haveSeats_4 ?_
  refine xr_get o0 fX6_18 rfl dX6_haveSeats_5 ?_
  refine xr_get g0 fX6_49 rfl dX6_haveSeats_8 ?_
  refine xr_imul dX6_haveSeats_11 ?_
  refine xr_is3 dX6_haveSeats_12 (by decide) rfl ?_
  refine xr_il1 dX6_haveSeats_13 ?_
  refine xr_Si1 (s_bitCount _) kX6_52 (by decide) (Nat.le_of_ble_eq_true rfl) (Nat.zero_add _) (Nat.zero_add _) dX6_haveSeats_14 ?_
  refine xr_il3 dX6_haveSeats_17 ?_
  refine xr_icmpgt (tgt := 33) dX6_haveSeats_18 (by decide) (fun zc18 => ?_) (fun zc18 => ?_)
  · skip
    refine xr_ic0 dX6_haveSeats_33 ?_
    refine xr_zret dX6_haveSeats_34 rfl (by first | rfl | decide | assumption) ?_
    exact ⟨by rw [bI_f (fun z => z.1 zc18)], rfl⟩
  · skip
    refine xr_il2 dX6_haveSeats_21 ?_
    refine xr_Si1 (s_bitCount _) kX6_52 (by decide) (Nat.le_of_ble_eq_true rfl) (Nat.zero_add _) (Nat.zero_add _) dX6_haveSeats_22 ?_
    refine xr_il3 dX6_haveSeats_25 ?_
    refine xr_icmpgt (tgt := 33) dX6_haveSeats_26 (by decide) (fun zc26 => ?_) (fun zc26 => ?_)
    · skip
      refine xr_ic0 dX6_haveSeats_33 ?_
      refine xr_zret dX6_haveSeats_34 rfl (by first | rfl | decide | assumption) ?_
      exact ⟨by rw [bI_f (fun z => z.2 zc26)], rfl⟩
    · skip
      refine xr_ic1 dX6_haveSeats_29 ?_
      refine xr_goto (tgt := 34) dX6_haveSeats_30 (by decide) ?_
      refine xr_zret dX6_haveSeats_34 rfl (by first | rfl | decide | assumption) ?_
      exact ⟨by rw [bI_t ⟨zc18, zc26⟩], rfl⟩
theorem xix_1023 (z : Int32) : xix (z &&& 1023) 1024 (z &&& 1023).toNatClampNeg := ⟨pk_andIn z 10 (by decide) (by decide), rfl⟩
def lw1 (kn u w : Nat → Int32) (s g grp al bl mu le pt : Int32) : Int32 := if kn (((al * 32 + (bl ^^^ (pt ||| mu))) &&& 1023).toNatClampNeg) < le ∧ ¬ s < bc (pt ||| mu) then iMin le (kn (((al * 32 + (bl ^^^ (pt ||| mu))) &&& 1023).toNatClampNeg) + gWat u w g grp (pt ||| mu)) else le
def lwN (kn u w : Nat → Int32) (s g grp al bl mu may : Int32) : Nat → Int32 → Int32 → Int32
  | 0, le, _ => le
  | r + 1, le, pt => if pt = 0 then lw1 kn u w s g grp al bl mu le pt else lwN kn u w s g grp al bl mu may r (lw1 kn u w s g grp al bl mu le pt) ((pt - 1) &&& may)
def lwV (kn u w : Nat → Int32) (s g grp al bl mu : Int32) : Int32 := lwN kn u w s g grp al bl mu (bl ^^^ mu) 32 1048576 (bl ^^^ mu)
set_option maxRecDepth 20000 in
theorem lp_leastWith {K : xK} {B : Nat} {l : Launch} {h : xH} {b : Nat} {kn nx u w : Nat → Int32} {t fa fb x y s g : Int32} (H : X3 h (b + 3) (plO (b + 3) b t fa fb) (iA K 1024 kn) (iA K 1024 nx)) (G : X3 h b (grO b x y s g) (iA K 32 u) (iA K 32 w)) (grp al bl mu may : Int32) (r : Nat) : ∀ (i : Nat) (le pt : Int32) (y9 y10 : Option Value), i + r = 32 → xT K B l 2 RX6 false cX6_leastWith 11 (some .int) 0 0 0 0 (xQi (lwN kn u w s g grp al bl mu may r le pt) h) 17 [some (.ref (b + 3)), some (.int grp), some (.int al), some (.int bl), some (.int mu), some (.int may), some (.int le), some (.int pt), some (.int (nI i)), y9, y10] [] h := by
  obtain ⟨o0, o1, o2⟩ := id H
  obtain ⟨g0, g1, g2⟩ := id G
  induction r with
  | zero =>
    intro i le pt y9 y10 hi
    refine xr_il8 dX6_leastWith_17 ?_
    refine xr_bipush (v := 32) dX6_leastWith_19 (by decide) ?_
    refine xr_icmpge (tgt := 116) dX6_leastWith_21 (by decide) (fun zc21 => ?_) (fun zc21 => ?_)
    · skip
      refine xr_il6 dX6_leastWith_116 ?_
      refine xr_iret dX6_leastWith_118 rfl ?_
      exact ⟨rfl, rfl⟩
    · skip
      exact absurd (nI_le (a := 32) (by omega) (by omega)) zc21
  | succ r ih =>
    intro i le pt y9 y10 hi
    refine xr_il8 dX6_leastWith_17 ?_
    refine xr_bipush (v := 32) dX6_leastWith_19 (by decide) ?_
    refine xr_icmpge (tgt := 116) dX6_leastWith_21 (by decide) (fun zc21 => ?_) (fun zc21 => ?_)
    · skip
      exact absurd zc21 (nI_ge (b := 32) (by omega) (by decide))
    · skip
      refine xr_il7 dX6_leastWith_24 ?_
      refine xr_il4 dX6_leastWith_26 ?_
      refine xr_ior dX6_leastWith_28 ?_
      refine xr_is9 dX6_leastWith_29 (by decide) rfl ?_
      refine xr_al0 dX6_leastWith_31 ?_
      refine xr_get o0 fX6_9 rfl dX6_leastWith_32 ?_
      refine xr_il2 dX6_leastWith_35 ?_
      refine xr_bipush (v := 32) dX6_leastWith_36 (by decide) ?_
      refine xr_imul dX6_leastWith_38 ?_
      refine xr_il3 dX6_leastWith_39 ?_
      refine xr_il9 dX6_leastWith_40 ?_
      refine xr_ixor dX6_leastWith_42 ?_
      refine xr_iadd dX6_leastWith_43 ?_
      refine xr_sipush (v := 1023) dX6_leastWith_44 (by decide) ?_
      refine xr_iand dX6_leastWith_47 ?_
      refine xr_iald o1 (xix_1023 _) dX6_leastWith_48 ?_
      refine xr_is10 dX6_leastWith_49 (by decide) rfl ?_
      refine xr_il10 dX6_leastWith_51 ?_
      refine xr_il6 dX6_leastWith_53 ?_
      refine xr_icmpge (tgt := 93) dX6_leastWith_55 (by decide) (fun zc55 => ?_) (fun zc55 => ?_)
      · skip
        refine xr_il7 dX6_leastWith_93 ?_
        refine xr_ifne (tgt := 101) dX6_leastWith_95 (by decide) (fun zc95 => ?_) (fun zc95 => ?_)
        · skip
          refine xr_il7 dX6_leastWith_101 ?_
          refine xr_ic1 dX6_leastWith_103 ?_
          refine xr_isub dX6_leastWith_104 ?_
          refine xr_il5 dX6_leastWith_105 ?_
          refine xr_iand dX6_leastWith_107 ?_
          refine xr_is7 dX6_leastWith_108 (by decide) rfl ?_
          refine xr_inc8 dX6_leastWith_110 (nI_inc i) (by decide) rfl ?_
          refine xr_goto (tgt := 17) dX6_leastWith_113 (by decide) ?_
          unfold lwN
          rw [if_neg zc95]
          have hi := ih (i + 1) (lw1 kn u w s g grp al bl mu le pt) ((pt - 1) &&& may) (some (.int (pt ||| mu))) (some (.int (kn (((al * 32 + (bl ^^^ (pt ||| mu))) &&& 1023).toNatClampNeg)))) (by omega)
          have e : lw1 kn u w s g grp al bl mu le pt = _ := if_neg (fun q => absurd zc55 (Int32.not_le.mpr q.1))
          rw [e] at hi ⊢
          exact hi
        · skip
          refine xr_goto (tgt := 116) dX6_leastWith_98 (by decide) ?_
          refine xr_il6 dX6_leastWith_116 ?_
          refine xr_iret dX6_leastWith_118 rfl ?_
          refine ⟨?_, rfl⟩
          unfold lwN
          rw [if_pos zc95]
          have e : lw1 kn u w s g grp al bl mu le pt = _ := if_neg (fun q => absurd zc55 (Int32.not_le.mpr q.1))
          rw [e]
          try rfl
      · skip
        refine xr_il9 dX6_leastWith_58 ?_
        refine xr_Si1 (s_bitCount _) kX6_52 (by decide) (Nat.le_of_ble_eq_true rfl) (Nat.zero_add _) (Nat.zero_add _) dX6_leastWith_60 ?_
        refine xr_al0 dX6_leastWith_63 ?_
        refine xr_get o0 fX6_18 rfl dX6_leastWith_64 ?_
        refine xr_get g0 fX6_49 rfl dX6_leastWith_67 ?_
        refine xr_icmpgt (tgt := 93) dX6_leastWith_70 (by decide) (fun zc70 => ?_) (fun zc70 => ?_)
        · skip
          refine xr_il7 dX6_leastWith_93 ?_
          refine xr_ifne (tgt := 101) dX6_leastWith_95 (by decide) (fun zc95 => ?_) (fun zc95 => ?_)
          · skip
            refine xr_il7 dX6_leastWith_101 ?_
            refine xr_ic1 dX6_leastWith_103 ?_
            refine xr_isub dX6_leastWith_104 ?_
            refine xr_il5 dX6_leastWith_105 ?_
            refine xr_iand dX6_leastWith_107 ?_
            refine xr_is7 dX6_leastWith_108 (by decide) rfl ?_
            refine xr_inc8 dX6_leastWith_110 (nI_inc i) (by decide) rfl ?_
            refine xr_goto (tgt := 17) dX6_leastWith_113 (by decide) ?_
            unfold lwN
            rw [if_neg zc95]
            have hi := ih (i + 1) (lw1 kn u w s g grp al bl mu le pt) ((pt - 1) &&& may) (some (.int (pt ||| mu))) (some (.int (kn (((al * 32 + (bl ^^^ (pt ||| mu))) &&& 1023).toNatClampNeg)))) (by omega)
            have e : lw1 kn u w s g grp al bl mu le pt = _ := if_neg (fun q => q.2 zc70)
            rw [e] at hi ⊢
            exact hi
          · skip
            refine xr_goto (tgt := 116) dX6_leastWith_98 (by decide) ?_
            refine xr_il6 dX6_leastWith_116 ?_
            refine xr_iret dX6_leastWith_118 rfl ?_
            refine ⟨?_, rfl⟩
            unfold lwN
            rw [if_pos zc95]
            have e : lw1 kn u w s g grp al bl mu le pt = _ := if_neg (fun q => q.2 zc70)
            rw [e]
            try rfl
        · skip
          refine xr_il6 dX6_leastWith_73 ?_
          refine xr_il10 dX6_leastWith_75 ?_
          refine xr_al0 dX6_leastWith_77 ?_
          refine xr_get o0 fX6_18 rfl dX6_leastWith_78 ?_
          refine xr_il1 dX6_leastWith_81 ?_
          refine xr_il9 dX6_leastWith_82 ?_
          refine xr_Vi2 (s_gWater G _ _) kX6_67 (by decide) (Nat.le_of_ble_eq_true rfl) (Nat.zero_add _) (Nat.zero_add _) dX6_leastWith_84 ?_
          refine xr_iadd dX6_leastWith_87 ?_
          refine xr_min kmX6_62 ms_min wz_J9 mc_min (by decide) (Nat.le_of_ble_eq_true rfl) dX6_leastWith_88 ?_
          refine xr_is6 dX6_leastWith_91 (by decide) rfl ?_
          refine xr_il7 dX6_leastWith_93 ?_
          refine xr_ifne (tgt := 101) dX6_leastWith_95 (by decide) (fun zc95 => ?_) (fun zc95 => ?_)
          · skip
            refine xr_il7 dX6_leastWith_101 ?_
            refine xr_ic1 dX6_leastWith_103 ?_
            refine xr_isub dX6_leastWith_104 ?_
            refine xr_il5 dX6_leastWith_105 ?_
            refine xr_iand dX6_leastWith_107 ?_
            refine xr_is7 dX6_leastWith_108 (by decide) rfl ?_
            refine xr_inc8 dX6_leastWith_110 (nI_inc i) (by decide) rfl ?_
            refine xr_goto (tgt := 17) dX6_leastWith_113 (by decide) ?_
            unfold lwN
            rw [if_neg zc95]
            have hi := ih (i + 1) (lw1 kn u w s g grp al bl mu le pt) ((pt - 1) &&& may) (some (.int (pt ||| mu))) (some (.int (kn (((al * 32 + (bl ^^^ (pt ||| mu))) &&& 1023).toNatClampNeg)))) (by omega)
            have e : lw1 kn u w s g grp al bl mu le pt = _ := if_pos ⟨Int32.not_le.mp zc55, zc70⟩
            rw [e] at hi ⊢
            exact hi
          · skip
            refine xr_goto (tgt := 116) dX6_leastWith_98 (by decide) ?_
            refine xr_il6 dX6_leastWith_116 ?_
            refine xr_iret dX6_leastWith_118 rfl ?_
            refine ⟨?_, rfl⟩
            unfold lwN
            rw [if_pos zc95]
            have e : lw1 kn u w s g grp al bl mu le pt = _ := if_pos ⟨Int32.not_le.mp zc55, zc70⟩
            rw [e]
            try rfl
set_option maxRecDepth 20000 in
theorem s_leastWith {K : xK} {B : Nat} {l : Launch} {h : xH} {b : Nat} {kn nx u w : Nat → Int32} {t fa fb x y s g : Int32} (H : X3 h (b + 3) (plO (b + 3) b t fa fb) (iA K 1024 kn) (iA K 1024 nx)) (G : X3 h b (grO b x y s g) (iA K 32 u) (iA K 32 w)) (grp al bl mu : Int32) : xV K B l 2 mX6_leastWith 0 0 (b + 3) [.int grp, .int al, .int bl, .int mu] h (xQi (lwV kn u w s g grp al bl mu) h) := by
  obtain ⟨o0, o1, o2⟩ := id H
  obtain ⟨g0, g1, g2⟩ := id G
  refine ⟨⟨_, _, _, _, H.1, rfl⟩, qX6_leastWith, ?_⟩
  refine xS.intro RX6 false ⟨rfl, rfl, by decide, by decide, Nat.le_of_ble_eq_true rfl⟩ (ls := [some (.ref (b + 3)), some (.int grp), some (.int al), some (.int bl), some (.int mu), none, none, none, none, none, none]) rfl ?_
  refine xr_il3 dX6_leastWith_0 ?_
  refine xr_il4 dX6_leastWith_1 ?_
  refine xr_ixor dX6_leastWith_3 ?_
  refine xr_is5 dX6_leastWith_4 (by decide) rfl ?_
  refine xr_ldc nX6_22 dX6_leastWith_6 ?_
  refine xr_is6 dX6_leastWith_8 (by decide) rfl ?_
  refine xr_il5 dX6_leastWith_10 ?_
  refine xr_is7 dX6_leastWith_12 (by decide) rfl ?_
  refine xr_ic0 dX6_leastWith_14 ?_
  refine xr_is8 dX6_leastWith_15 (by decide) rfl ?_
  exact lp_leastWith H G grp al bl mu (bl ^^^ mu) 32 0 1048576 (bl ^^^ mu) none none rfl
def lf1 (kn u w : Nat → Int32) (s g ab bl ma mb le pt : Int32) : Int32 := if s < bc (pt ||| ma) then le else iMin le (lwV kn u w s g (pt ||| ma) (ab ^^^ (pt ||| ma)) bl mb)
def lfN (kn u w : Nat → Int32) (s g ab bl ma mb may : Int32) : Nat → Int32 → Int32 → Int32
  | 0, le, _ => le
  | r + 1, le, pt => if pt = 0 then lf1 kn u w s g ab bl ma mb le pt else lfN kn u w s g ab bl ma mb may r (lf1 kn u w s g ab bl ma mb le pt) ((pt - 1) &&& may)
def lfV (kn u w : Nat → Int32) (s g ab bl : Int32) : Int32 := if ab = 0 ∧ bl = 0 then 1048576 else lfN kn u w s g ab bl (ab &&& (0 - ab)) (if ab = 0 then bl &&& (0 - bl) else 0) (ab ^^^ (ab &&& (0 - ab))) 32 1048576 (ab ^^^ (ab &&& (0 - ab)))
set_option maxRecDepth 20000 in
theorem lp_leastFor {K : xK} {B : Nat} {l : Launch} {h : xH} {b : Nat} {kn nx u w : Nat → Int32} {t fa fb x y s g : Int32} (H : X3 h (b + 3) (plO (b + 3) b t fa fb) (iA K 1024 kn) (iA K 1024 nx)) (G : X3 h b (grO b x y s g) (iA K 32 u) (iA K 32 w)) (ab bl ma mb may : Int32) (r : Nat) : ∀ (i : Nat) (le pt : Int32) (y9 : Option Value), i + r = 32 → xT K B l 3 RX6 false cX6_leastFor 10 (some .int) 0 0 0 0 (xQi (lfN kn u w s g ab bl ma mb may r le pt) h) 46 [some (.ref (b + 3)), some (.int ab), some (.int bl), some (.int ma), some (.int mb), some (.int may), some (.int le), some (.int pt), some (.int (nI i)), y9] [] h := by
  obtain ⟨o0, o1, o2⟩ := id H
  obtain ⟨g0, g1, g2⟩ := id G
  induction r with
  | zero =>
    intro i le pt y9 hi
    refine xr_il8 dX6_leastFor_46 ?_
    refine xr_bipush (v := 32) dX6_leastFor_48 (by decide) ?_
    refine xr_icmpge (tgt := 117) dX6_leastFor_50 (by decide) (fun zc50 => ?_) (fun zc50 => ?_)
    · skip
      refine xr_il6 dX6_leastFor_117 ?_
      refine xr_iret dX6_leastFor_119 rfl ?_
      exact ⟨rfl, rfl⟩
    · skip
      exact absurd (nI_le (a := 32) (by omega) (by omega)) zc50
  | succ r ih =>
    intro i le pt y9 hi
    refine xr_il8 dX6_leastFor_46 ?_
    refine xr_bipush (v := 32) dX6_leastFor_48 (by decide) ?_
    refine xr_icmpge (tgt := 117) dX6_leastFor_50 (by decide) (fun zc50 => ?_) (fun zc50 => ?_)
    · skip
      exact absurd zc50 (nI_ge (b := 32) (by omega) (by decide))
    · skip
      refine xr_il7 dX6_leastFor_53 ?_
      refine xr_il3 dX6_leastFor_55 ?_
      refine xr_ior dX6_leastFor_56 ?_
      refine xr_is9 dX6_leastFor_57 (by decide) rfl ?_
      refine xr_il9 dX6_leastFor_59 ?_
      refine xr_Si1 (s_bitCount _) kX6_52 (by decide) (Nat.le_of_ble_eq_true rfl) (Nat.zero_add _) (Nat.zero_add _) dX6_leastFor_61 ?_
      refine xr_al0 dX6_leastFor_64 ?_
      refine xr_get o0 fX6_18 rfl dX6_leastFor_65 ?_
      refine xr_get g0 fX6_49 rfl dX6_leastFor_68 ?_
      refine xr_icmpgt (tgt := 94) dX6_leastFor_71 (by decide) (fun zc71 => ?_) (fun zc71 => ?_)
      · skip
        refine xr_il7 dX6_leastFor_94 ?_
        refine xr_ifne (tgt := 102) dX6_leastFor_96 (by decide) (fun zc96 => ?_) (fun zc96 => ?_)
        · skip
          refine xr_il7 dX6_leastFor_102 ?_
          refine xr_ic1 dX6_leastFor_104 ?_
          refine xr_isub dX6_leastFor_105 ?_
          refine xr_il5 dX6_leastFor_106 ?_
          refine xr_iand dX6_leastFor_108 ?_
          refine xr_is7 dX6_leastFor_109 (by decide) rfl ?_
          refine xr_inc8 dX6_leastFor_111 (nI_inc i) (by decide) rfl ?_
          refine xr_goto (tgt := 46) dX6_leastFor_114 (by decide) ?_
          unfold lfN
          rw [if_neg zc96]
          have hi := ih (i + 1) (lf1 kn u w s g ab bl ma mb le pt) ((pt - 1) &&& may) (some (.int (pt ||| ma))) (by omega)
          have e : lf1 kn u w s g ab bl ma mb le pt = _ := if_pos zc71
          rw [e] at hi ⊢
          exact hi
        · skip
          refine xr_goto (tgt := 117) dX6_leastFor_99 (by decide) ?_
          refine xr_il6 dX6_leastFor_117 ?_
          refine xr_iret dX6_leastFor_119 rfl ?_
          refine ⟨?_, rfl⟩
          unfold lfN
          rw [if_pos zc96]
          have e : lf1 kn u w s g ab bl ma mb le pt = _ := if_pos zc71
          rw [e]
          try rfl
      · skip
        refine xr_il6 dX6_leastFor_74 ?_
        refine xr_al0 dX6_leastFor_76 ?_
        refine xr_il9 dX6_leastFor_77 ?_
        refine xr_il1 dX6_leastFor_79 ?_
        refine xr_il9 dX6_leastFor_80 ?_
        refine xr_ixor dX6_leastFor_82 ?_
        refine xr_il2 dX6_leastFor_83 ?_
        refine xr_il4 dX6_leastFor_84 ?_
        refine xr_Vi4 (s_leastWith H G _ _ _ _) kX6_58 (by decide) (Nat.le_of_ble_eq_true rfl) (Nat.zero_add _) (Nat.zero_add _) dX6_leastFor_86 ?_
        refine xr_min kmX6_62 ms_min wz_J9 mc_min (by decide) (Nat.le_of_ble_eq_true rfl) dX6_leastFor_89 ?_
        refine xr_is6 dX6_leastFor_92 (by decide) rfl ?_
        refine xr_il7 dX6_leastFor_94 ?_
        refine xr_ifne (tgt := 102) dX6_leastFor_96 (by decide) (fun zc96 => ?_) (fun zc96 => ?_)
        · skip
          refine xr_il7 dX6_leastFor_102 ?_
          refine xr_ic1 dX6_leastFor_104 ?_
          refine xr_isub dX6_leastFor_105 ?_
          refine xr_il5 dX6_leastFor_106 ?_
          refine xr_iand dX6_leastFor_108 ?_
          refine xr_is7 dX6_leastFor_109 (by decide) rfl ?_
          refine xr_inc8 dX6_leastFor_111 (nI_inc i) (by decide) rfl ?_
          refine xr_goto (tgt := 46) dX6_leastFor_114 (by decide) ?_
          unfold lfN
          rw [if_neg zc96]
          have hi := ih (i + 1) (lf1 kn u w s g ab bl ma mb le pt) ((pt - 1) &&& may) (some (.int (pt ||| ma))) (by omega)
          have e : lf1 kn u w s g ab bl ma mb le pt = _ := if_neg zc71
          rw [e] at hi ⊢
          exact hi
        · skip
          refine xr_goto (tgt := 117) dX6_leastFor_99 (by decide) ?_
          refine xr_il6 dX6_leastFor_117 ?_
          refine xr_iret dX6_leastFor_119 rfl ?_
          refine ⟨?_, rfl⟩
          unfold lfN
          rw [if_pos zc96]
          have e : lf1 kn u w s g ab bl ma mb le pt = _ := if_neg zc71
          rw [e]
          try rfl
set_option maxRecDepth 20000 in
theorem s_leastFor {K : xK} {B : Nat} {l : Launch} {h : xH} {b : Nat} {kn nx u w : Nat → Int32} {t fa fb x y s g : Int32} (H : X3 h (b + 3) (plO (b + 3) b t fa fb) (iA K 1024 kn) (iA K 1024 nx)) (G : X3 h b (grO b x y s g) (iA K 32 u) (iA K 32 w)) (ab bl : Int32) : xV K B l 3 mX6_leastFor 0 0 (b + 3) [.int ab, .int bl] h (xQi (lfV kn u w s g ab bl) h) := by
  obtain ⟨o0, o1, o2⟩ := id H
  obtain ⟨g0, g1, g2⟩ := id G
  refine ⟨⟨_, _, _, _, H.1, rfl⟩, qX6_leastFor, ?_⟩
  refine xS.intro RX6 false ⟨rfl, rfl, by decide, by decide, Nat.le_of_ble_eq_true rfl⟩ (ls := [some (.ref (b + 3)), some (.int ab), some (.int bl), none, none, none, none, none, none, none]) rfl ?_
  refine xr_il1 dX6_leastFor_0 ?_
  refine xr_ifne (tgt := 11) dX6_leastFor_1 (by decide) (fun zc1 => ?_) (fun zc1 => ?_)
  · skip
    refine xr_il1 dX6_leastFor_11 ?_
    refine xr_il1 dX6_leastFor_12 ?_
    refine xr_ineg dX6_leastFor_13 ?_
    refine xr_iand dX6_leastFor_14 ?_
    refine xr_is3 dX6_leastFor_15 (by decide) rfl ?_
    refine xr_il1 dX6_leastFor_16 ?_
    refine xr_ifne (tgt := 27) dX6_leastFor_17 (by decide) (fun zc17 => ?_) (fun zc17 => ?_)
    · skip
      refine xr_ic0 dX6_leastFor_27 ?_
      refine xr_is4 dX6_leastFor_28 (by decide) rfl ?_
      refine xr_il1 dX6_leastFor_30 ?_
      refine xr_il3 dX6_leastFor_31 ?_
      refine xr_ixor dX6_leastFor_32 ?_
      refine xr_is5 dX6_leastFor_33 (by decide) rfl ?_
      refine xr_ldc nX6_22 dX6_leastFor_35 ?_
      refine xr_is6 dX6_leastFor_37 (by decide) rfl ?_
      refine xr_il5 dX6_leastFor_39 ?_
      refine xr_is7 dX6_leastFor_41 (by decide) rfl ?_
      refine xr_ic0 dX6_leastFor_43 ?_
      refine xr_is8 dX6_leastFor_44 (by decide) rfl ?_
      unfold lfV
      rw [if_neg (fun q : ab = 0 ∧ bl = 0 => zc1 q.1), if_neg zc17]
      exact lp_leastFor H G ab bl _ _ _ 32 0 1048576 _ none rfl
    · skip
      refine xr_il2 dX6_leastFor_20 ?_
      refine xr_il2 dX6_leastFor_21 ?_
      refine xr_ineg dX6_leastFor_22 ?_
      refine xr_iand dX6_leastFor_23 ?_
      refine xr_goto (tgt := 28) dX6_leastFor_24 (by decide) ?_
      refine xr_is4 dX6_leastFor_28 (by decide) rfl ?_
      refine xr_il1 dX6_leastFor_30 ?_
      refine xr_il3 dX6_leastFor_31 ?_
      refine xr_ixor dX6_leastFor_32 ?_
      refine xr_is5 dX6_leastFor_33 (by decide) rfl ?_
      refine xr_ldc nX6_22 dX6_leastFor_35 ?_
      refine xr_is6 dX6_leastFor_37 (by decide) rfl ?_
      refine xr_il5 dX6_leastFor_39 ?_
      refine xr_is7 dX6_leastFor_41 (by decide) rfl ?_
      refine xr_ic0 dX6_leastFor_43 ?_
      refine xr_is8 dX6_leastFor_44 (by decide) rfl ?_
      unfold lfV
      rw [if_neg (fun q : ab = 0 ∧ bl = 0 => zc1 q.1), if_pos zc17]
      exact lp_leastFor H G ab bl _ _ _ 32 0 1048576 _ none rfl
  · skip
    refine xr_il2 dX6_leastFor_4 ?_
    refine xr_ifne (tgt := 11) dX6_leastFor_5 (by decide) (fun zc5 => ?_) (fun zc5 => ?_)
    · skip
      refine xr_il1 dX6_leastFor_11 ?_
      refine xr_il1 dX6_leastFor_12 ?_
      refine xr_ineg dX6_leastFor_13 ?_
      refine xr_iand dX6_leastFor_14 ?_
      refine xr_is3 dX6_leastFor_15 (by decide) rfl ?_
      refine xr_il1 dX6_leastFor_16 ?_
      refine xr_ifne (tgt := 27) dX6_leastFor_17 (by decide) (fun zc17 => ?_) (fun zc17 => ?_)
      · skip
        refine xr_ic0 dX6_leastFor_27 ?_
        refine xr_is4 dX6_leastFor_28 (by decide) rfl ?_
        refine xr_il1 dX6_leastFor_30 ?_
        refine xr_il3 dX6_leastFor_31 ?_
        refine xr_ixor dX6_leastFor_32 ?_
        refine xr_is5 dX6_leastFor_33 (by decide) rfl ?_
        refine xr_ldc nX6_22 dX6_leastFor_35 ?_
        refine xr_is6 dX6_leastFor_37 (by decide) rfl ?_
        refine xr_il5 dX6_leastFor_39 ?_
        refine xr_is7 dX6_leastFor_41 (by decide) rfl ?_
        refine xr_ic0 dX6_leastFor_43 ?_
        refine xr_is8 dX6_leastFor_44 (by decide) rfl ?_
        unfold lfV
        rw [if_neg (fun q : ab = 0 ∧ bl = 0 => zc5 q.2), if_neg zc17]
        exact lp_leastFor H G ab bl _ _ _ 32 0 1048576 _ none rfl
      · skip
        refine xr_il2 dX6_leastFor_20 ?_
        refine xr_il2 dX6_leastFor_21 ?_
        refine xr_ineg dX6_leastFor_22 ?_
        refine xr_iand dX6_leastFor_23 ?_
        refine xr_goto (tgt := 28) dX6_leastFor_24 (by decide) ?_
        refine xr_is4 dX6_leastFor_28 (by decide) rfl ?_
        refine xr_il1 dX6_leastFor_30 ?_
        refine xr_il3 dX6_leastFor_31 ?_
        refine xr_ixor dX6_leastFor_32 ?_
        refine xr_is5 dX6_leastFor_33 (by decide) rfl ?_
        refine xr_ldc nX6_22 dX6_leastFor_35 ?_
        refine xr_is6 dX6_leastFor_37 (by decide) rfl ?_
        refine xr_il5 dX6_leastFor_39 ?_
        refine xr_is7 dX6_leastFor_41 (by decide) rfl ?_
        refine xr_ic0 dX6_leastFor_43 ?_
        refine xr_is8 dX6_leastFor_44 (by decide) rfl ?_
        unfold lfV
        rw [if_neg (fun q : ab = 0 ∧ bl = 0 => zc5 q.2), if_pos zc17]
        exact lp_leastFor H G ab bl _ _ _ 32 0 1048576 _ none rfl
    · skip
      refine xr_ldc nX6_22 dX6_leastFor_8 ?_
      refine xr_iret dX6_leastFor_10 rfl ?_
      exact ⟨by unfold lfV; rw [if_pos ⟨zc1, zc5⟩], rfl⟩
def kn0 : Nat → Int32 := fun j => if j = 0 then 0 else 1048576
set_option maxRecDepth 20000 in
theorem lp_start {K : xK} {B : Nat} {l : Launch} {h : xH} {b : Nat} {kn nx : Nat → Int32} {t fa fb : Int32} (H : X3 h (b + 3) (plO (b + 3) b t fa fb) (iA K 1024 kn) (iA K 1024 nx)) (r : Nat) : ∀ (k : Nat), k + r = 1024 → xT K B l 0 RX6 false cX6_start 2 none 0 0 0 0 (xQv (P3 h (b + 3) (plO (b + 3) b 0 fa fb) (iA K 1024 kn0) (iA K 1024 nx))) 2 [some (.ref (b + 3)), some (.int (nI k))] [] (P3 h (b + 3) (plO (b + 3) b t fa fb) (iA K 1024 (cp kn (fun _ => 1048576) k)) (iA K 1024 nx)) := by
  induction r with
  | zero =>
    intro k hk
    obtain ⟨o0, o1, o2⟩ := P3_at h (b + 3) (plO (b + 3) b t fa fb) (iA K 1024 (cp kn (fun _ => 1048576) k)) (iA K 1024 nx)
    refine xr_il1 dX6_start_2 ?_
    refine xr_al0 dX6_start_3 ?_
    refine xr_get o0 fX6_9 rfl dX6_start_4 ?_
    refine xr_alen o1 1 rfl (v := 1024) rfl dX6_start_7 ?_
    refine xr_icmpge (tgt := 25) dX6_start_8 (by decide) (fun zc8 => ?_) (fun zc8 => ?_)
    · skip
      refine xr_al0 dX6_start_25 ?_
      refine xr_get o0 fX6_9 rfl dX6_start_26 ?_
      refine xr_ic0 dX6_start_29 ?_
      refine xr_ic0 dX6_start_30 ?_
      refine xr_iast o1 (xix_lit (j := 0) (by decide)) dX6_start_31 ?_
      refine xT.nm (fun zh1 zg1 => ?_)
      have o0 := xg_ne zg1 (by omega) o0
      have o1 := xg_eq zg1
      have o2 := xg_ne zg1 (by omega) o2
      refine xr_al0 dX6_start_32 ?_
      refine xr_ic0 dX6_start_33 ?_
      refine xr_put o0 fX6_23 (Nat.le_of_ble_eq_true rfl) rfl rfl dX6_start_34 ?_
      refine xT.nm (fun zh2 zg2 => ?_)
      have o0 := xg_eq zg2
      have o1 := xg_ne zg2 (by omega) o1
      have o2 := xg_ne zg2 (by omega) o2
      rw [zg2, zg1, P3_xup_e, P3_xup_o]
      refine xT.equiv (xEq_P3 (xcong_i (g := kn0) (fun j hj => ?_)) (xcong.rf _)) ?_
      · unfold kn0
        by_cases e : j = 0
        · subst e
          rw [pk_us, if_pos rfl]
        · rw [upd_hi _ _ e, if_neg e, cp_lt _ _ (by omega)]
      refine xr_vret dX6_start_37 rfl ?_
      exact ⟨rfl, rfl⟩
    · skip
      exact absurd (nI_le (a := 1024) (by omega) (by omega)) zc8
  | succ r ih =>
    intro k hk
    have hk5 : k < 1024 := by omega
    obtain ⟨o0, o1, o2⟩ := P3_at h (b + 3) (plO (b + 3) b t fa fb) (iA K 1024 (cp kn (fun _ => 1048576) k)) (iA K 1024 nx)
    refine xr_il1 dX6_start_2 ?_
    refine xr_al0 dX6_start_3 ?_
    refine xr_get o0 fX6_9 rfl dX6_start_4 ?_
    refine xr_alen o1 1 rfl (v := 1024) rfl dX6_start_7 ?_
    refine xr_icmpge (tgt := 25) dX6_start_8 (by decide) (fun zc8 => ?_) (fun zc8 => ?_)
    · skip
      exact absurd zc8 (nI_ge (b := 1024) (by omega) (by decide))
    · skip
      refine xr_al0 dX6_start_11 ?_
      refine xr_get o0 fX6_9 rfl dX6_start_12 ?_
      refine xr_il1 dX6_start_15 ?_
      refine xr_ldc nX6_22 dX6_start_16 ?_
      refine xr_iast o1 (xix_nI hk5 (by decide)) dX6_start_18 ?_
      refine xT.nm (fun zh1 zg1 => ?_)
      have o0 := xg_ne zg1 (by omega) o0
      have o1 := xg_eq zg1
      have o2 := xg_ne zg1 (by omega) o2
      refine xr_inc1 dX6_start_19 (nI_inc k) (by decide) rfl ?_
      refine xr_goto (tgt := 2) dX6_start_22 (by decide) ?_
      have hi := ih (k + 1) (by omega)
      rw [← cp_s kn (fun _ => 1048576) k] at hi
      rw [zg1, P3_xup_e]
      exact hi
set_option maxRecDepth 20000 in
theorem s_start {K : xK} {B : Nat} {l : Launch} {h : xH} {b : Nat} {kn nx : Nat → Int32} {t fa fb : Int32} (H : X3 h (b + 3) (plO (b + 3) b t fa fb) (iA K 1024 kn) (iA K 1024 nx)) : xV K B l 0 mX6_start 0 0 (b + 3) [] h (xQv (P3 h (b + 3) (plO (b + 3) b 0 fa fb) (iA K 1024 kn0) (iA K 1024 nx))) := by
  obtain ⟨o0, o1, o2⟩ := id H
  refine ⟨⟨_, _, _, _, H.1, rfl⟩, qX6_start, ?_⟩
  refine xS.intro RX6 false ⟨rfl, rfl, by decide, by decide, Nat.le_of_ble_eq_true rfl⟩ (ls := [some (.ref (b + 3)), none]) rfl ?_
  refine xr_ic0 dX6_start_0 ?_
  refine xr_is1 dX6_start_1 (by decide) rfl ?_
  have hi := lp_start (B := B) (l := l) H 1024 0 rfl
  rw [cp_0, P3_id H] at hi
  exact hi
