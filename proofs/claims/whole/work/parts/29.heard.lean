/-! Long counts, hearsay, sightings, pails, rests (written by wip/whole/car8.py) -/
def lus (x : Int64) (y : Int32) : Int64 := (x.toUInt64 >>> (y.toInt64.toUInt64 &&& Int64.toUInt64 63)).toInt64
def lb1 (x : Int64) : Int64 := x - (lus x 1 &&& 6148914691236517205)
def lb2 (x : Int64) : Int64 := (x &&& 3689348814741910323) + (lus x 2 &&& 3689348814741910323)
def lb3 (x : Int64) : Int64 := (x + lus x 4) &&& 1085102592571150095
def lb4 (x : Int64) : Int64 := x + lus x 8
def lb5 (x : Int64) : Int64 := x + lus x 16
def lb6 (x : Int64) : Int64 := x + lus x 32
def lbc (x : Int64) : Int32 := (lb6 (lb5 (lb4 (lb3 (lb2 (lb1 x)))))).toInt32 &&& 127
def nst (b s : Int32) (z : Int32 × Int32) : Int32 × Int32 := if z.1 ≤ b then z else (ushr z.1 (s &&& 31), z.2 + s)
def nt1 (z : Int32 × Int32) : Int32 := z.2 + ushr z.1 (1 &&& 31)
def nt2 (z : Int32 × Int32) : Int32 := nt1 (nst 4 2 z)
def nt3 (z : Int32 × Int32) : Int32 := nt2 (nst 16 4 z)
def nt4 (z : Int32 × Int32) : Int32 := nt3 (nst 256 8 z)
def nt5 (z : Int32 × Int32) : Int32 := nt4 (nst 65536 16 z)
def ntz (x : Int32) : Int32 := if 0 < ((x ^^^ (-1)) &&& (x - 1)) then nt5 ((x ^^^ (-1)) &&& (x - 1), 1) else ((x ^^^ (-1)) &&& (x - 1)) &&& 32
def lntz (x : Int64) : Int32 := if x.toInt32 = 0 then 32 + ntz (lus x 32).toInt32 else ntz x.toInt32
set_option maxRecDepth 20000 in
theorem s_lbc {K : xK} {B : Nat} {l : Launch} {h : xH} (x : Int64) : xU K B l 0 mJ13_bitCount_95d88 0 0 [.long x] h (xQi (lbc x) h) := by
  refine ⟨qJ13_bitCount_95d88, ?_⟩
  refine xS.intro RJ13 false ⟨rfl, rfl, by decide, by decide, Nat.le_of_ble_eq_true rfl⟩ (ls := [some (.long x), none]) rfl ?_
  refine xr_ll0 dJ13_bitCount_95d88_0 ?_
  refine xr_ll0 dJ13_bitCount_95d88_1 ?_
  refine xr_ic1 dJ13_bitCount_95d88_2 ?_
  refine xr_lushr dJ13_bitCount_95d88_3 ?_
  refine xr_ldc2 nJ13_314 dJ13_bitCount_95d88_4 ?_
  refine xr_land dJ13_bitCount_95d88_7 ?_
  refine xr_lsub dJ13_bitCount_95d88_8 ?_
  refine xr_ls0 dJ13_bitCount_95d88_9 (by decide) ?_
  refine xr_ll0 dJ13_bitCount_95d88_10 ?_
  refine xr_ldc2 nJ13_316 dJ13_bitCount_95d88_11 ?_
  refine xr_land dJ13_bitCount_95d88_14 ?_
  refine xr_ll0 dJ13_bitCount_95d88_15 ?_
  refine xr_ic2 dJ13_bitCount_95d88_16 ?_
  refine xr_lushr dJ13_bitCount_95d88_17 ?_
  refine xr_ldc2 nJ13_316 dJ13_bitCount_95d88_18 ?_
  refine xr_land dJ13_bitCount_95d88_21 ?_
  refine xr_ladd dJ13_bitCount_95d88_22 ?_
  refine xr_ls0 dJ13_bitCount_95d88_23 (by decide) ?_
  refine xr_ll0 dJ13_bitCount_95d88_24 ?_
  refine xr_ll0 dJ13_bitCount_95d88_25 ?_
  refine xr_ic4 dJ13_bitCount_95d88_26 ?_
  refine xr_lushr dJ13_bitCount_95d88_27 ?_
  refine xr_ladd dJ13_bitCount_95d88_28 ?_
  refine xr_ldc2 nJ13_318 dJ13_bitCount_95d88_29 ?_
  refine xr_land dJ13_bitCount_95d88_32 ?_
  refine xr_ls0 dJ13_bitCount_95d88_33 (by decide) ?_
  refine xr_ll0 dJ13_bitCount_95d88_34 ?_
  refine xr_ll0 dJ13_bitCount_95d88_35 ?_
  refine xr_bipush (v := 8) dJ13_bitCount_95d88_36 (by decide) ?_
  refine xr_lushr dJ13_bitCount_95d88_38 ?_
  refine xr_ladd dJ13_bitCount_95d88_39 ?_
  refine xr_ls0 dJ13_bitCount_95d88_40 (by decide) ?_
  refine xr_ll0 dJ13_bitCount_95d88_41 ?_
  refine xr_ll0 dJ13_bitCount_95d88_42 ?_
  refine xr_bipush (v := 16) dJ13_bitCount_95d88_43 (by decide) ?_
  refine xr_lushr dJ13_bitCount_95d88_45 ?_
  refine xr_ladd dJ13_bitCount_95d88_46 ?_
  refine xr_ls0 dJ13_bitCount_95d88_47 (by decide) ?_
  refine xr_ll0 dJ13_bitCount_95d88_48 ?_
  refine xr_ll0 dJ13_bitCount_95d88_49 ?_
  refine xr_bipush (v := 32) dJ13_bitCount_95d88_50 (by decide) ?_
  refine xr_lushr dJ13_bitCount_95d88_52 ?_
  refine xr_ladd dJ13_bitCount_95d88_53 ?_
  refine xr_ls0 dJ13_bitCount_95d88_54 (by decide) ?_
  refine xr_ll0 dJ13_bitCount_95d88_55 ?_
  refine xr_l2i dJ13_bitCount_95d88_56 ?_
  refine xr_bipush (v := 127) dJ13_bitCount_95d88_57 (by decide) ?_
  refine xr_iand dJ13_bitCount_95d88_59 ?_
  refine xr_iret dJ13_bitCount_95d88_60 rfl ?_
  exact ⟨rfl, rfl⟩
theorem t_nt1 {K : xK} {B : Nat} {l : Launch} {h : xH} (u v : Int32) : xT K B l 0 RJ6 false cJ6_numberOfTrailingZeros_0f7a4 2 (some .int) 0 0 0 0 (xQi (nt1 (u, v)) h) 74 [some (.int u), some (.int v)] [] h := by
  refine xr_il1 dJ6_numberOfTrailingZeros_0f7a4_74 ?_
  refine xr_il0 dJ6_numberOfTrailingZeros_0f7a4_75 ?_
  refine xr_ic1 dJ6_numberOfTrailingZeros_0f7a4_76 ?_
  refine xr_iushr dJ6_numberOfTrailingZeros_0f7a4_77 ?_
  refine xr_iadd dJ6_numberOfTrailingZeros_0f7a4_78 ?_
  refine xr_iret dJ6_numberOfTrailingZeros_0f7a4_79 rfl ?_
  exact ⟨rfl, rfl⟩
theorem t_nt2 {K : xK} {B : Nat} {l : Launch} {h : xH} (u v : Int32) : xT K B l 0 RJ6 false cJ6_numberOfTrailingZeros_0f7a4 2 (some .int) 0 0 0 0 (xQi (nt2 (u, v)) h) 62 [some (.int u), some (.int v)] [] h := by
  refine xr_il0 dJ6_numberOfTrailingZeros_0f7a4_62 ?_
  refine xr_ic4 dJ6_numberOfTrailingZeros_0f7a4_63 ?_
  refine xr_icmple (tgt := 74) dJ6_numberOfTrailingZeros_0f7a4_64 (by decide) (fun zc64 => ?_) (fun zc64 => ?_)
  · skip
    have e : nst 4 2 (u, v) = _ := if_pos zc64
    unfold nt2
    rw [e]
    exact t_nt1 _ _
  · skip
    refine xr_inc1 dJ6_numberOfTrailingZeros_0f7a4_67 (show v + Int32.ofInt 2 = v + 2 from rfl) (by decide) rfl ?_
    refine xr_il0 dJ6_numberOfTrailingZeros_0f7a4_70 ?_
    refine xr_ic2 dJ6_numberOfTrailingZeros_0f7a4_71 ?_
    refine xr_iushr dJ6_numberOfTrailingZeros_0f7a4_72 ?_
    refine xr_is0 dJ6_numberOfTrailingZeros_0f7a4_73 (by decide) ?_
    have e : nst 4 2 (u, v) = _ := if_neg zc64
    unfold nt2
    rw [e]
    exact t_nt1 _ _
theorem t_nt3 {K : xK} {B : Nat} {l : Launch} {h : xH} (u v : Int32) : xT K B l 0 RJ6 false cJ6_numberOfTrailingZeros_0f7a4 2 (some .int) 0 0 0 0 (xQi (nt3 (u, v)) h) 49 [some (.int u), some (.int v)] [] h := by
  refine xr_il0 dJ6_numberOfTrailingZeros_0f7a4_49 ?_
  refine xr_bipush (v := 16) dJ6_numberOfTrailingZeros_0f7a4_50 (by decide) ?_
  refine xr_icmple (tgt := 62) dJ6_numberOfTrailingZeros_0f7a4_52 (by decide) (fun zc52 => ?_) (fun zc52 => ?_)
  · skip
    have e : nst 16 4 (u, v) = _ := if_pos zc52
    unfold nt3
    rw [e]
    exact t_nt2 _ _
  · skip
    refine xr_inc1 dJ6_numberOfTrailingZeros_0f7a4_55 (show v + Int32.ofInt 4 = v + 4 from rfl) (by decide) rfl ?_
    refine xr_il0 dJ6_numberOfTrailingZeros_0f7a4_58 ?_
    refine xr_ic4 dJ6_numberOfTrailingZeros_0f7a4_59 ?_
    refine xr_iushr dJ6_numberOfTrailingZeros_0f7a4_60 ?_
    refine xr_is0 dJ6_numberOfTrailingZeros_0f7a4_61 (by decide) ?_
    have e : nst 16 4 (u, v) = _ := if_neg zc52
    unfold nt3
    rw [e]
    exact t_nt2 _ _
theorem t_nt4 {K : xK} {B : Nat} {l : Launch} {h : xH} (u v : Int32) : xT K B l 0 RJ6 false cJ6_numberOfTrailingZeros_0f7a4 2 (some .int) 0 0 0 0 (xQi (nt4 (u, v)) h) 34 [some (.int u), some (.int v)] [] h := by
  refine xr_il0 dJ6_numberOfTrailingZeros_0f7a4_34 ?_
  refine xr_sipush (v := 256) dJ6_numberOfTrailingZeros_0f7a4_35 (by decide) ?_
  refine xr_icmple (tgt := 49) dJ6_numberOfTrailingZeros_0f7a4_38 (by decide) (fun zc38 => ?_) (fun zc38 => ?_)
  · skip
    have e : nst 256 8 (u, v) = _ := if_pos zc38
    unfold nt4
    rw [e]
    exact t_nt3 _ _
  · skip
    refine xr_inc1 dJ6_numberOfTrailingZeros_0f7a4_41 (show v + Int32.ofInt 8 = v + 8 from rfl) (by decide) rfl ?_
    refine xr_il0 dJ6_numberOfTrailingZeros_0f7a4_44 ?_
    refine xr_bipush (v := 8) dJ6_numberOfTrailingZeros_0f7a4_45 (by decide) ?_
    refine xr_iushr dJ6_numberOfTrailingZeros_0f7a4_47 ?_
    refine xr_is0 dJ6_numberOfTrailingZeros_0f7a4_48 (by decide) ?_
    have e : nst 256 8 (u, v) = _ := if_neg zc38
    unfold nt4
    rw [e]
    exact t_nt3 _ _
theorem t_nt5 {K : xK} {B : Nat} {l : Launch} {h : xH} (u v : Int32) : xT K B l 0 RJ6 false cJ6_numberOfTrailingZeros_0f7a4 2 (some .int) 0 0 0 0 (xQi (nt5 (u, v)) h) 19 [some (.int u), some (.int v)] [] h := by
  refine xr_il0 dJ6_numberOfTrailingZeros_0f7a4_19 ?_
  refine xr_ldcw nJ6_264 dJ6_numberOfTrailingZeros_0f7a4_20 ?_
  refine xr_icmple (tgt := 34) dJ6_numberOfTrailingZeros_0f7a4_23 (by decide) (fun zc23 => ?_) (fun zc23 => ?_)
  · skip
    have e : nst 65536 16 (u, v) = _ := if_pos zc23
    unfold nt5
    rw [e]
    exact t_nt4 _ _
  · skip
    refine xr_inc1 dJ6_numberOfTrailingZeros_0f7a4_26 (show v + Int32.ofInt 16 = v + 16 from rfl) (by decide) rfl ?_
    refine xr_il0 dJ6_numberOfTrailingZeros_0f7a4_29 ?_
    refine xr_bipush (v := 16) dJ6_numberOfTrailingZeros_0f7a4_30 (by decide) ?_
    refine xr_iushr dJ6_numberOfTrailingZeros_0f7a4_32 ?_
    refine xr_is0 dJ6_numberOfTrailingZeros_0f7a4_33 (by decide) ?_
    have e : nst 65536 16 (u, v) = _ := if_neg zc23
    unfold nt5
    rw [e]
    exact t_nt4 _ _
set_option maxRecDepth 20000 in
theorem s_ntz {K : xK} {B : Nat} {l : Launch} {h : xH} (x : Int32) : xU K B l 0 mJ6_numberOfTrailingZeros_0f7a4 0 0 [.int x] h (xQi (ntz x) h) := by
  refine ⟨qJ6_numberOfTrailingZeros_0f7a4, ?_⟩
  refine xS.intro RJ6 false ⟨rfl, rfl, by decide, by decide, Nat.le_of_ble_eq_true rfl⟩ (ls := [some (.int x), none]) rfl ?_
  refine xr_il0 dJ6_numberOfTrailingZeros_0f7a4_0 ?_
  refine xr_icm1 dJ6_numberOfTrailingZeros_0f7a4_1 ?_
  refine xr_ixor dJ6_numberOfTrailingZeros_0f7a4_2 ?_
  refine xr_il0 dJ6_numberOfTrailingZeros_0f7a4_3 ?_
  refine xr_ic1 dJ6_numberOfTrailingZeros_0f7a4_4 ?_
  refine xr_isub dJ6_numberOfTrailingZeros_0f7a4_5 ?_
  refine xr_iand dJ6_numberOfTrailingZeros_0f7a4_6 ?_
  refine xr_is0 dJ6_numberOfTrailingZeros_0f7a4_7 (by decide) ?_
  refine xr_il0 dJ6_numberOfTrailingZeros_0f7a4_8 ?_
  refine xr_ifgt (tgt := 17) dJ6_numberOfTrailingZeros_0f7a4_9 (by decide) (fun zc9 => ?_) (fun zc9 => ?_)
  · skip
    refine xr_ic1 dJ6_numberOfTrailingZeros_0f7a4_17 ?_
    refine xr_is1 dJ6_numberOfTrailingZeros_0f7a4_18 (by decide) rfl ?_
    unfold ntz
    rw [if_pos zc9]
    exact t_nt5 _ _
  · skip
    refine xr_il0 dJ6_numberOfTrailingZeros_0f7a4_12 ?_
    refine xr_bipush (v := 32) dJ6_numberOfTrailingZeros_0f7a4_13 (by decide) ?_
    refine xr_iand dJ6_numberOfTrailingZeros_0f7a4_15 ?_
    refine xr_iret dJ6_numberOfTrailingZeros_0f7a4_16 rfl ?_
    exact ⟨by unfold ntz; rw [if_neg zc9], rfl⟩
set_option maxRecDepth 20000 in
theorem s_lntz {K : xK} {B : Nat} {l : Launch} {h : xH} (x : Int64) : xU K B l 1 mJ13_numberOfTrailingZeros_95d88 0 0 [.long x] h (xQi (lntz x) h) := by
  refine ⟨qJ13_numberOfTrailingZeros_95d88, ?_⟩
  refine xS.intro RJ13 false ⟨rfl, rfl, by decide, by decide, Nat.le_of_ble_eq_true rfl⟩ (ls := [some (.long x), none, none]) rfl ?_
  refine xr_ll0 dJ13_numberOfTrailingZeros_95d88_0 ?_
  refine xr_l2i dJ13_numberOfTrailingZeros_95d88_1 ?_
  refine xr_is2 dJ13_numberOfTrailingZeros_95d88_2 (by decide) rfl ?_
  refine xr_il2 dJ13_numberOfTrailingZeros_95d88_3 ?_
  refine xr_ifne (tgt := 21) dJ13_numberOfTrailingZeros_95d88_4 (by decide) (fun zc4 => ?_) (fun zc4 => ?_)
  · skip
    refine xr_il2 dJ13_numberOfTrailingZeros_95d88_21 ?_
    refine xr_Si1 (s_ntz _) kJ13_311 (by decide) (Nat.le_of_ble_eq_true rfl) (Nat.zero_add _) (Nat.zero_add _) dJ13_numberOfTrailingZeros_95d88_22 ?_
    refine xr_iret dJ13_numberOfTrailingZeros_95d88_25 rfl ?_
    exact ⟨by unfold lntz; rw [if_neg zc4], rfl⟩
  · skip
    refine xr_bipush (v := 32) dJ13_numberOfTrailingZeros_95d88_7 (by decide) ?_
    refine xr_ll0 dJ13_numberOfTrailingZeros_95d88_9 ?_
    refine xr_bipush (v := 32) dJ13_numberOfTrailingZeros_95d88_10 (by decide) ?_
    refine xr_lushr dJ13_numberOfTrailingZeros_95d88_12 ?_
    refine xr_l2i dJ13_numberOfTrailingZeros_95d88_13 ?_
    refine xr_Si1 (s_ntz _) kJ13_311 (by decide) (Nat.le_of_ble_eq_true rfl) (Nat.zero_add _) (Nat.zero_add _) dJ13_numberOfTrailingZeros_95d88_14 ?_
    refine xr_iadd dJ13_numberOfTrailingZeros_95d88_17 ?_
    refine xr_goto (tgt := 25) dJ13_numberOfTrailingZeros_95d88_18 (by decide) ?_
    refine xr_iret dJ13_numberOfTrailingZeros_95d88_25 rfl ?_
    exact ⟨by unfold lntz; rw [if_pos zc4]; rfl, rfl⟩
def mbh (c x : Int32) : Int32 := if c = 0 ∨ c = 3 then bI (x = 0 ∨ x = 1) else if c = 1 then bI (¬ x < 1 ∧ ¬ 9 < x) else if c = 2 then bI (¬ x < 0 ∧ ¬ 5 ≤ x) else 0
theorem mbh_out {c : Int32} (x : Int32) (h : c.toInt < (0 : Int) ∨ (3 : Int) < c.toInt) : mbh c x = 0 := by
  unfold mbh
  rw [if_neg, if_neg, if_neg]
  · rintro rfl; revert h; decide
  · rintro rfl; revert h; decide
  · rintro (rfl | rfl) <;> revert h <;> decide
theorem mbh_in {c x : Int32} (h : ¬ mbh c x = 0) : c = 0 ∨ c = 1 ∨ c = 2 ∨ c = 3 := by
  unfold mbh at h
  by_cases a : c = 0 ∨ c = 3
  · rcases a with a | a
    · exact Or.inl a
    · exact Or.inr (Or.inr (Or.inr a))
  · rw [if_neg a] at h
    by_cases b : c = 1
    · exact Or.inr (Or.inl b)
    · rw [if_neg b] at h
      by_cases d : c = 2
      · exact Or.inr (Or.inr (Or.inl d))
      · rw [if_neg d] at h
        exact absurd rfl h
set_option maxRecDepth 20000 in
theorem s_mayHeard {K : xK} {B : Nat} {l : Launch} {h : xH} (c x : Int32) : xU K B l 0 mX11_mayBeHeard 0 0 [.int c, .int x] h (xQi (mbh c x) h) := by
  refine ⟨qX11_mayBeHeard, ?_⟩
  refine xS.intro RX11 false ⟨rfl, rfl, by decide, by decide, Nat.le_of_ble_eq_true rfl⟩ (ls := [some (.int c), some (.int x)]) rfl ?_
  refine xr_il0 dX11_mayBeHeard_0 ?_
  by_cases hlo : c.toInt < (0 : Int) ∨ (3 : Int) < c.toInt
  · skip
    refine xr_tabOut (tgt := 79) dX11_mayBeHeard_1 hlo (by decide) ?_
    refine xr_ic0 dX11_mayBeHeard_79 ?_
    refine xr_zret dX11_mayBeHeard_80 rfl (by first | rfl | decide | assumption) ?_
    exact ⟨by rw [mbh_out _ hlo], rfl⟩
  · skip
    obtain ⟨zj, hzj, rfl⟩ := tab_in (lo := 0) (hi := 3) (by decide) hlo
    rcases (show zj = 0 ∨ zj = 1 ∨ zj = 2 ∨ zj = 3 by omega) with rfl | rfl | rfl | rfl
    · skip
      refine xr_tabIn (tgt := 32) dX11_mayBeHeard_1 (by decide) (by decide) rfl (by decide) ?_
      refine xr_il1 dX11_mayBeHeard_32 ?_
      refine xr_ifeq (tgt := 41) dX11_mayBeHeard_33 (by decide) (fun zc33 => ?_) (fun zc33 => ?_)
      · skip
        refine xr_ic1 dX11_mayBeHeard_41 ?_
        refine xr_goto (tgt := 46) dX11_mayBeHeard_42 (by decide) ?_
        refine xr_zret dX11_mayBeHeard_46 rfl (by first | rfl | decide | assumption) ?_
        exact ⟨by rw [show mbh (nI (0 + 0)) x = bI (x = 0 ∨ x = 1) from rfl, bI_t (Or.inl zc33)], rfl⟩
      · skip
        refine xr_il1 dX11_mayBeHeard_36 ?_
        refine xr_ic1 dX11_mayBeHeard_37 ?_
        refine xr_icmpne (tgt := 45) dX11_mayBeHeard_38 (by decide) (fun zc38 => ?_) (fun zc38 => ?_)
        · skip
          refine xr_ic0 dX11_mayBeHeard_45 ?_
          refine xr_zret dX11_mayBeHeard_46 rfl (by first | rfl | decide | assumption) ?_
          exact ⟨by rw [show mbh (nI (0 + 0)) x = bI (x = 0 ∨ x = 1) from rfl, bI_f (fun q => q.elim zc33 zc38)], rfl⟩
        · skip
          refine xr_ic1 dX11_mayBeHeard_41 ?_
          refine xr_goto (tgt := 46) dX11_mayBeHeard_42 (by decide) ?_
          refine xr_zret dX11_mayBeHeard_46 rfl (by first | rfl | decide | assumption) ?_
          exact ⟨by rw [show mbh (nI (0 + 0)) x = bI (x = 0 ∨ x = 1) from rfl, bI_t (Or.inr zc38)], rfl⟩
    · skip
      refine xr_tabIn (tgt := 47) dX11_mayBeHeard_1 (by decide) (by decide) rfl (by decide) ?_
      refine xr_il1 dX11_mayBeHeard_47 ?_
      refine xr_ic1 dX11_mayBeHeard_48 ?_
      refine xr_icmplt (tgt := 62) dX11_mayBeHeard_49 (by decide) (fun zc49 => ?_) (fun zc49 => ?_)
      · skip
        refine xr_ic0 dX11_mayBeHeard_62 ?_
        refine xr_zret dX11_mayBeHeard_63 rfl (by first | rfl | decide | assumption) ?_
        exact ⟨by rw [show mbh (nI (0 + 1)) x = bI (¬ x < 1 ∧ ¬ 9 < x) from rfl, bI_f (fun q => q.1 zc49)], rfl⟩
      · skip
        refine xr_il1 dX11_mayBeHeard_52 ?_
        refine xr_bipush (v := 9) dX11_mayBeHeard_53 (by decide) ?_
        refine xr_icmpgt (tgt := 62) dX11_mayBeHeard_55 (by decide) (fun zc55 => ?_) (fun zc55 => ?_)
        · skip
          refine xr_ic0 dX11_mayBeHeard_62 ?_
          refine xr_zret dX11_mayBeHeard_63 rfl (by first | rfl | decide | assumption) ?_
          exact ⟨by rw [show mbh (nI (0 + 1)) x = bI (¬ x < 1 ∧ ¬ 9 < x) from rfl, bI_f (fun q => q.2 zc55)], rfl⟩
        · skip
          refine xr_ic1 dX11_mayBeHeard_58 ?_
          refine xr_goto (tgt := 63) dX11_mayBeHeard_59 (by decide) ?_
          refine xr_zret dX11_mayBeHeard_63 rfl (by first | rfl | decide | assumption) ?_
          exact ⟨by rw [show mbh (nI (0 + 1)) x = bI (¬ x < 1 ∧ ¬ 9 < x) from rfl, bI_t ⟨zc49, zc55⟩], rfl⟩
    · skip
      refine xr_tabIn (tgt := 64) dX11_mayBeHeard_1 (by decide) (by decide) rfl (by decide) ?_
      refine xr_il1 dX11_mayBeHeard_64 ?_
      refine xr_iflt (tgt := 77) dX11_mayBeHeard_65 (by decide) (fun zc65 => ?_) (fun zc65 => ?_)
      · skip
        refine xr_ic0 dX11_mayBeHeard_77 ?_
        refine xr_zret dX11_mayBeHeard_78 rfl (by first | rfl | decide | assumption) ?_
        exact ⟨by rw [show mbh (nI (0 + 2)) x = bI (¬ x < 0 ∧ ¬ 5 ≤ x) from rfl, bI_f (fun q => q.1 zc65)], rfl⟩
      · skip
        refine xr_il1 dX11_mayBeHeard_68 ?_
        refine xr_ic5 dX11_mayBeHeard_69 ?_
        refine xr_icmpge (tgt := 77) dX11_mayBeHeard_70 (by decide) (fun zc70 => ?_) (fun zc70 => ?_)
        · skip
          refine xr_ic0 dX11_mayBeHeard_77 ?_
          refine xr_zret dX11_mayBeHeard_78 rfl (by first | rfl | decide | assumption) ?_
          exact ⟨by rw [show mbh (nI (0 + 2)) x = bI (¬ x < 0 ∧ ¬ 5 ≤ x) from rfl, bI_f (fun q => q.2 zc70)], rfl⟩
        · skip
          refine xr_ic1 dX11_mayBeHeard_73 ?_
          refine xr_goto (tgt := 78) dX11_mayBeHeard_74 (by decide) ?_
          refine xr_zret dX11_mayBeHeard_78 rfl (by first | rfl | decide | assumption) ?_
          exact ⟨by rw [show mbh (nI (0 + 2)) x = bI (¬ x < 0 ∧ ¬ 5 ≤ x) from rfl, bI_t ⟨zc65, zc70⟩], rfl⟩
    · skip
      refine xr_tabIn (tgt := 32) dX11_mayBeHeard_1 (by decide) (by decide) rfl (by decide) ?_
      refine xr_il1 dX11_mayBeHeard_32 ?_
      refine xr_ifeq (tgt := 41) dX11_mayBeHeard_33 (by decide) (fun zc33 => ?_) (fun zc33 => ?_)
      · skip
        refine xr_ic1 dX11_mayBeHeard_41 ?_
        refine xr_goto (tgt := 46) dX11_mayBeHeard_42 (by decide) ?_
        refine xr_zret dX11_mayBeHeard_46 rfl (by first | rfl | decide | assumption) ?_
        exact ⟨by rw [show mbh (nI (0 + 3)) x = bI (x = 0 ∨ x = 1) from rfl, bI_t (Or.inl zc33)], rfl⟩
      · skip
        refine xr_il1 dX11_mayBeHeard_36 ?_
        refine xr_ic1 dX11_mayBeHeard_37 ?_
        refine xr_icmpne (tgt := 45) dX11_mayBeHeard_38 (by decide) (fun zc38 => ?_) (fun zc38 => ?_)
        · skip
          refine xr_ic0 dX11_mayBeHeard_45 ?_
          refine xr_zret dX11_mayBeHeard_46 rfl (by first | rfl | decide | assumption) ?_
          exact ⟨by rw [show mbh (nI (0 + 3)) x = bI (x = 0 ∨ x = 1) from rfl, bI_f (fun q => q.elim zc33 zc38)], rfl⟩
        · skip
          refine xr_ic1 dX11_mayBeHeard_41 ?_
          refine xr_goto (tgt := 46) dX11_mayBeHeard_42 (by decide) ?_
          refine xr_zret dX11_mayBeHeard_46 rfl (by first | rfl | decide | assumption) ?_
          exact ⟨by rw [show mbh (nI (0 + 3)) x = bI (x = 0 ∨ x = 1) from rfl, bI_t (Or.inr zc38)], rfl⟩
def heC (x y : Int32) (n : Nat) : Prop := ¬ mbh x y = 0 ∧ n < 12
set_option maxRecDepth 20000 in
theorem s_heard {K : xK} {B : Nat} {l : Launch} {h0 h : xH} {X D : Nat} {tn : Nat} {tf : Nat → Int32} {rk : Int32} {rv : Nat → Int64} {σ : xs} {β : xs} {γ : xs} {pn : Nat} {τ : Nat → xs} {ks : Nat → Bool} {κ : Nat → xs} {φ : xs → Int32} {hn : Nat} {hf : Nat → Int32} {hg : Nat → Int32} {wn : Nat} {wf : Nat → Int32} {wg : Nat → Int32} (W : xCw K h0 h X D tn tf rk rv σ β γ pn τ ks κ φ hn hf hg wn wf wg) (x y : Int32) : xV K B l 1 mX11_heard 0 0 (X) [.int x, .int y] h (xPi (fun zr g => zr = (if ¬ mbh x y = 0 ∧ hn < 12 then nI (hn + 1) else -1) ∧ xCw K h0 g X D tn tf rk rv σ β γ pn τ ks κ φ (if ¬ mbh x y = 0 ∧ hn < 12 then hn + 1 else hn) (if ¬ mbh x y = 0 ∧ hn < 12 then upd hf hn x else hf) (if ¬ mbh x y = 0 ∧ hn < 12 then upd hg hn y else hg) wn wf wg)) := by
  refine ⟨⟨_, _, _, _, W.oX, rfl⟩, qX11_heard, ?_⟩
  refine xS.intro RX11 false ⟨rfl, rfl, by decide, by decide, Nat.le_of_ble_eq_true rfl⟩ (ls := [some (.ref X), some (.int x), some (.int y)]) rfl ?_
  refine xr_il1 dX11_heard_0 ?_
  refine xr_il2 dX11_heard_1 ?_
  refine xr_Si2 (s_mayHeard _ _) kX11_374 (by decide) (Nat.le_of_ble_eq_true rfl) (Nat.zero_add _) (Nat.zero_add _) dX11_heard_2 ?_
  refine xr_ifne (tgt := 10) dX11_heard_5 (by decide) (fun zc5 => ?_) (fun zc5 => ?_)
  · skip
    refine xr_al0 dX11_heard_10 ?_
    refine xr_get W.oX fX11_69 rfl dX11_heard_11 ?_
    refine xr_il1 dX11_heard_14 ?_
    refine xr_il2 dX11_heard_15 ?_
    refine xr_Vi2 (s_heAdd W.He W.ph.1 _ _) kX11_377 (by decide) (Nat.le_of_ble_eq_true rfl) (Nat.zero_add _) (Nat.zero_add _) dX11_heard_16 ?_
    refine xT.nm (fun zh1 zg1 => ?_)
    have ph := W.ph
    refine xr_ifeq (tgt := 32) dX11_heard_19 (by decide) (fun zc19 => ?_) (fun zc19 => ?_)
    · skip
      have n12 : ¬ hn < 12 := bI_0.mp zc19
      refine xr_icm1 dX11_heard_32 ?_
      refine xr_iret dX11_heard_33 rfl ?_
      refine ⟨_, rfl, (if_neg (fun q => n12 q.2)).symm, ?_⟩
      rw [if_neg (fun q => n12 q.2), if_neg (fun q => n12 q.2), if_neg (fun q => n12 q.2)]
      rw [if_neg n12] at zg1
      rw [zg1]
      exact W
    · skip
      have n12 : hn < 12 := (Decidable.not_not.mp (fun q => zc19 (bI_0.mpr q)))
      rw [if_pos n12] at zg1
      have W := W.ue (fB3 zg1) ⟨by omega, fun i hi => by
        by_cases q : i = hn
        · subst q
          rw [pk_us]
          exact mbh_in zc5
        · rw [upd_hi _ _ q]
          exact ph.2 i (by omega)⟩
      refine xr_al0 dX11_heard_22 ?_
      refine xr_get W.oX fX11_69 rfl dX11_heard_23 ?_
      refine xr_Vi0 (s_heSize W.He) kX11_380 (by decide) (Nat.le_of_ble_eq_true rfl) (Nat.zero_add _) (Nat.zero_add _) dX11_heard_26 ?_
      refine xr_goto (tgt := 33) dX11_heard_29 (by decide) ?_
      refine xr_iret dX11_heard_33 rfl ?_
      refine ⟨_, rfl, (if_pos ⟨zc5, n12⟩).symm, ?_⟩
      rw [if_pos ⟨zc5, n12⟩, if_pos ⟨zc5, n12⟩, if_pos ⟨zc5, n12⟩]
      exact W
  · skip
    refine xr_icm1 dX11_heard_8 ?_
    refine xr_iret dX11_heard_9 rfl ?_
    refine ⟨_, rfl, (if_neg (fun q => q.1 zc5)).symm, ?_⟩
    rw [if_neg (fun q => q.1 zc5), if_neg (fun q => q.1 zc5), if_neg (fun q => q.1 zc5)]
    exact W
set_option maxRecDepth 20000 in
theorem s_forget {K : xK} {B : Nat} {l : Launch} {h0 h : xH} {X D : Nat} {tn : Nat} {tf : Nat → Int32} {rk : Int32} {rv : Nat → Int64} {σ : xs} {β : xs} {γ : xs} {pn : Nat} {τ : Nat → xs} {ks : Nat → Bool} {κ : Nat → xs} {φ : xs → Int32} {hn : Nat} {hf : Nat → Int32} {hg : Nat → Int32} {wn : Nat} {wf : Nat → Int32} {wg : Nat → Int32} (W : xCw K h0 h X D tn tf rk rv σ β γ pn τ ks κ φ hn hf hg wn wf wg) : xV K B l 1 mX11_forget 0 0 (X) [] h (xPi (fun zr g => zr = nI hn ∧ xCw K h0 g X D tn tf rk rv σ β γ pn τ ks κ φ 0 hf hg wn wf wg)) := by
  refine ⟨⟨_, _, _, _, W.oX, rfl⟩, qX11_forget, ?_⟩
  refine xS.intro RX11 false ⟨rfl, rfl, by decide, by decide, Nat.le_of_ble_eq_true rfl⟩ (ls := [some (.ref X)]) rfl ?_
  refine xr_al0 dX11_forget_0 ?_
  refine xr_get W.oX fX11_69 rfl dX11_forget_1 ?_
  refine xr_Vi0 (s_heClear W.He) kX11_381 (by decide) (Nat.le_of_ble_eq_true rfl) (Nat.zero_add _) (Nat.zero_add _) dX11_forget_4 ?_
  refine xT.nm (fun zh1 zg1 => ?_)
  have W := W.ue (hn' := 0) (fB3 zg1) ⟨by decide, fun i hi => absurd hi (by omega)⟩
  refine xr_iret dX11_forget_7 rfl ?_
  exact ⟨_, rfl, rfl, W⟩
def foN (σ : xs) (f g : Nat → Int32) : Nat → Int32
  | 0 => hAll σ 0 ||| hAll σ 1 <<< ((5 : Int32) &&& 31)
  | k + 1 => foN σ f g k &&& hSuch σ (f k) (g k)
theorem foN_s (σ : xs) (f g : Nat → Int32) (k : Nat) : foN σ f g (k + 1) = foN σ f g k &&& hSuch σ (f k) (g k) := rfl
set_option maxRecDepth 20000 in
theorem lp_fittingOf {K : xK} {B : Nat} {l : Launch} {h : xH} {a b : Nat} {f g : Nat → Int32} {n : Nat} {σ : xs} (H : X3 h a (heO a (nI n)) (iA K 12 f) (iA K 12 g)) (G : xHill K h b σ) (ok : hOk σ) (hn : n ≤ 12) (hf : ∀ i, i < n → f i = 0 ∨ f i = 1 ∨ f i = 2 ∨ f i = 3) : ∀ (r k : Nat), k + r = n → xT K B l 5 RX2 false cX2_fittingOf 4 (some .int) 0 0 0 0 (xQi (foN σ f g n) h) 16 [some (.ref a), some (.ref b), some (.int (foN σ f g k)), some (.int (nI k))] [] h := by
  obtain ⟨o0, o1, o2⟩ := id H
  intro r
  induction r with
  | zero =>
    intro k hk
    have hk' : k = n := hk
    refine xr_il3 dX2_fittingOf_16 ?_
    refine xr_al0 dX2_fittingOf_17 ?_
    refine xr_get o0 fX2_18 rfl dX2_fittingOf_18 ?_
    refine xr_icmpge (tgt := 55) dX2_fittingOf_21 (by decide) (fun zc21 => ?_) (fun zc21 => ?_)
    · skip
      refine xr_il2 dX2_fittingOf_55 ?_
      refine xr_iret dX2_fittingOf_56 rfl ?_
      exact ⟨by rw [hk'], rfl⟩
    · skip
      exact absurd (nI_le (by omega) (by omega)) zc21
  | succ r ih =>
    intro k hk
    have hk5 : k < n := by omega
    refine xr_il3 dX2_fittingOf_16 ?_
    refine xr_al0 dX2_fittingOf_17 ?_
    refine xr_get o0 fX2_18 rfl dX2_fittingOf_18 ?_
    refine xr_icmpge (tgt := 55) dX2_fittingOf_21 (by decide) (fun zc21 => ?_) (fun zc21 => ?_)
    · skip
      exact absurd zc21 (nI_ge (by omega) (by omega))
    · skip
      refine xr_il3 dX2_fittingOf_24 ?_
      refine xr_bipush (v := 12) dX2_fittingOf_25 (by decide) ?_
      refine xr_icmpge (tgt := 55) dX2_fittingOf_27 (by decide) (fun zc27 => ?_) (fun zc27 => ?_)
      · skip
        exact absurd zc27 (nI_ge (b := 12) (by omega) (by decide))
      · skip
        refine xr_il2 dX2_fittingOf_30 ?_
        refine xr_al1 dX2_fittingOf_31 ?_
        refine xr_al0 dX2_fittingOf_32 ?_
        refine xr_get o0 fX2_11 rfl dX2_fittingOf_33 ?_
        refine xr_il3 dX2_fittingOf_36 ?_
        refine xr_iald o1 (xix_nI (n := 12) (by omega) (by decide)) dX2_fittingOf_37 ?_
        refine xr_al0 dX2_fittingOf_38 ?_
        refine xr_get o0 fX2_15 rfl dX2_fittingOf_39 ?_
        refine xr_il3 dX2_fittingOf_42 ?_
        refine xr_iald o2 (xix_nI (n := 12) (by omega) (by decide)) dX2_fittingOf_43 ?_
        refine xr_Vi2 (s_suchAs G ok (hf k hk5)) kX2_28 (by decide) (Nat.le_of_ble_eq_true rfl) (Nat.zero_add _) (Nat.zero_add _) dX2_fittingOf_44 ?_
        refine xr_iand dX2_fittingOf_47 ?_
        refine xr_is2 dX2_fittingOf_48 (by decide) rfl ?_
        refine xr_inc3 dX2_fittingOf_49 (nI_inc k) (by decide) rfl ?_
        refine xr_goto (tgt := 16) dX2_fittingOf_52 (by decide) ?_
        have hi := ih (k + 1) (by omega)
        rw [foN_s] at hi
        exact hi
set_option maxRecDepth 20000 in
theorem s_fittingOf {K : xK} {B : Nat} {l : Launch} {h : xH} {a b : Nat} {f g : Nat → Int32} {n : Nat} {σ : xs} (H : X3 h a (heO a (nI n)) (iA K 12 f) (iA K 12 g)) (G : xHill K h b σ) (ok : hOk σ) (hn : n ≤ 12) (hf : ∀ i, i < n → f i = 0 ∨ f i = 1 ∨ f i = 2 ∨ f i = 3) : xV K B l 5 mX2_fittingOf 0 0 (a) [.ref b] h (xQi (foN σ f g n) h) := by
  obtain ⟨o0, o1, o2⟩ := id H
  refine ⟨⟨_, _, _, _, H.1, rfl⟩, qX2_fittingOf, ?_⟩
  refine xS.intro RX2 false ⟨rfl, rfl, by decide, by decide, Nat.le_of_ble_eq_true rfl⟩ (ls := [some (.ref a), some (.ref b), none, none]) rfl ?_
  refine xr_al1 dX2_fittingOf_0 ?_
  refine xr_ic0 dX2_fittingOf_1 ?_
  refine xr_Vi1 (s_allOf G _) kX2_22 (by decide) (Nat.le_of_ble_eq_true rfl) (Nat.zero_add _) (Nat.zero_add _) dX2_fittingOf_2 ?_
  refine xr_al1 dX2_fittingOf_5 ?_
  refine xr_ic1 dX2_fittingOf_6 ?_
  refine xr_Vi1 (s_allOf G _) kX2_22 (by decide) (Nat.le_of_ble_eq_true rfl) (Nat.zero_add _) (Nat.zero_add _) dX2_fittingOf_7 ?_
  refine xr_ic5 dX2_fittingOf_10 ?_
  refine xr_ishl dX2_fittingOf_11 ?_
  refine xr_ior dX2_fittingOf_12 ?_
  refine xr_is2 dX2_fittingOf_13 (by decide) rfl ?_
  refine xr_ic0 dX2_fittingOf_14 ?_
  refine xr_is3 dX2_fittingOf_15 (by decide) rfl ?_
  exact lp_fittingOf H G ok hn hf n 0 (by omega)
set_option maxRecDepth 20000 in
theorem s_fits {K : xK} {B : Nat} {l : Launch} {h0 h : xH} {X D : Nat} {tn : Nat} {tf : Nat → Int32} {rk : Int32} {rv : Nat → Int64} {σ : xs} {β : xs} {γ : xs} {pn : Nat} {τ : Nat → xs} {ks : Nat → Bool} {κ : Nat → xs} {φ : xs → Int32} {hn : Nat} {hf : Nat → Int32} {hg : Nat → Int32} {wn : Nat} {wf : Nat → Int32} {wg : Nat → Int32} (W : xCw K h0 h X D tn tf rk rv σ β γ pn τ ks κ φ hn hf hg wn wf wg) : xV K B l 6 mX11_fits 0 0 (X) [] h (xPi (fun zr g => zr = foN σ hf hg hn ∧ xCw K h0 g X D tn tf 1 (tl1 rv (bc (foN σ hf hg hn))) σ β γ pn τ ks κ φ hn hf hg wn wf wg)) := by
  refine ⟨⟨_, _, _, _, W.oX, rfl⟩, qX11_fits, ?_⟩
  refine xS.intro RX11 false ⟨rfl, rfl, by decide, by decide, Nat.le_of_ble_eq_true rfl⟩ (ls := [some (.ref X), none]) rfl ?_
  refine xr_al0 dX11_fits_0 ?_
  refine xr_get W.oX fX11_69 rfl dX11_fits_1 ?_
  refine xr_al0 dX11_fits_4 ?_
  refine xr_get W.oX fX11_26 rfl dX11_fits_5 ?_
  refine xr_Vi1 (s_fittingOf W.He W.Hh W.pok W.ph.1 W.ph.2) kX11_383 (by decide) (Nat.le_of_ble_eq_true rfl) (Nat.zero_add _) (Nat.zero_add _) dX11_fits_8 ?_
  refine xr_is1 dX11_fits_11 (by decide) rfl ?_
  refine xr_al0 dX11_fits_12 ?_
  refine xr_get W.oX fX11_19 rfl dX11_fits_13 ?_
  refine xr_il1 dX11_fits_16 ?_
  refine xr_Si1 (s_bitCount _) kX11_240 (by decide) (Nat.le_of_ble_eq_true rfl) (Nat.zero_add _) (Nat.zero_add _) dX11_fits_17 ?_
  refine xr_i2l dX11_fits_20 ?_
  refine xr_Vv1 (s_tell1 W.Hr _) kX11_302 (by decide) (Nat.le_of_ble_eq_true rfl) (Nat.zero_add _) (Nat.zero_add _) dX11_fits_21 ?_
  refine xT.nm (fun zh1 zg1 => ?_)
  have W := W.ur (fB2 zg1)
  refine xr_il1 dX11_fits_24 ?_
  refine xr_iret dX11_fits_25 rfl ?_
  exact ⟨_, rfl, rfl, W⟩
def aq1 (σ : xs) (fi : Int32) (k : Nat) (z : Int32 × Int32) : Int32 × Int32 := if mbh (nI k / 10) (remI (nI k) 10) = 0 then z else if iMax (bc (fi &&& hSuch σ (nI k / 10) (remI (nI k) 10))) (bc fi - bc (fi &&& hSuch σ (nI k / 10) (remI (nI k) 10))) < z.1 then (iMax (bc (fi &&& hSuch σ (nI k / 10) (remI (nI k) 10))) (bc fi - bc (fi &&& hSuch σ (nI k / 10) (remI (nI k) 10))), nI k) else z
def aqN (σ : xs) (fi : Int32) : Nat → Nat → Int32 × Int32 → Int32 × Int32
  | 0, _, z => z
  | r + 1, k, z => aqN σ fi r (k + 1) (aq1 σ fi k z)
theorem aqN_s (σ : xs) (fi : Int32) (r k : Nat) (z : Int32 × Int32) : aqN σ fi (r + 1) k z = aqN σ fi r (k + 1) (aq1 σ fi k z) := rfl
def aqE (rv : Nat → Int64) (z : Int32 × Int32) : AR := (z.2, 1, tl1 rv z.1)
def aqR (σ : xs) (rk : Int32) (rv : Nat → Int64) (fi : Int32) : AR := if fi = 0 then (-2, rk, rv) else aqE rv (aqN σ fi 40 0 (1048576, 0))
set_option maxRecDepth 20000 in
theorem lp_asks {K : xK} {B : Nat} {l : Launch} {h0 : xH} {X D : Nat} {tn : Nat} {tf : Nat → Int32} {rk : Int32} {rv : Nat → Int64} {σ : xs} {β : xs} {γ : xs} {pn : Nat} {τ : Nat → xs} {ks : Nat → Bool} {κ : Nat → xs} {φ : xs → Int32} {hn : Nat} {hf : Nat → Int32} {hg : Nat → Int32} {wn : Nat} {wf : Nat → Int32} {wg : Nat → Int32} (fi : Int32) : ∀ (r : Nat) (k : Nat) (z : Int32 × Int32) (y6 y7 : Option Value) {h : xH}  (W : xCw K h0 h X D tn tf rk rv σ β γ pn τ ks κ φ hn hf hg wn wf wg), k + r = 40 → xT K B l 6 RX11 false cX11_asks 8 (some .int) 0 0 0 0 (xPi (fun zr g => zr = (aqE rv (aqN σ fi r k z)).1 ∧ xCw K h0 g X D tn tf ((aqE rv (aqN σ fi r k z)).2.1) ((aqE rv (aqN σ fi r k z)).2.2) σ β γ pn τ ks κ φ hn hf hg wn wf wg)) 34 [some (.ref X), some (.int fi), some (.int (bc fi)), some (.int z.1), some (.int z.2), some (.int (nI k)), y6, y7] [] h := by
  intro r
  induction r with
  | zero =>
    intro k z y6 y7 h  W hk
    refine xr_il5 dX11_asks_34 ?_
    refine xr_bipush (v := 40) dX11_asks_36 (by decide) ?_
    refine xr_icmpge (tgt := 111) dX11_asks_38 (by decide) (fun zc38 => ?_) (fun zc38 => ?_)
    · skip
      refine xr_al0 dX11_asks_111 ?_
      refine xr_get W.oX fX11_19 rfl dX11_asks_112 ?_
      refine xr_il3 dX11_asks_115 ?_
      refine xr_i2l dX11_asks_116 ?_
      refine xr_Vv1 (s_tell1 W.Hr _) kX11_302 (by decide) (Nat.le_of_ble_eq_true rfl) (Nat.zero_add _) (Nat.zero_add _) dX11_asks_117 ?_
      refine xT.nm (fun zh1 zg1 => ?_)
      have W := W.ur (fB2 zg1)
      refine xr_il4 dX11_asks_120 ?_
      refine xr_iret dX11_asks_122 rfl ?_
      exact ⟨_, rfl, rfl, W⟩
    · skip
      exact absurd (nI_le (a := 40) (by omega) (by omega)) zc38
  | succ r ih =>
    intro k z y6 y7 h  W hk
    refine xr_il5 dX11_asks_34 ?_
    refine xr_bipush (v := 40) dX11_asks_36 (by decide) ?_
    refine xr_icmpge (tgt := 111) dX11_asks_38 (by decide) (fun zc38 => ?_) (fun zc38 => ?_)
    · skip
      exact absurd zc38 (nI_ge (b := 40) (by omega) (by decide))
    · skip
      refine xr_il5 dX11_asks_41 ?_
      refine xr_bipush (v := 10) dX11_asks_43 (by decide) ?_
      refine xr_idiv dX11_asks_45 (by decide) ?_
      refine xr_il5 dX11_asks_46 ?_
      refine xr_bipush (v := 10) dX11_asks_48 (by decide) ?_
      refine xr_irem dX11_asks_50 (by decide) ?_
      refine xr_Si2 (s_mayHeard _ _) kX11_374 (by decide) (Nat.le_of_ble_eq_true rfl) (Nat.zero_add _) (Nat.zero_add _) dX11_asks_51 ?_
      refine xr_ifeq (tgt := 105) dX11_asks_54 (by decide) (fun zc54 => ?_) (fun zc54 => ?_)
      · skip
        refine xr_inc5 dX11_asks_105 (nI_inc k) (by decide) rfl ?_
        refine xr_goto (tgt := 34) dX11_asks_108 (by decide) ?_
        have e : aq1 σ fi k z = _ := if_pos zc54
        rw [aqN_s, e]
        exact ih (k + 1) _ _ _ W (by omega)
      · skip
        refine xr_il1 dX11_asks_57 ?_
        refine xr_al0 dX11_asks_58 ?_
        refine xr_get W.oX fX11_26 rfl dX11_asks_59 ?_
        refine xr_il5 dX11_asks_62 ?_
        refine xr_bipush (v := 10) dX11_asks_64 (by decide) ?_
        refine xr_idiv dX11_asks_66 (by decide) ?_
        refine xr_il5 dX11_asks_67 ?_
        refine xr_bipush (v := 10) dX11_asks_69 (by decide) ?_
        refine xr_irem dX11_asks_71 (by decide) ?_
        refine xr_Vi2 (s_suchAs W.Hh W.pok (mbh_in zc54)) kX11_386 (by decide) (Nat.le_of_ble_eq_true rfl) (Nat.zero_add _) (Nat.zero_add _) dX11_asks_72 ?_
        refine xr_iand dX11_asks_75 ?_
        refine xr_Si1 (s_bitCount _) kX11_240 (by decide) (Nat.le_of_ble_eq_true rfl) (Nat.zero_add _) (Nat.zero_add _) dX11_asks_76 ?_
        refine xr_is6 dX11_asks_79 (by decide) rfl ?_
        refine xr_il6 dX11_asks_81 ?_
        refine xr_il2 dX11_asks_83 ?_
        refine xr_il6 dX11_asks_84 ?_
        refine xr_isub dX11_asks_86 ?_
        refine xr_max kmX11_176 ms_max wz_J9 mc_max (by decide) (Nat.le_of_ble_eq_true rfl) dX11_asks_87 ?_
        refine xr_is7 dX11_asks_90 (by decide) rfl ?_
        refine xr_il7 dX11_asks_92 ?_
        refine xr_il3 dX11_asks_94 ?_
        refine xr_icmpge (tgt := 105) dX11_asks_95 (by decide) (fun zc95 => ?_) (fun zc95 => ?_)
        · skip
          refine xr_inc5 dX11_asks_105 (nI_inc k) (by decide) rfl ?_
          refine xr_goto (tgt := 34) dX11_asks_108 (by decide) ?_
          have e : aq1 σ fi k z = _ := (if_neg zc54).trans (if_neg (Int32.not_lt.mpr zc95))
          rw [aqN_s, e]
          exact ih (k + 1) _ _ _ W (by omega)
        · skip
          refine xr_il7 dX11_asks_98 ?_
          refine xr_is3 dX11_asks_100 (by decide) rfl ?_
          refine xr_il5 dX11_asks_101 ?_
          refine xr_is4 dX11_asks_103 (by decide) rfl ?_
          refine xr_inc5 dX11_asks_105 (nI_inc k) (by decide) rfl ?_
          refine xr_goto (tgt := 34) dX11_asks_108 (by decide) ?_
          have e : aq1 σ fi k z = _ := (if_neg zc54).trans (if_pos (Int32.not_le.mp zc95))
          rw [aqN_s, e]
          exact ih (k + 1) _ _ _ W (by omega)
set_option maxRecDepth 20000 in
theorem s_asks {K : xK} {B : Nat} {l : Launch} {h0 h : xH} {X D : Nat} {tn : Nat} {tf : Nat → Int32} {rk : Int32} {rv : Nat → Int64} {σ : xs} {β : xs} {γ : xs} {pn : Nat} {τ : Nat → xs} {ks : Nat → Bool} {κ : Nat → xs} {φ : xs → Int32} {hn : Nat} {hf : Nat → Int32} {hg : Nat → Int32} {wn : Nat} {wf : Nat → Int32} {wg : Nat → Int32} (W : xCw K h0 h X D tn tf rk rv σ β γ pn τ ks κ φ hn hf hg wn wf wg) : xV K B l 6 mX11_asks 0 0 (X) [] h (xPi (fun zr g => zr = (aqR σ rk rv (foN σ hf hg hn)).1 ∧ xCw K h0 g X D tn tf ((aqR σ rk rv (foN σ hf hg hn)).2.1) ((aqR σ rk rv (foN σ hf hg hn)).2.2) σ β γ pn τ ks κ φ hn hf hg wn wf wg)) := by
  refine ⟨⟨_, _, _, _, W.oX, rfl⟩, qX11_asks, ?_⟩
  refine xS.intro RX11 false ⟨rfl, rfl, by decide, by decide, Nat.le_of_ble_eq_true rfl⟩ (ls := [some (.ref X), none, none, none, none, none, none, none]) rfl ?_
  refine xr_al0 dX11_asks_0 ?_
  refine xr_get W.oX fX11_69 rfl dX11_asks_1 ?_
  refine xr_al0 dX11_asks_4 ?_
  refine xr_get W.oX fX11_26 rfl dX11_asks_5 ?_
  refine xr_Vi1 (s_fittingOf W.He W.Hh W.pok W.ph.1 W.ph.2) kX11_383 (by decide) (Nat.le_of_ble_eq_true rfl) (Nat.zero_add _) (Nat.zero_add _) dX11_asks_8 ?_
  refine xr_is1 dX11_asks_11 (by decide) rfl ?_
  refine xr_il1 dX11_asks_12 ?_
  refine xr_ifne (tgt := 19) dX11_asks_13 (by decide) (fun zc13 => ?_) (fun zc13 => ?_)
  · skip
    refine xr_il1 dX11_asks_19 ?_
    refine xr_Si1 (s_bitCount _) kX11_240 (by decide) (Nat.le_of_ble_eq_true rfl) (Nat.zero_add _) (Nat.zero_add _) dX11_asks_20 ?_
    refine xr_is2 dX11_asks_23 (by decide) rfl ?_
    refine xr_ldcw nX11_339 dX11_asks_24 ?_
    refine xr_is3 dX11_asks_27 (by decide) rfl ?_
    refine xr_ic0 dX11_asks_28 ?_
    refine xr_is4 dX11_asks_29 (by decide) rfl ?_
    refine xr_ic0 dX11_asks_31 ?_
    refine xr_is5 dX11_asks_32 (by decide) rfl ?_
    have e : (aqR σ rk rv (foN σ hf hg hn)) = _ := if_neg zc13
    rw [e]
    have hi := lp_asks (B := B) (l := l) (foN σ hf hg hn) 40 0 (1048576, 0) none none W (by omega)
    exact hi
  · skip
    refine xr_bipush (v := (-2)) dX11_asks_16 (by decide) ?_
    refine xr_iret dX11_asks_18 rfl ?_
    have e : (aqR σ rk rv (foN σ hf hg hn)) = _ := if_pos zc13
    rw [e]
    exact ⟨_, rfl, rfl, W⟩
set_option maxRecDepth 20000 in
theorem s_saw {K : xK} {B : Nat} {l : Launch} {h0 h : xH} {X D : Nat} {tn : Nat} {tf : Nat → Int32} {rk : Int32} {rv : Nat → Int64} {σ : xs} {β : xs} {γ : xs} {pn : Nat} {τ : Nat → xs} {ks : Nat → Bool} {κ : Nat → xs} {φ : xs → Int32} {hn : Nat} {hf : Nat → Int32} {hg : Nat → Int32} {wn : Nat} {wf : Nat → Int32} {wg : Nat → Int32} (W : xCw K h0 h X D tn tf rk rv σ β γ pn τ ks κ φ hn hf hg wn wf wg) (x y z : Int32) : xV K B l 1 mX11_saw 0 0 (X) [.int x, .int y, .int z] h (xPi (fun zr g => zr = (if ((¬ x < 0 ∧ ¬ 30 < x) ∧ (¬ y < 0 ∧ ¬ 30 < y) ∧ ¬ z < 0 ∧ z ≤ 1) ∧ wn < 10 then nI (wn + 1) else -1) ∧ xCw K h0 g X D tn tf rk rv σ β γ pn τ ks κ φ hn hf hg (if ((¬ x < 0 ∧ ¬ 30 < x) ∧ (¬ y < 0 ∧ ¬ 30 < y) ∧ ¬ z < 0 ∧ z ≤ 1) ∧ wn < 10 then wn + 1 else wn) (if ((¬ x < 0 ∧ ¬ 30 < x) ∧ (¬ y < 0 ∧ ¬ 30 < y) ∧ ¬ z < 0 ∧ z ≤ 1) ∧ wn < 10 then upd wf wn (x - y) else wf) (if ((¬ x < 0 ∧ ¬ 30 < x) ∧ (¬ y < 0 ∧ ¬ 30 < y) ∧ ¬ z < 0 ∧ z ≤ 1) ∧ wn < 10 then upd wg wn (vp_nar .boolean (bI (z = 1))) else wg))) := by
  refine ⟨⟨_, _, _, _, W.oX, rfl⟩, qX11_saw, ?_⟩
  refine xS.intro RX11 false ⟨rfl, rfl, by decide, by decide, Nat.le_of_ble_eq_true rfl⟩ (ls := [some (.ref X), some (.int x), some (.int y), some (.int z)]) rfl ?_
  refine xr_il1 dX11_saw_0 ?_
  refine xr_iflt (tgt := 29) dX11_saw_1 (by decide) (fun zc1 => ?_) (fun zc1 => ?_)
  · skip
    refine xr_icm1 dX11_saw_29 ?_
    refine xr_iret dX11_saw_30 rfl ?_
    refine ⟨_, rfl, (if_neg (fun q => q.1.1.1 zc1)).symm, ?_⟩
    rw [if_neg (fun q => q.1.1.1 zc1), if_neg (fun q => q.1.1.1 zc1), if_neg (fun q => q.1.1.1 zc1)]
    exact W
  · skip
    refine xr_il1 dX11_saw_4 ?_
    refine xr_bipush (v := 30) dX11_saw_5 (by decide) ?_
    refine xr_icmpgt (tgt := 29) dX11_saw_7 (by decide) (fun zc7 => ?_) (fun zc7 => ?_)
    · skip
      refine xr_icm1 dX11_saw_29 ?_
      refine xr_iret dX11_saw_30 rfl ?_
      refine ⟨_, rfl, (if_neg (fun q => q.1.1.2 zc7)).symm, ?_⟩
      rw [if_neg (fun q => q.1.1.2 zc7), if_neg (fun q => q.1.1.2 zc7), if_neg (fun q => q.1.1.2 zc7)]
      exact W
    · skip
      refine xr_il2 dX11_saw_10 ?_
      refine xr_iflt (tgt := 29) dX11_saw_11 (by decide) (fun zc11 => ?_) (fun zc11 => ?_)
      · skip
        refine xr_icm1 dX11_saw_29 ?_
        refine xr_iret dX11_saw_30 rfl ?_
        refine ⟨_, rfl, (if_neg (fun q => q.1.2.1.1 zc11)).symm, ?_⟩
        rw [if_neg (fun q => q.1.2.1.1 zc11), if_neg (fun q => q.1.2.1.1 zc11), if_neg (fun q => q.1.2.1.1 zc11)]
        exact W
      · skip
        refine xr_il2 dX11_saw_14 ?_
        refine xr_bipush (v := 30) dX11_saw_15 (by decide) ?_
        refine xr_icmpgt (tgt := 29) dX11_saw_17 (by decide) (fun zc17 => ?_) (fun zc17 => ?_)
        · skip
          refine xr_icm1 dX11_saw_29 ?_
          refine xr_iret dX11_saw_30 rfl ?_
          refine ⟨_, rfl, (if_neg (fun q => q.1.2.1.2 zc17)).symm, ?_⟩
          rw [if_neg (fun q => q.1.2.1.2 zc17), if_neg (fun q => q.1.2.1.2 zc17), if_neg (fun q => q.1.2.1.2 zc17)]
          exact W
        · skip
          refine xr_il3 dX11_saw_20 ?_
          refine xr_iflt (tgt := 29) dX11_saw_21 (by decide) (fun zc21 => ?_) (fun zc21 => ?_)
          · skip
            refine xr_icm1 dX11_saw_29 ?_
            refine xr_iret dX11_saw_30 rfl ?_
            refine ⟨_, rfl, (if_neg (fun q => q.1.2.2.1 zc21)).symm, ?_⟩
            rw [if_neg (fun q => q.1.2.2.1 zc21), if_neg (fun q => q.1.2.2.1 zc21), if_neg (fun q => q.1.2.2.1 zc21)]
            exact W
          · skip
            refine xr_il3 dX11_saw_24 ?_
            refine xr_ic1 dX11_saw_25 ?_
            refine xr_icmple (tgt := 31) dX11_saw_26 (by decide) (fun zc26 => ?_) (fun zc26 => ?_)
            · skip
              refine xr_al0 dX11_saw_31 ?_
              refine xr_get W.oX fX11_76 rfl dX11_saw_32 ?_
              refine xr_il1 dX11_saw_35 ?_
              refine xr_il2 dX11_saw_36 ?_
              refine xr_isub dX11_saw_37 ?_
              refine xr_il3 dX11_saw_38 ?_
              refine xr_ic1 dX11_saw_39 ?_
              refine xr_icmpne (tgt := 47) dX11_saw_40 (by decide) (fun zc40 => ?_) (fun zc40 => ?_)
              · skip
                refine xr_ic0 dX11_saw_47 ?_
                refine xr_Vi2 (s_siAdd W.Hi W.pw _ _) kX11_389 (by decide) (Nat.le_of_ble_eq_true rfl) (Nat.zero_add _) (Nat.zero_add _) dX11_saw_48 ?_
                refine xT.nm (fun zh1 zg1 => ?_)
                have pw := W.pw
                refine xr_ifeq (tgt := 64) dX11_saw_51 (by decide) (fun zc51 => ?_) (fun zc51 => ?_)
                · skip
                  have n10 : ¬ wn < 10 := bI_0.mp zc51
                  refine xr_icm1 dX11_saw_64 ?_
                  refine xr_iret dX11_saw_65 rfl ?_
                  refine ⟨_, rfl, (if_neg (fun q => n10 q.2)).symm, ?_⟩
                  rw [if_neg (fun q => n10 q.2), if_neg (fun q => n10 q.2), if_neg (fun q => n10 q.2)]
                  rw [if_neg n10] at zg1
                  rw [zg1]
                  exact W
                · skip
                  have n10 : wn < 10 := (Decidable.not_not.mp (fun q => zc51 (bI_0.mpr q)))
                  rw [if_pos n10] at zg1
                  have W := W.ui (fB3 zg1) (by omega)
                  refine xr_al0 dX11_saw_54 ?_
                  refine xr_get W.oX fX11_76 rfl dX11_saw_55 ?_
                  refine xr_Vi0 (s_siSize W.Hi) kX11_392 (by decide) (Nat.le_of_ble_eq_true rfl) (Nat.zero_add _) (Nat.zero_add _) dX11_saw_58 ?_
                  refine xr_goto (tgt := 65) dX11_saw_61 (by decide) ?_
                  refine xr_iret dX11_saw_65 rfl ?_
                  have zb : bI (z = 1) = _ := bI_f zc40
                  refine ⟨_, rfl, (if_pos ⟨⟨⟨zc1, zc7⟩, ⟨zc11, zc17⟩, zc21, zc26⟩, n10⟩).symm, ?_⟩
                  rw [if_pos ⟨⟨⟨zc1, zc7⟩, ⟨zc11, zc17⟩, zc21, zc26⟩, n10⟩, if_pos ⟨⟨⟨zc1, zc7⟩, ⟨zc11, zc17⟩, zc21, zc26⟩, n10⟩, if_pos ⟨⟨⟨zc1, zc7⟩, ⟨zc11, zc17⟩, zc21, zc26⟩, n10⟩, zb]
                  exact W
              · skip
                refine xr_ic1 dX11_saw_43 ?_
                refine xr_goto (tgt := 48) dX11_saw_44 (by decide) ?_
                refine xr_Vi2 (s_siAdd W.Hi W.pw _ _) kX11_389 (by decide) (Nat.le_of_ble_eq_true rfl) (Nat.zero_add _) (Nat.zero_add _) dX11_saw_48 ?_
                refine xT.nm (fun zh1 zg1 => ?_)
                have pw := W.pw
                refine xr_ifeq (tgt := 64) dX11_saw_51 (by decide) (fun zc51 => ?_) (fun zc51 => ?_)
                · skip
                  have n10 : ¬ wn < 10 := bI_0.mp zc51
                  refine xr_icm1 dX11_saw_64 ?_
                  refine xr_iret dX11_saw_65 rfl ?_
                  refine ⟨_, rfl, (if_neg (fun q => n10 q.2)).symm, ?_⟩
                  rw [if_neg (fun q => n10 q.2), if_neg (fun q => n10 q.2), if_neg (fun q => n10 q.2)]
                  rw [if_neg n10] at zg1
                  rw [zg1]
                  exact W
                · skip
                  have n10 : wn < 10 := (Decidable.not_not.mp (fun q => zc51 (bI_0.mpr q)))
                  rw [if_pos n10] at zg1
                  have W := W.ui (fB3 zg1) (by omega)
                  refine xr_al0 dX11_saw_54 ?_
                  refine xr_get W.oX fX11_76 rfl dX11_saw_55 ?_
                  refine xr_Vi0 (s_siSize W.Hi) kX11_392 (by decide) (Nat.le_of_ble_eq_true rfl) (Nat.zero_add _) (Nat.zero_add _) dX11_saw_58 ?_
                  refine xr_goto (tgt := 65) dX11_saw_61 (by decide) ?_
                  refine xr_iret dX11_saw_65 rfl ?_
                  have zb : bI (z = 1) = _ := bI_t zc40
                  refine ⟨_, rfl, (if_pos ⟨⟨⟨zc1, zc7⟩, ⟨zc11, zc17⟩, zc21, zc26⟩, n10⟩).symm, ?_⟩
                  rw [if_pos ⟨⟨⟨zc1, zc7⟩, ⟨zc11, zc17⟩, zc21, zc26⟩, n10⟩, if_pos ⟨⟨⟨zc1, zc7⟩, ⟨zc11, zc17⟩, zc21, zc26⟩, n10⟩, if_pos ⟨⟨⟨zc1, zc7⟩, ⟨zc11, zc17⟩, zc21, zc26⟩, n10⟩, zb]
                  exact W
            · skip
              refine xr_icm1 dX11_saw_29 ?_
              refine xr_iret dX11_saw_30 rfl ?_
              refine ⟨_, rfl, (if_neg (fun q => zc26 q.1.2.2.2)).symm, ?_⟩
              rw [if_neg (fun q => zc26 q.1.2.2.2), if_neg (fun q => zc26 q.1.2.2.2), if_neg (fun q => zc26 q.1.2.2.2)]
              exact W
set_option maxRecDepth 20000 in
theorem s_denies {K : xK} {B : Nat} {l : Launch} {h0 h : xH} {X D : Nat} {tn : Nat} {tf : Nat → Int32} {rk : Int32} {rv : Nat → Int64} {σ : xs} {β : xs} {γ : xs} {pn : Nat} {τ : Nat → xs} {ks : Nat → Bool} {κ : Nat → xs} {φ : xs → Int32} {hn : Nat} {hf : Nat → Int32} {hg : Nat → Int32} {wn : Nat} {wf : Nat → Int32} {wg : Nat → Int32} (W : xCw K h0 h X D tn tf rk rv σ β γ pn τ ks κ φ hn hf hg wn wf wg) : xV K B l 1 mX11_denies 0 0 (X) [] h (xPi (fun zr g => zr = nI wn ∧ xCw K h0 g X D tn tf rk rv σ β γ pn τ ks κ φ hn hf hg 0 wf wg)) := by
  refine ⟨⟨_, _, _, _, W.oX, rfl⟩, qX11_denies, ?_⟩
  refine xS.intro RX11 false ⟨rfl, rfl, by decide, by decide, Nat.le_of_ble_eq_true rfl⟩ (ls := [some (.ref X)]) rfl ?_
  refine xr_al0 dX11_denies_0 ?_
  refine xr_get W.oX fX11_76 rfl dX11_denies_1 ?_
  refine xr_Vi0 (s_siClear W.Hi) kX11_393 (by decide) (Nat.le_of_ble_eq_true rfl) (Nat.zero_add _) (Nat.zero_add _) dX11_denies_4 ?_
  refine xT.nm (fun zh1 zg1 => ?_)
  have W := W.ui (wn' := 0) (fB3 zg1) (by decide)
  refine xr_iret dX11_denies_7 rfl ?_
  exact ⟨_, rfl, rfl, W⟩
