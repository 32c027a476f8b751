/-! The model: undo, keep, again, party, row (written by wip/whole/mod8.py) -/
def unK (f w : xs) (k i : Nat) : xs := fun j => if j < i then w (k + j) else f j
theorem unK_0 (f w : xs) (k : Nat) : unK f w k 0 = f := by
  funext j
  unfold unK
  rw [if_neg (by omega)]
theorem unK_s (f w : xs) (k i : Nat) : upd (unK f w k i) i (w (k + i)) = unK f w k (i + 1) := by
  funext j
  unfold unK
  by_cases e : j = i
  · subst e
    rw [pk_us, if_pos (by omega)]
  · rw [upd_hi _ _ e]
    by_cases q : j < i
    · rw [if_pos q, if_pos (by omega)]
    · rw [if_neg q, if_neg (by omega)]
theorem un_step (u : Nat → Nat → Int32) (w : xs) (k i : Nat) : uu (uu u 1 (unK (u 1) w k i)) 1 (upd (uu u 1 (unK (u 1) w k i) 1) i (w (k + i))) = uu u 1 (unK (u 1) w k (i + 1)) := by
  rw [uu_uu, uu_at, unK_s]
set_option maxRecDepth 20000 in
theorem lp_mUndo {K : xK} {B : Nat} {l : Launch} {h0 : xH} {Y : Nat} {m : Nat → Int32} {rd : Value} {ru ot : Nat} {u : Nat → Nat → Int32} {v : Nat → Int64} {n : Nat} (hn : m 19 = nI n) (h12 : n < 12) : ∀ (r i : Nat) {h : xH} (W : xMw K h0 h Y m rd ru ot (uu u 1 (unK (u 1) (u 9) (19 * n) i)) v), i + r = 19 → xT K B l 0 RX12 false cX12_undo 2 (some .int) 0 0 0 0 (xPi (fun zr g => zr = nI n ∧ xMw K h0 g Y m rd ru ot (uu u 1 (unK (u 1) (u 9) (19 * n) 19)) v)) 26 [some (.ref Y), some (.int (nI i))] [] h := by
  intro r
  induction r with
  | zero =>
    intro i h W hr
    refine xr_il1 dX12_undo_26 ?_
    refine xr_bipush (v := 19) dX12_undo_27 (by decide) ?_
    refine xr_icmpge (tgt := 58) dX12_undo_29 (by decide) (fun zc29 => ?_) (fun zc29 => ?_)
    · skip
      refine xr_al0 dX12_undo_58 ?_
      refine xr_get W.o fX12_147 rfl dX12_undo_59 ?_
      refine xr_eqi hn ?_
      refine xr_iret dX12_undo_62 rfl ?_
      have e : i = 19 := hr
      subst e
      exact ⟨_, rfl, rfl, W⟩
    · skip
      exact absurd (nI_le (a := 19) (by omega) (by omega)) zc29
  | succ r ih =>
    intro i h W hr
    refine xr_il1 dX12_undo_26 ?_
    refine xr_bipush (v := 19) dX12_undo_27 (by decide) ?_
    refine xr_icmpge (tgt := 58) dX12_undo_29 (by decide) (fun zc29 => ?_) (fun zc29 => ?_)
    · skip
      exact absurd zc29 (nI_ge (b := 19) (by omega) (by decide))
    · skip
      refine xr_al0 dX12_undo_32 ?_
      refine xr_get W.o fX12_9 rfl dX12_undo_33 ?_
      refine xr_il1 dX12_undo_36 ?_
      refine xr_al0 dX12_undo_37 ?_
      refine xr_get W.o fX12_36 rfl dX12_undo_38 ?_
      refine xr_bipush (v := 19) dX12_undo_41 (by decide) ?_
      refine xr_al0 dX12_undo_43 ?_
      refine xr_get W.o fX12_147 rfl dX12_undo_44 ?_
      refine xr_eqi hn ?_
      refine xr_imul dX12_undo_47 ?_
      refine xr_eqi (y := nI (19 * n)) (pk_mul 19 n) ?_
      refine xr_il1 dX12_undo_48 ?_
      refine xr_iadd dX12_undo_49 ?_
      refine xr_eqi (y := nI (19 * n + i)) (nI_add _ _) ?_
      refine xr_iald W.a9 (xix_nI (n := 228) (j := 19 * n + i) (by omega) (by decide)) dX12_undo_50 ?_
      refine xr_eqi (y := u 9 (19 * n + i)) rfl ?_
      refine xr_iast W.a1 (xix_nI (n := 19) (j := i) (by omega) (by decide)) dX12_undo_51 ?_
      refine xT.nm (fun zh1 zg1 => ?_)
      have W := W.p1 zg1
      refine xr_inc1 dX12_undo_52 (nI_inc i) (by decide) rfl ?_
      refine xr_goto (tgt := 26) dX12_undo_55 (by decide) ?_
      rw [un_step] at W
      exact ih (i + 1) W (by omega)
set_option maxRecDepth 20000 in
theorem s_mUndo {K : xK} {B : Nat} {l : Launch} {h0 h : xH} {Y : Nat} {m : Nat → Int32} {rd : Value} {ru ot : Nat} {u : Nat → Nat → Int32} {v : Nat → Int64} (W : xMw K h0 h Y m rd ru ot u v) {n : Nat} (hn : m 19 = nI n) (h12 : n ≤ 12) : xV K B l 0 mX12_undo 0 0 (Y) [] h (xPi (fun zr g => (n = 0 ∧ zr = -1 ∧ xMw K h0 g Y (upd m 5 0) rd ru ot u v) ∨ (0 < n ∧ zr = nI (n - 1) ∧ xMw K h0 g Y (upd (upd m 5 0) 19 (nI (n - 1))) rd ru ot (uu u 1 (unK (u 1) (u 9) (19 * (n - 1)) 19)) v))) := by
  refine ⟨⟨_, _, _, _, W.o, rfl⟩, qX12_undo, ?_⟩
  refine xS.intro RX12 false ⟨rfl, rfl, by decide, by decide, Nat.le_of_ble_eq_true rfl⟩ (ls := [some (.ref Y), none]) rfl ?_
  refine xr_al0 dX12_undo_0 ?_
  refine xr_ic0 dX12_undo_1 ?_
  refine xr_put W.o fX12_82 (Nat.le_of_ble_eq_true rfl) rfl rfl dX12_undo_2 ?_
  refine xT.nm (fun zh1 zg1 => ?_)
  have W := W.f5 zg1
  refine xr_al0 dX12_undo_5 ?_
  refine xr_get W.o fX12_147 rfl dX12_undo_6 ?_
  refine xr_eqi (y := nI n) hn ?_
  refine xr_ifne (tgt := 14) dX12_undo_9 (by decide) (fun zc9 => ?_) (fun zc9 => ?_)
  · skip
    have n0 : 0 < n := Nat.pos_of_ne_zero (fun q => zc9 (by rw [q]; rfl))
    refine xr_al0 dX12_undo_14 ?_
    refine xr_dup dX12_undo_15 rfl ?_
    refine xr_get W.o fX12_147 rfl dX12_undo_16 ?_
    refine xr_eqi (y := nI n) hn ?_
    refine xr_ic1 dX12_undo_19 ?_
    refine xr_isub dX12_undo_20 ?_
    refine xr_eqi (y := nI (n - 1)) (nI_sub (a := n) (b := 1) n0) ?_
    refine xr_put W.o fX12_147 (Nat.le_of_ble_eq_true rfl) rfl rfl dX12_undo_21 ?_
    refine xT.nm (fun zh2 zg2 => ?_)
    have W := W.f19 zg2
    refine xr_ic0 dX12_undo_24 ?_
    refine xr_is1 dX12_undo_25 (by decide) rfl ?_
    refine xT.post (fun r g q => ?_) (lp_mUndo (n := n - 1) rfl (by omega) 19 0 (by rw [unK_0, uu_id]; exact W) (by omega))
    obtain ⟨v, q1, q2, q3⟩ := q
    exact ⟨v, q1, Or.inr ⟨n0, q2, q3⟩⟩
  · skip
    refine xr_icm1 dX12_undo_12 ?_
    refine xr_iret dX12_undo_13 rfl ?_
    exact ⟨_, rfl, Or.inl ⟨(zI_eq (a := n) (b := 0) (by omega) (by decide)).mp zc9, rfl, W⟩⟩
set_option maxRecDepth 20000 in
theorem s_mKeep {K : xK} {B : Nat} {l : Launch} {h0 h : xH} {Y : Nat} {m : Nat → Int32} {rd : Value} {ru ot : Nat} {u : Nat → Nat → Int32} {v : Nat → Int64} (W : xMw K h0 h Y m rd ru ot u v) (x : Int32) : xV K B l 1 mX12_keep 0 0 (Y) [.int x] h (xPi (fun zr g => (mIn x 0 1 = 0 ∧ zr = 0 ∧ xMw K h0 g Y (upd m 5 0) rd ru ot u v) ∨ (¬ mIn x 0 1 = 0 ∧ zr = 1 ∧ xMw K h0 g Y (upd m 5 0) rd ru ot (uu (uu u 23 (upd (u 23) x.toNatClampNeg (vp_nar .boolean 1))) 22 (lyK (u 22) (u 1) (19 * x.toNatClampNeg) 19)) v))) := by
  refine ⟨⟨_, _, _, _, W.o, rfl⟩, qX12_keep, ?_⟩
  refine xS.intro RX12 false ⟨rfl, rfl, by decide, by decide, Nat.le_of_ble_eq_true rfl⟩ (ls := [some (.ref Y), some (.int x)]) rfl ?_
  refine xr_al0 dX12_keep_0 ?_
  refine xr_ic0 dX12_keep_1 ?_
  refine xr_put W.o fX12_82 (Nat.le_of_ble_eq_true rfl) rfl rfl dX12_keep_2 ?_
  refine xT.nm (fun zh1 zg1 => ?_)
  have W := W.f5 zg1
  refine xr_il1 dX12_keep_5 ?_
  refine xr_ic0 dX12_keep_6 ?_
  refine xr_ic1 dX12_keep_7 ?_
  refine xr_Si3 (s_mIn _ _ _) kX12_89 (by decide) (Nat.le_of_ble_eq_true rfl) (Nat.zero_add _) (Nat.zero_add _) dX12_keep_8 ?_
  refine xr_ifne (tgt := 16) dX12_keep_11 (by decide) (fun zc11 => ?_) (fun zc11 => ?_)
  · skip
    obtain ⟨s, hs, rfl⟩ := mIn_01 zc11
    refine xr_al0 dX12_keep_16 ?_
    refine xr_get W.o fX12_79 rfl dX12_keep_17 ?_
    refine xr_il1 dX12_keep_20 ?_
    refine xr_ic1 dX12_keep_21 ?_
    refine xr_zast W.a23 (xix_nI (n := 2) (j := s) hs (by decide)) dX12_keep_22 ?_
    refine xT.nm (fun zh2 zg2 => ?_)
    have W := W.p23 zg2
    refine xr_al0 dX12_keep_23 ?_
    refine xr_get W.o fX12_9 rfl dX12_keep_24 ?_
    refine xr_al0 dX12_keep_27 ?_
    refine xr_get W.o fX12_76 rfl dX12_keep_28 ?_
    refine xr_bipush (v := 19) dX12_keep_31 (by decide) ?_
    refine xr_il1 dX12_keep_33 ?_
    refine xr_imul dX12_keep_34 ?_
    refine xr_eqi (y := nI (19 * s)) (pk_mul 19 s) ?_
    refine xr_Sv3 (s_mLay W.a1 W.a22 (k := 19 * s) (by omega) (by omega) (by decide)) kX12_210 (by decide) (Nat.le_of_ble_eq_true rfl) (Nat.zero_add _) (Nat.zero_add _) dX12_keep_35 ?_
    refine xT.nm (fun zh3 zg3 => ?_)
    have W := W.p22 zg3
    refine xr_ic1 dX12_keep_38 ?_
    refine xr_zret dX12_keep_39 rfl (by first | rfl | decide | assumption) ?_
    refine ⟨_, rfl, Or.inr ⟨zc11, rfl, ?_⟩⟩
    rw [nI_clamp (by omega)]
    exact W
  · skip
    refine xr_ic0 dX12_keep_14 ?_
    refine xr_zret dX12_keep_15 rfl (by first | rfl | decide | assumption) ?_
    exact ⟨_, rfl, Or.inl ⟨zc11, rfl, W⟩⟩
set_option maxRecDepth 20000 in
theorem s_mParty {K : xK} {B : Nat} {l : Launch} {h0 h : xH} {Y : Nat} {m : Nat → Int32} {rd : Value} {ru ot : Nat} {u : Nat → Nat → Int32} {v : Nat → Int64} (W : xMw K h0 h Y m rd ru ot u v) (ok : hOk (u 1)) (x y : Int32) : xV K B l 2 mX12_party 0 0 (Y) [.int x, .int y] h (xPi (fun zr g => (mPar (u 1) x y = 0 ∧ zr = 0 ∧ xMw K h0 g Y (upd (upd m 5 0) 5 1) rd ru ot u v) ∨ (¬ mPar (u 1) x y = 0 ∧ zr = u 1 (5 * x.toNatClampNeg + y.toNatClampNeg) ∧ xMw K h0 g Y (upd m 5 0) rd ru ot u v))) := by
  refine ⟨⟨_, _, _, _, W.o, rfl⟩, qX12_party, ?_⟩
  refine xS.intro RX12 false ⟨rfl, rfl, by decide, by decide, Nat.le_of_ble_eq_true rfl⟩ (ls := [some (.ref Y), some (.int x), some (.int y)]) rfl ?_
  refine xr_al0 dX12_party_0 ?_
  refine xr_ic0 dX12_party_1 ?_
  refine xr_put W.o fX12_82 (Nat.le_of_ble_eq_true rfl) rfl rfl dX12_party_2 ?_
  refine xT.nm (fun zh1 zg1 => ?_)
  have W := W.f5 zg1
  refine xr_al0 dX12_party_5 ?_
  refine xr_il1 dX12_party_6 ?_
  refine xr_il2 dX12_party_7 ?_
  refine xr_Vpi2 (s_mPar W _ _) kX12_204 (by decide) (Nat.le_of_ble_eq_true rfl) (Nat.zero_add _) (Nat.zero_add _) dX12_party_8 (fun zv8 zh2 zq2 => ?_)
  obtain ⟨rfl, W⟩ := zq2
  refine xr_ifeq (tgt := 27) dX12_party_11 (by decide) (fun zc11 => ?_) (fun zc11 => ?_)
  · skip
    refine xr_al0 dX12_party_27 ?_
    refine xr_Vpi0 (s_mLost W) kX12_207 (by decide) (Nat.le_of_ble_eq_true rfl) (Nat.zero_add _) (Nat.zero_add _) dX12_party_28 (fun zv28 zh3 zq3 => ?_)
    obtain ⟨rfl, W⟩ := zq3
    refine xr_iret dX12_party_31 rfl ?_
    exact ⟨_, rfl, Or.inl ⟨zc11, rfl, W⟩⟩
  · skip
    obtain ⟨s, j, hs, hj, rfl, rfl⟩ := mPar_sk ok zc11
    have l5 := (hOk_at ok hs).2
    refine xr_al0 dX12_party_14 ?_
    refine xr_get W.o fX12_9 rfl dX12_party_15 ?_
    refine xr_ic5 dX12_party_18 ?_
    refine xr_il1 dX12_party_19 ?_
    refine xr_imul dX12_party_20 ?_
    refine xr_eqi (y := nI (5 * s)) (pk_mul 5 s) ?_
    refine xr_il2 dX12_party_21 ?_
    refine xr_iadd dX12_party_22 ?_
    refine xr_eqi (y := nI (5 * s + j)) (nI_add _ _) ?_
    refine xr_iald W.a1 (xix_nI (n := 19) (j := 5 * s + j) (by omega) (by decide)) dX12_party_23 ?_
    refine xr_goto (tgt := 31) dX12_party_24 (by decide) ?_
    refine xr_iret dX12_party_31 rfl ?_
    refine ⟨_, rfl, Or.inr ⟨zc11, ?_, W⟩⟩
    rw [nI_clamp (by omega), nI_clamp (by omega)]
