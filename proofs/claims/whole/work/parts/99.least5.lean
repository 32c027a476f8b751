/-! The model: one trip more (written by wip/whole/mod56.py) -/
theorem fz_fz (m : xs) (z z' : Int32 × Int32 × Int32) : fz (fz m z) z' = fz m z' := fz_up m z z'.1 z'.2.1 z'.2.2
theorem lo1_1 {f6 f4 : xs} {gr fr x : Int32} {a b : Nat} {z z' : Int32 × Int32 × Int32} (h : z.1 = z'.1) : (lo1 f6 f4 gr fr x a b z).1 = (lo1 f6 f4 gr fr x a b z').1 := by
  unfold lo1
  rw [h]
  split
  · rfl
  · exact h
theorem loI_1 {f6 f4 : xs} {gr fr x : Int32} {a : Nat} : ∀ (r b : Nat) {z z' : Int32 × Int32 × Int32}, z.1 = z'.1 → (loI f6 f4 gr fr x a r b z).1 = (loI f6 f4 gr fr x a r b z').1 := by
  intro r
  induction r with
  | zero => intro b z z' h; exact h
  | succ r ih => intro b z z' h; exact ih (b + 1) (lo1_1 h)
theorem loO_1 {f6 f4 : xs} {gr fr x : Int32} : ∀ (r a : Nat) {z z' : Int32 × Int32 × Int32}, z.1 = z'.1 → (loO f6 f4 gr fr x r a z).1 = (loO f6 f4 gr fr x r a z').1 := by
  intro r
  induction r with
  | zero => intro a z z' h; exact h
  | succ r ih =>
    intro a z z' h
    refine ih (a + 1) ?_
    split
    · exact loI_1 32 0 h
    · exact h
def lov (f6 f4 : xs) (gr fr x : Int32) : Int32 := (loO f6 f4 gr fr x 32 0 (1000000, 0, 0)).1
theorem loR_v (u : Nat → Nat → Int32) (m : xs) (fr x : Int32) : (loR u m fr x).1 = lov (u 16) (u 14) (u 1 13) fr x := loO_1 32 0 rfl
def mwV (u : Nat → Nat → Int32) (fr : Int32) (wh i : Nat) : Int32 := if nI i &&& (nI wh ^^^ (-1)) = 0 then lov (u 16) (u 14) (u 1 13) fr (nI i) else 1000000
theorem u15x {K : xK} {h0 h : xH} {Y : Nat} {m : Nat → Int32} {rd : Value} {ru ot : Nat} {U : Nat → Nat → Int32} {v : Nat → Int64} {f f' : xs} (W : xMw K h0 h Y m rd ru ot (uu (uu U 15 f) 15 f') v) : xMw K h0 h Y m rd ru ot (uu U 15 f') v := by
  rw [uu_uu] at W
  exact W
theorem u15i {K : xK} {h0 h : xH} {Y : Nat} {m : Nat → Int32} {rd : Value} {ru ot : Nat} {U : Nat → Nat → Int32} {v : Nat → Int64} (W : xMw K h0 h Y m rd ru ot U v) : xMw K h0 h Y m rd ru ot (uu U 15 (U 15)) v := by
  rw [uu_id]
  exact W
set_option maxRecDepth 20000 in
theorem lp_mMore2 {K : xK} {B : Nat} {l : Launch} {h0 : xH} {Y : Nat} {m : Nat → Int32} {rd : Value} {ru ot : Nat} {u : Nat → Nat → Int32} {v : Nat → Int64} {fr : Int32} {wh : Nat} : ∀ (r k : Nat) {h : xH} {f : xs} (hf : ∀ i, i < k → f i = u 15 i) (W : xMw K h0 h Y m rd ru ot (uu u 14 f) v), k + r = 1024 → xT K B l 2 RX12 false cX12_layMore 4 none 0 0 0 0 (xPv (fun g' => ∃ f, (∀ i, i < 1024 → f i = u 15 i) ∧ xMw K h0 g' Y m rd ru ot (uu u 14 f) v)) 48 [some (.ref Y), some (.int fr), some (.int (nI wh)), some (.int (nI k))] [] h := by
  intro r
  induction r with
  | zero =>
    intro k h f hf W hk
    refine xr_il3 dX12_layMore_48 ?_
    refine xr_sipush (v := 1024) dX12_layMore_49 (by decide) ?_
    refine xr_icmpge (tgt := 73) dX12_layMore_52 (by decide) (fun zc52 => ?_) (fun zc52 => ?_)
    · skip
      refine xr_vret dX12_layMore_73 rfl ?_
      exact ⟨rfl, f, fun i hi => hf i (by omega), W⟩
    · skip
      exact absurd (nI_le (a := 1024) (b := k) (by omega) (by omega)) zc52
  | succ r ih =>
    intro k h f hf W hk
    refine xr_il3 dX12_layMore_48 ?_
    refine xr_sipush (v := 1024) dX12_layMore_49 (by decide) ?_
    refine xr_icmpge (tgt := 73) dX12_layMore_52 (by decide) (fun zc52 => ?_) (fun zc52 => ?_)
    · skip
      exact absurd zc52 (nI_ge (b := 1024) (a := k) (by omega) (by decide))
    · skip
      refine xr_al0 dX12_layMore_55 ?_
      refine xr_get W.o fX12_51 rfl dX12_layMore_56 ?_
      refine xr_il3 dX12_layMore_59 ?_
      refine xr_al0 dX12_layMore_60 ?_
      refine xr_get W.o fX12_54 rfl dX12_layMore_61 ?_
      refine xr_il3 dX12_layMore_64 ?_
      refine xr_iald W.a15 (xix_nI (n := 1024) (j := k) (by omega) (by decide)) dX12_layMore_65 ?_
      refine xr_iast W.a14 (xix_nI (n := 1024) (j := k) (by omega) (by decide)) dX12_layMore_66 ?_
      refine xT.nm (fun zh1 zg1 => ?_)
      have W := u14x (W.p14 zg1)
      refine xr_inc3 dX12_layMore_67 (nI_1 k) (by decide) rfl ?_
      refine xr_goto (tgt := 48) dX12_layMore_70 (by decide) ?_
      exact ih (k + 1) (cp_up rfl hf) W (by omega)
set_option maxRecDepth 20000 in
theorem lp_mMore {K : xK} {B : Nat} {l : Launch} {h0 : xH} {Y : Nat} {m : Nat → Int32} {rd : Value} {ru ot : Nat} {u : Nat → Nat → Int32} {v : Nat → Int64} {fr : Int32} {wh : Nat} : ∀ (r k : Nat) {h : xH} {f : xs} {z : Int32 × Int32 × Int32} (hf : ∀ i, i < k → f i = mwV u fr wh i) (W : xMw K h0 h Y (fz m z) rd ru ot (uu u 15 f) v), k + r = 1024 → xT K B l 2 RX12 false cX12_layMore 4 none 0 0 0 0 (xPv (fun g' => ∃ z f f', (∀ i, i < 1024 → f' i = mwV u fr wh i) ∧ xMw K h0 g' Y (fz m z) rd ru ot (uu (uu u 15 f) 14 f') v)) 7 [some (.ref Y), some (.int fr), some (.int (nI wh)), some (.int (nI k))] [] h := by
  intro r
  induction r with
  | zero =>
    intro k h f z hf W hk
    refine xr_il3 dX12_layMore_7 ?_
    refine xr_sipush (v := 1024) dX12_layMore_8 (by decide) ?_
    refine xr_icmpge (tgt := 46) dX12_layMore_11 (by decide) (fun zc11 => ?_) (fun zc11 => ?_)
    · skip
      refine xr_ic0 dX12_layMore_46 ?_
      refine xr_is3 dX12_layMore_47 (by decide) rfl ?_
      refine xT.post (fun r g q => ?_) (lp_mMore2 (m := fz m z) (u := uu u 15 f) 1024 0 (fun i hi => absurd hi (by omega)) (u14i W) (by omega))
      obtain ⟨e, f', hf', W⟩ := q
      exact ⟨e, z, f, f', fun i hi => (hf' i hi).trans (hf i (by omega)), W⟩
    · skip
      exact absurd (nI_le (a := 1024) (b := k) (by omega) (by omega)) zc11
  | succ r ih =>
    intro k h f z hf W hk
    refine xr_il3 dX12_layMore_7 ?_
    refine xr_sipush (v := 1024) dX12_layMore_8 (by decide) ?_
    refine xr_icmpge (tgt := 46) dX12_layMore_11 (by decide) (fun zc11 => ?_) (fun zc11 => ?_)
    · skip
      exact absurd zc11 (nI_ge (b := 1024) (a := k) (by omega) (by decide))
    · skip
      refine xr_al0 dX12_layMore_14 ?_
      refine xr_get W.o fX12_54 rfl dX12_layMore_15 ?_
      refine xr_il3 dX12_layMore_18 ?_
      refine xr_il3 dX12_layMore_19 ?_
      refine xr_il2 dX12_layMore_20 ?_
      refine xr_icm1 dX12_layMore_21 ?_
      refine xr_ixor dX12_layMore_22 ?_
      refine xr_iand dX12_layMore_23 ?_
      refine xr_ifne (tgt := 36) dX12_layMore_24 (by decide) (fun zc24 => ?_) (fun zc24 => ?_)
      · skip
        refine xr_ldcw nX12_300 dX12_layMore_36 ?_
        refine xr_iast W.a15 (xix_nI (n := 1024) (j := k) (by omega) (by decide)) dX12_layMore_39 ?_
        refine xT.nm (fun zh1 zg1 => ?_)
        have W := u15x (W.p15 zg1)
        refine xr_inc3 dX12_layMore_40 (nI_1 k) (by decide) rfl ?_
        refine xr_goto (tgt := 7) dX12_layMore_43 (by decide) ?_
        exact ih (k + 1) (cp_up ((if_neg zc24).symm) hf) W (by omega)
      · skip
        refine xr_al0 dX12_layMore_27 ?_
        refine xr_il3 dX12_layMore_28 ?_
        refine xr_il1 dX12_layMore_29 ?_
        refine xr_Vpi2 (s_mLeast W (x := k) (by omega) fr) kX12_313 (by decide) (Nat.le_of_ble_eq_true rfl) (Nat.zero_add _) (Nat.zero_add _) dX12_layMore_30 (fun zv30 zh1 zq1 => ?_)
        obtain ⟨rfl, W⟩ := zq1
        rw [fz_fz] at W
        refine xr_goto (tgt := 39) dX12_layMore_33 (by decide) ?_
        refine xr_iast W.a15 (xix_nI (n := 1024) (j := k) (by omega) (by decide)) dX12_layMore_39 ?_
        refine xT.nm (fun zh2 zg2 => ?_)
        have W := u15x (W.p15 zg2)
        refine xr_inc3 dX12_layMore_40 (nI_1 k) (by decide) rfl ?_
        refine xr_goto (tgt := 7) dX12_layMore_43 (by decide) ?_
        exact ih (k + 1) (cp_up ((loR_v _ _ _ _).trans (if_pos zc24).symm) hf) W (by omega)
set_option maxRecDepth 20000 in
theorem s_mMore {K : xK} {B : Nat} {l : Launch} {h0 h : xH} {Y : Nat} {m : Nat → Int32} {rd : Value} {ru ot : Nat} {u : Nat → Nat → Int32} {v : Nat → Int64} (W : xMw K h0 h Y m rd ru ot u v) (okw : hOk (u 1)) (fr : Int32) : xV K B l 2 mX12_layMore 0 0 (Y) [.int fr] h (xPv (fun g' => ∃ z f f', (∀ i, i < 1024 → f' i = mwV u fr (aN (u 1) 0 + 32 * aN (u 1) 1) i) ∧ xMw K h0 g' Y (fz m z) rd ru ot (uu (uu u 15 f) 14 f') v)) := by
  refine ⟨⟨_, _, _, _, W.o, rfl⟩, qX12_layMore, ?_⟩
  refine xS.intro RX12 false ⟨rfl, rfl, by decide, by decide, Nat.le_of_ble_eq_true rfl⟩ (ls := [some (.ref Y), some (.int fr), none, none]) rfl ?_
  refine xr_al0 dX12_layMore_0 ?_
  refine xr_Vpi0 (s_mWhole W okw) kX12_310 (by decide) (Nat.le_of_ble_eq_true rfl) (Nat.zero_add _) (Nat.zero_add _) dX12_layMore_1 (fun zv1 zh1 zq1 => ?_)
  obtain ⟨rfl, W⟩ := zq1
  refine xr_is2 dX12_layMore_4 (by decide) rfl ?_
  refine xr_ic0 dX12_layMore_5 ?_
  refine xr_is3 dX12_layMore_6 (by decide) rfl ?_
  exact lp_mMore 1024 0 (z := (0, m 27, m 28)) (fun i hi => absurd hi (by omega)) (by rw [fz_id]; exact u15i W) (by omega)
