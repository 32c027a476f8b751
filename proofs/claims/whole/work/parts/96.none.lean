/-! The model: no trips yet, before least and freely (written by wip/whole/mod51.py) -/
theorem u14x {K : xK} {h0 h : xH} {Y : Nat} {m : Nat → Int32} {rd : Value} {ru ot : Nat} {U : Nat → Nat → Int32} {v : Nat → Int64} {f f' : xs} (W : xMw K h0 h Y m rd ru ot (uu (uu U 14 f) 14 f') v) : xMw K h0 h Y m rd ru ot (uu U 14 f') v := by
  rw [uu_uu] at W
  exact W
theorem u14i {K : xK} {h0 h : xH} {Y : Nat} {m : Nat → Int32} {rd : Value} {ru ot : Nat} {U : Nat → Nat → Int32} {v : Nat → Int64} (W : xMw K h0 h Y m rd ru ot U v) : xMw K h0 h Y m rd ru ot (uu U 14 (U 14)) v := by
  rw [uu_id]
  exact W
def fw0 (i : Nat) : Int32 := if i = 0 then 0 else 1000000
theorem fw0_y {k : Nat} (h : nI k = 0) (hk : k < 1024) : (0 : Int32) = fw0 k := by
  have e : k = 0 := (nI_eq (b := 0) (by omega) (by decide)).mp h
  rw [e]
  rfl
theorem fw0_n {k : Nat} (h : ¬ nI k = 0) : (1000000 : Int32) = fw0 k := (if_neg (fun q => h (by rw [q]; rfl))).symm
set_option maxRecDepth 20000 in
theorem lp_mNone {K : xK} {B : Nat} {l : Launch} {h0 : xH} {Y : Nat} {m : Nat → Int32} {rd : Value} {ru ot : Nat} {u : Nat → Nat → Int32} {v : Nat → Int64} : ∀ (r k : Nat) {h : xH} {f : xs} (hf : ∀ i, i < k → f i = fw0 i) (W : xMw K h0 h Y m rd ru ot (uu u 14 f) v), k + r = 1024 → xT K B l 3 RX12 false cX12_layNone 2 none 0 0 0 0 (xPv (fun g' => ∃ f, (∀ i, i < 1024 → f i = fw0 i) ∧ xMw K h0 g' Y m rd ru ot (uu u 14 f) v)) 6 [some (.ref Y), some (.int (nI k))] [] h := by
  intro r
  induction r with
  | zero =>
    intro k h f hf W hk
    refine xr_il1 dX12_layNone_6 ?_
    refine xr_sipush (v := 1024) dX12_layNone_7 (by decide) ?_
    refine xr_icmpge (tgt := 36) dX12_layNone_10 (by decide) (fun zc10 => ?_) (fun zc10 => ?_)
    · skip
      refine xr_vret dX12_layNone_36 rfl ?_
      exact ⟨rfl, f, fun i hi => hf i (by omega), W⟩
    · skip
      exact absurd (nI_le (a := 1024) (b := k) (by omega) (by omega)) zc10
  | succ r ih =>
    intro k h f hf W hk
    refine xr_il1 dX12_layNone_6 ?_
    refine xr_sipush (v := 1024) dX12_layNone_7 (by decide) ?_
    refine xr_icmpge (tgt := 36) dX12_layNone_10 (by decide) (fun zc10 => ?_) (fun zc10 => ?_)
    · skip
      exact absurd zc10 (nI_ge (b := 1024) (a := k) (by omega) (by decide))
    · skip
      refine xr_al0 dX12_layNone_13 ?_
      refine xr_get W.o fX12_51 rfl dX12_layNone_14 ?_
      refine xr_il1 dX12_layNone_17 ?_
      refine xr_il1 dX12_layNone_18 ?_
      refine xr_ifne (tgt := 26) dX12_layNone_19 (by decide) (fun zc19 => ?_) (fun zc19 => ?_)
      · skip
        refine xr_ldcw nX12_300 dX12_layNone_26 ?_
        refine xr_iast W.a14 (xix_nI (n := 1024) (j := k) (by omega) (by decide)) dX12_layNone_29 ?_
        refine xT.nm (fun zh1 zg1 => ?_)
        have W := u14x (W.p14 zg1)
        refine xr_inc1 dX12_layNone_30 (nI_1 k) (by decide) rfl ?_
        refine xr_goto (tgt := 6) dX12_layNone_33 (by decide) ?_
        exact ih (k + 1) (cp_up (fw0_n zc19) hf) W (by omega)
      · skip
        refine xr_ic0 dX12_layNone_22 ?_
        refine xr_goto (tgt := 29) dX12_layNone_23 (by decide) ?_
        refine xr_iast W.a14 (xix_nI (n := 1024) (j := k) (by omega) (by decide)) dX12_layNone_29 ?_
        refine xT.nm (fun zh1 zg1 => ?_)
        have W := u14x (W.p14 zg1)
        refine xr_inc1 dX12_layNone_30 (nI_1 k) (by decide) rfl ?_
        refine xr_goto (tgt := 6) dX12_layNone_33 (by decide) ?_
        exact ih (k + 1) (cp_up (fw0_y zc19 (by omega)) hf) W (by omega)
set_option maxRecDepth 20000 in
theorem s_mNone {K : xK} {B : Nat} {l : Launch} {h0 h : xH} {Y : Nat} {m : Nat → Int32} {rd : Value} {ru ot : Nat} {u : Nat → Nat → Int32} {v : Nat → Int64} (W : xMw K h0 h Y m rd ru ot u v) (okw : hOk (u 1)) : xV K B l 3 mX12_layNone 0 0 (Y) [] h (xPv (fun g' => ∃ f f', (∀ i, i < 64 → f i = wgV (u 1) i) ∧ (∀ i, i < 1024 → f' i = fw0 i) ∧ xMw K h0 g' Y m rd ru ot (uu (uu u 16 f) 14 f') v)) := by
  refine ⟨⟨_, _, _, _, W.o, rfl⟩, qX12_layNone, ?_⟩
  refine xS.intro RX12 false ⟨rfl, rfl, by decide, by decide, Nat.le_of_ble_eq_true rfl⟩ (ls := [some (.ref Y), none]) rfl ?_
  refine xr_al0 dX12_layNone_0 ?_
  refine xr_Vpv0 (s_mLayW W okw) kX12_307 (by decide) (Nat.le_of_ble_eq_true rfl) (Nat.zero_add _) (Nat.zero_add _) dX12_layNone_1 (fun zh1 zq1 => ?_)
  obtain ⟨f, hf, W⟩ := zq1
  refine xr_ic0 dX12_layNone_4 ?_
  refine xr_is1 dX12_layNone_5 (by decide) rfl ?_
  refine xT.post (fun r g q => ?_) (lp_mNone (u := uu u 16 f) 1024 0 (fun i hi => absurd hi (by omega)) (u14i W) (by omega))
  obtain ⟨e, f', hf', W⟩ := q
  exact ⟨e, f, f', hf, hf', W⟩
