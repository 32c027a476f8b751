/-! The model: what groups weigh, before least and freely (written by wip/whole/mod50.py) -/
theorem u16x {K : xK} {h0 h : xH} {Y : Nat} {m : Nat → Int32} {rd : Value} {ru ot : Nat} {U : Nat → Nat → Int32} {v : Nat → Int64} {f f' : xs} (W : xMw K h0 h Y m rd ru ot (uu (uu U 16 f) 16 f') v) : xMw K h0 h Y m rd ru ot (uu U 16 f') v := by
  rw [uu_uu] at W
  exact W
def wgV (w : xs) (i : Nat) : Int32 := if w 12 < bc (nI (i % 32)) then -1 else wt w (i / 32) (nI (i % 32))
theorem wgV_at (w : xs) {s g : Nat} (hg : g < 32) : wgV w (32 * s + g) = if w 12 < bc (nI g) then -1 else wt w s (nI g) := by
  unfold wgV
  rw [show (32 * s + g) % 32 = g by omega, show (32 * s + g) / 32 = s by omega]
theorem shl5 {s : Nat} (hs : s < 2) : nI s <<< ((5 : Int32) &&& 31) = nI (32 * s) := by
  rcases (show s = 0 ∨ s = 1 by omega) with rfl | rfl <;> rfl
theorem wh_or : ∀ a, a < 32 → ∀ b, b < 32 → nI a ||| nI b <<< ((5 : Int32) &&& 31) = nI (a + 32 * b) := by decide +kernel
set_option maxRecDepth 20000 in
theorem lp_mWgh {K : xK} {B : Nat} {l : Launch} {h0 : xH} {Y : Nat} {m : Nat → Int32} {rd : Value} {ru ot : Nat} {u : Nat → Nat → Int32} {v : Nat → Int64} (okw : hOk (u 1)) : ∀ (r s g : Nat) {h : xH} {f : xs} (hs : s < 2) (hg : g ≤ 32) (hf : ∀ i, i < 32 * s + g → f i = wgV (u 1) i) (W : xMw K h0 h Y m rd ru ot (uu u 16 f) v), 33 * s + g + r = 66 → xT K B l 2 RX12 false cX12_layWeighs 3 none 0 0 0 0 (xPv (fun g' => ∃ f, (∀ i, i < 64 → f i = wgV (u 1) i) ∧ xMw K h0 g' Y m rd ru ot (uu u 16 f) v)) 9 [some (.ref Y), some (.int (nI s)), some (.int (nI g))] [] h := by
  intro r
  induction r with
  | zero =>
    intro s g h f hs hg hf W hk
    omega
  | succ r ih =>
    intro s g h f hs hg hf W hk
    by_cases g32 : g = 32
    · subst g32
      refine xr_il2 dX12_layWeighs_9 ?_
      refine xr_bipush (v := 32) dX12_layWeighs_10 (by decide) ?_
      refine xr_icmpge (tgt := 58) dX12_layWeighs_12 (by decide) (fun zc12 => ?_) (fun zc12 => ?_)
      · skip
        refine xr_inc1 dX12_layWeighs_58 (nI_1 s) (by decide) rfl ?_
        refine xr_goto (tgt := 2) dX12_layWeighs_61 (by decide) ?_
        refine xr_il1 dX12_layWeighs_2 ?_
        refine xr_ic2 dX12_layWeighs_3 ?_
        refine xr_icmpge (tgt := 64) dX12_layWeighs_4 (by decide) (fun zc4 => ?_) (fun zc4 => ?_)
        · skip
          skip
          refine xr_vret dX12_layWeighs_64 rfl ?_
          exact ⟨rfl, f, fun i hi => hf i (by have := Decidable.not_not.mp (fun q => (nI_ge (b := 2) (a := s + 1) (Nat.lt_of_not_le q) (by decide)) zc4); omega), W⟩
        · skip
          refine xr_ic0 dX12_layWeighs_7 ?_
          refine xr_is2 dX12_layWeighs_8 (by decide) rfl ?_
          exact ih (s + 1) 0 (by have := Decidable.not_not.mp (fun q => zc4 (nI_le (a := 2) (b := s + 1) (Nat.le_of_not_lt q) (by omega))); omega) (by omega) (fun i hi => hf i (by omega)) W (by omega)
      · skip
        exact absurd (nI_le (by omega) (by omega)) zc12
    · skip
      refine xr_il2 dX12_layWeighs_9 ?_
      refine xr_bipush (v := 32) dX12_layWeighs_10 (by decide) ?_
      refine xr_icmpge (tgt := 58) dX12_layWeighs_12 (by decide) (fun zc12 => ?_) (fun zc12 => ?_)
      · skip
        exact absurd zc12 (nI_ge (b := 32) (a := g) (by omega) (by decide))
      · skip
        refine xr_al0 dX12_layWeighs_15 ?_
        refine xr_get W.o fX12_57 rfl dX12_layWeighs_16 ?_
        refine xr_il1 dX12_layWeighs_19 ?_
        refine xr_ic5 dX12_layWeighs_20 ?_
        refine xr_ishl dX12_layWeighs_21 ?_
        refine xr_eqi (y := nI (32 * s)) (shl5 hs) ?_
        refine xr_il2 dX12_layWeighs_22 ?_
        refine xr_iadd dX12_layWeighs_23 ?_
        refine xr_eqi (y := nI (32 * s + g)) (nI_add _ _) ?_
        refine xr_il2 dX12_layWeighs_24 ?_
        refine xr_Si1 (s_bitCount _) kX12_229 (by decide) (Nat.le_of_ble_eq_true rfl) (Nat.zero_add _) (Nat.zero_add _) dX12_layWeighs_25 ?_
        refine xr_al0 dX12_layWeighs_28 ?_
        refine xr_get W.o fX12_9 rfl dX12_layWeighs_29 ?_
        refine xr_bipush (v := 12) dX12_layWeighs_32 (by decide) ?_
        refine xr_iald W.a1 (xix_lit (j := 12) (by decide)) dX12_layWeighs_34 ?_
        refine xr_icmpgt (tgt := 50) dX12_layWeighs_35 (by decide) (fun zc35 => ?_) (fun zc35 => ?_)
        · skip
          refine xr_icm1 dX12_layWeighs_50 ?_
          refine xr_iast W.a16 (xix_nI (n := 64) (j := 32 * s + g) (by omega) (by decide)) dX12_layWeighs_51 ?_
          refine xT.nm (fun zh1 zg1 => ?_)
          have W := u16x (W.p16 zg1)
          refine xr_inc2 dX12_layWeighs_52 (nI_1 g) (by decide) rfl ?_
          refine xr_goto (tgt := 9) dX12_layWeighs_55 (by decide) ?_
          exact ih s (g + 1) hs (by omega) (cp_up (k := 32 * s + g) (by rw [wgV_at _ (by omega)]; exact (if_pos zc35).symm) hf) W (by omega)
        · skip
          refine xr_al0 dX12_layWeighs_38 ?_
          refine xr_get W.o fX12_9 rfl dX12_layWeighs_39 ?_
          refine xr_il1 dX12_layWeighs_42 ?_
          refine xr_il2 dX12_layWeighs_43 ?_
          refine xr_Si3 (s_mWeightOf W.a1 okw (s := s) hs _) kX12_191 (by decide) (Nat.le_of_ble_eq_true rfl) (Nat.zero_add _) (Nat.zero_add _) dX12_layWeighs_44 ?_
          refine xr_goto (tgt := 51) dX12_layWeighs_47 (by decide) ?_
          refine xr_iast W.a16 (xix_nI (n := 64) (j := 32 * s + g) (by omega) (by decide)) dX12_layWeighs_51 ?_
          refine xT.nm (fun zh1 zg1 => ?_)
          have W := u16x (W.p16 zg1)
          refine xr_inc2 dX12_layWeighs_52 (nI_1 g) (by decide) rfl ?_
          refine xr_goto (tgt := 9) dX12_layWeighs_55 (by decide) ?_
          exact ih s (g + 1) hs (by omega) (cp_up (k := 32 * s + g) (by rw [wgV_at _ (by omega)]; exact (if_neg zc35).symm) hf) W (by omega)
theorem u16i {K : xK} {h0 h : xH} {Y : Nat} {m : Nat → Int32} {rd : Value} {ru ot : Nat} {U : Nat → Nat → Int32} {v : Nat → Int64} (W : xMw K h0 h Y m rd ru ot U v) : xMw K h0 h Y m rd ru ot (uu U 16 (U 16)) v := by
  rw [uu_id]
  exact W
set_option maxRecDepth 20000 in
theorem s_mLayW {K : xK} {B : Nat} {l : Launch} {h0 h : xH} {Y : Nat} {m : Nat → Int32} {rd : Value} {ru ot : Nat} {u : Nat → Nat → Int32} {v : Nat → Int64} (W : xMw K h0 h Y m rd ru ot u v) (okw : hOk (u 1)) : xV K B l 2 mX12_layWeighs 0 0 (Y) [] h (xPv (fun g' => ∃ f, (∀ i, i < 64 → f i = wgV (u 1) i) ∧ xMw K h0 g' Y m rd ru ot (uu u 16 f) v)) := by
  refine ⟨⟨_, _, _, _, W.o, rfl⟩, qX12_layWeighs, ?_⟩
  refine xS.intro RX12 false ⟨rfl, rfl, by decide, by decide, Nat.le_of_ble_eq_true rfl⟩ (ls := [some (.ref Y), none, none]) rfl ?_
  refine xr_ic0 dX12_layWeighs_0 ?_
  refine xr_is1 dX12_layWeighs_1 (by decide) rfl ?_
  refine xr_il1 dX12_layWeighs_2 ?_
  refine xr_ic2 dX12_layWeighs_3 ?_
  refine xr_icmpge (tgt := 64) dX12_layWeighs_4 (by decide) (fun zc4 => ?_) (fun zc4 => ?_)
  · skip
    exact absurd zc4 (by decide)
  · skip
    refine xr_ic0 dX12_layWeighs_7 ?_
    refine xr_is2 dX12_layWeighs_8 (by decide) rfl ?_
    exact lp_mWgh okw 66 0 0 (by decide) (by decide) (fun i hi => absurd hi (by omega)) (u16i W) (by omega)
set_option maxRecDepth 20000 in
theorem s_mWhole {K : xK} {B : Nat} {l : Launch} {h0 h : xH} {Y : Nat} {m : Nat → Int32} {rd : Value} {ru ot : Nat} {u : Nat → Nat → Int32} {v : Nat → Int64} (W : xMw K h0 h Y m rd ru ot u v) (okw : hOk (u 1)) : xV K B l 1 mX12_whole 0 0 (Y) [] h (xPi (fun zr g => zr = nI (aN (u 1) 0 + 32 * aN (u 1) 1) ∧ xMw K h0 g Y m rd ru ot u v)) := by
  refine ⟨⟨_, _, _, _, W.o, rfl⟩, qX12_whole, ?_⟩
  refine xS.intro RX12 false ⟨rfl, rfl, by decide, by decide, Nat.le_of_ble_eq_true rfl⟩ (ls := [some (.ref Y)]) rfl ?_
  refine xr_al0 dX12_whole_0 ?_
  refine xr_get W.o fX12_9 rfl dX12_whole_1 ?_
  refine xr_ic0 dX12_whole_4 ?_
  refine xr_Si2 (s_mAllOf W.a1 okw (s := 0) (by decide)) kX12_187 (by decide) (Nat.le_of_ble_eq_true rfl) (Nat.zero_add _) (Nat.zero_add _) dX12_whole_5 ?_
  refine xr_al0 dX12_whole_8 ?_
  refine xr_get W.o fX12_9 rfl dX12_whole_9 ?_
  refine xr_ic1 dX12_whole_12 ?_
  refine xr_Si2 (s_mAllOf W.a1 okw (s := 1) (by decide)) kX12_187 (by decide) (Nat.le_of_ble_eq_true rfl) (Nat.zero_add _) (Nat.zero_add _) dX12_whole_13 ?_
  refine xr_ic5 dX12_whole_16 ?_
  refine xr_ishl dX12_whole_17 ?_
  refine xr_ior dX12_whole_18 ?_
  refine xr_iret dX12_whole_19 rfl ?_
  refine ⟨_, rfl, ?_, W⟩
  have e0 := hAll_n okw (s := 0) (by decide)
  have e1 := hAll_n okw (s := 1) (by decide)
  rw [e0.1, e1.1]
  exact wh_or _ e0.2 _ e1.2
