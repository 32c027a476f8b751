/-! The model in the class's words: laws, looks (written by wip/whole/mod32.py) -/
def lq (p : Nat → Bool) (k : Nat) (x : Int32) (v : Nat → Int64) : Prop := (cnP p k = 0 ∧ x = 0) ∨ (¬ cnP p k = 0 ∧ ∃ f, f < k ∧ p f = true ∧ (∀ j, j < f → p j = false) ∧ x = 2 ∧ v 0 = (nI (f / 8)).toInt64 ∧ v 1 = (nI (5 + f % 8)).toInt64)
theorem lq_n {p : Nat → Bool} {k : Nat} {x : Int32} {v : Nat → Int64} (h : lq p k x v) (c : ¬ p k = true) : lq p (k + 1) x v := by
  unfold lq
  rw [cnP_s, if_neg c, Nat.add_zero]
  rcases h with h | ⟨h1, f, hf, h⟩
  · exact Or.inl h
  · exact Or.inr ⟨h1, f, by omega, h⟩
theorem lq_y {p : Nat → Bool} {k : Nat} {x : Int32} {v : Nat → Int64} (h : lq p k x v) (c : p k = true) (c0 : ¬ cnP p k = 0) : lq p (k + 1) x v := by
  unfold lq
  rw [cnP_s, if_pos c]
  rcases h with ⟨h, -⟩ | ⟨h1, f, hf, h⟩
  · exact absurd h c0
  · exact Or.inr ⟨by omega, f, by omega, h⟩
theorem lq_f {p : Nat → Bool} {k : Nat} {v : Nat → Int64} (c : p k = true) (c0 : cnP p k = 0) (e0 : v 0 = (nI (k / 8)).toInt64) (e1 : v 1 = (nI (5 + k % 8)).toInt64) : lq p (k + 1) 2 v := by
  unfold lq
  rw [cnP_s, if_pos c]
  exact Or.inr ⟨by omega, k, by omega, c, cnP_0 k c0, rfl, e0, e1⟩
theorem lw_end {f g : xs} {n : Nat} {x : Int32} {v rv : Nat → Int64} (h : lq (flB f g n) 40 x v) : (lwR (flN f g n) rv).1 = nI (cnP (flB f g n) 40) ∧ maR x v (lwR (flN f g n) rv).2.1 (lwR (flN f g n) rv).2.2 := by
  have c := chL_fl f g n
  have r := isR_fl f g n
  unfold lwR
  rcases h with ⟨h1, rfl⟩ | ⟨h1, k, hk, hp, hj, rfl, e0, e1⟩
  · rw [if_pos ((chL_z c).mpr h1), h1]
    exact ⟨rfl, maR0⟩
  · rw [if_neg (fun q => h1 ((chL_z c).mp q))]
    refine ⟨chL_bc c r, 2, by decide, rfl, rfl, fun j hj2 => ?_⟩
    have ef : lntz (flN f g n) = nI k := chL_nt c r hk hp hj
    show v j = tl2 rv (lntz (flN f g n) / 8) (5 + remI (lntz (flN f g n)) 8) j
    rw [ef, show nI k / 8 = nI (k / 8) from pk_div (d := 8) (by omega) (by decide) (by decide), show remI (nI k) 8 = nI (k % 8) from pk_rem (d := 8) (by omega) (by decide) (by decide), show (5 : Int32) + nI (k % 8) = nI (5 + k % 8) from nI_add 5 _]
    rcases (show j = 0 ∨ j = 1 by omega) with rfl | rfl
    · exact e0
    · exact e1
set_option maxRecDepth 20000 in
theorem lp_mLaws {K : xK} {B : Nat} {l : Launch} {h0 : xH} {Y : Nat} {m : xs} {u : Nat → Nat → Int32} {v : Nat → Int64} {tn : Nat} {tf : xs} {rk : Int32} {rv : Nat → Int64} {σ : xs} {pn : Nat} {τ : Nat → xs} {ks : Nat → Bool} {κ : Nat → xs} {φ : xs → Int32} {hn : Nat} {hf hg : xs} {wn : Nat} {wf wg : xs} (C : maC K B l Y m u v tn tf rk rv σ pn τ ks κ φ hn hf hg wn wf wg) (h5 : m 5 = 0) {rd : Value} : ∀ (r k : Nat) {x : Int32} {v' : Nat → Int64} {h : xH} (hq : lq (flB wf wg wn) k x v') (W : xMw K h0 h Y (upd m 4 x) rd (Y + 6) (Y + 7) u v'), k + r = 40 → xT K B l 206 RX12 false cX12_laws 3 (some .int) 0 0 0 0 (xPi (fun zr g => zr = (lwR (flN wf wg wn) rv).1 ∧ xMa K B l h0 g Y 0 tn tf ((lwR (flN wf wg wn) rv).2.1) ((lwR (flN wf wg wn) rv).2.2) σ pn τ ks κ φ hn hf hg wn wf wg)) 14 [some (.ref Y), some (.int (nI (cnP (flB wf wg wn) k))), some (.int (nI k))] [] h := by
  obtain ⟨T, Rw, ⟨R, ok, iv⟩, P, Kp, L, H, Sw⟩ := id C
  intro r
  induction r with
  | zero =>
    intro k x v' h hq W hk
    refine xr_il2 dX12_laws_14 ?_
    refine xr_bipush (v := 40) dX12_laws_15 (by decide) ?_
    refine xr_icmpge (tgt := 64) dX12_laws_17 (by decide) (fun zc17 => ?_) (fun zc17 => ?_)
    · skip
      refine xr_il1 dX12_laws_64 ?_
      refine xr_iret dX12_laws_65 rfl ?_
      have e40 : k = 40 := by omega
      subst e40
      obtain ⟨e1, e2⟩ := lw_end (rv := rv) hq
      refine ⟨_, rfl, e1.symm, ⟨_, _, _, _, W, T, e2, ⟨R, ok, iv⟩, P, Kp, L, H, Sw, h5⟩⟩
    · skip
      exact absurd (nI_le (a := 40) (by omega) (by omega)) zc17
  | succ r ih =>
    intro k x v' h hq W hk
    have lc := cnP_le (flB wf wg wn) k
    refine xr_il2 dX12_laws_14 ?_
    refine xr_bipush (v := 40) dX12_laws_15 (by decide) ?_
    refine xr_icmpge (tgt := 64) dX12_laws_17 (by decide) (fun zc17 => ?_) (fun zc17 => ?_)
    · skip
      exact absurd zc17 (nI_ge (b := 40) (by omega) (by decide))
    · skip
      refine xr_al0 dX12_laws_20 ?_
      refine xr_il2 dX12_laws_21 ?_
      refine xr_Vpi1 (s_mIsLaw W Sw.1 Sw.2.1 _) kX12_360 (by decide) (Nat.le_of_ble_eq_true rfl) (Nat.zero_add _) (Nat.zero_add _) dX12_laws_22 (fun zv22 zh1 zq1 => ?_)
      obtain ⟨rfl, W⟩ := zq1
      refine xr_eqi (y := (if (flB wf wg wn) k = true then 1 else 0)) (il_fl Sw.2.2 k wn 0 (by omega) rfl) ?_
      refine xr_ifne (tgt := 31) dX12_laws_25 (by decide) (fun zc25 => ?_) (fun zc25 => ?_)
      · skip
        refine xr_il1 dX12_laws_31 ?_
        refine xr_ifne (tgt := 55) dX12_laws_32 (by decide) (fun zc32 => ?_) (fun zc32 => ?_)
        · skip
          refine xr_inc1 dX12_laws_55 (nI_inc _) (by decide) rfl ?_
          refine xr_inc2 dX12_laws_58 (nI_inc k) (by decide) rfl ?_
          refine xr_goto (tgt := 14) dX12_laws_61 (by decide) ?_
          have gz : (flB wf wg wn) k = true := Bool.not_eq_false _ |>.mp (fun q => zc25 ((b01 _).mpr q))
          rw [show nI (cnP (flB wf wg wn) k + 1) = nI (cnP (flB wf wg wn) (k + 1)) from by rw [cnP_s, if_pos gz]]
          exact ih (k + 1) (lq_y hq gz (fun q => zc32 (by rw [q]; rfl))) W (by omega)
        · skip
          have c0 : cnP (flB wf wg wn) k = 0 := (nI_eq (b := 0) (by omega) (by decide)).mp zc32
          have x0 : x = 0 := by
            rcases hq with ⟨-, q⟩ | ⟨q, -⟩
            · exact q
            · exact absurd c0 q
          refine xr_al0 dX12_laws_35 ?_
          refine xr_il2 dX12_laws_36 ?_
          refine xr_bipush (v := 8) dX12_laws_37 (by decide) ?_
          refine xr_idiv dX12_laws_39 (by decide) ?_
          refine xr_eqi (y := nI (k / 8)) (pk_div (d := 8) (by omega) (by decide) (by decide)) ?_
          refine xr_i2l dX12_laws_40 ?_
          refine xr_Vpv1 (s_mTell W (k := 0) (show upd m 4 x 4 = nI 0 from x0) (by decide) _) kX12_253 (by decide) (Nat.le_of_ble_eq_true rfl) (Nat.zero_add _) (Nat.zero_add _) dX12_laws_41 (fun zh2 zq2 => ?_)
          have W := zq2
          refine xr_al0 dX12_laws_44 ?_
          refine xr_ic5 dX12_laws_45 ?_
          refine xr_il2 dX12_laws_46 ?_
          refine xr_bipush (v := 8) dX12_laws_47 (by decide) ?_
          refine xr_irem dX12_laws_49 (by decide) ?_
          refine xr_eqi (y := nI (k % 8)) (pk_rem (d := 8) (by omega) (by decide) (by decide)) ?_
          refine xr_iadd dX12_laws_50 ?_
          refine xr_eqi (y := nI (5 + k % 8)) (nI_add 5 _) ?_
          refine xr_i2l dX12_laws_51 ?_
          refine xr_Vpv1 (s_mTell W (k := 1) rfl (by decide) _) kX12_253 (by decide) (Nat.le_of_ble_eq_true rfl) (Nat.zero_add _) (Nat.zero_add _) dX12_laws_52 (fun zh3 zq3 => ?_)
          have W := zq3
          refine xr_inc1 dX12_laws_55 (nI_inc _) (by decide) rfl ?_
          refine xr_inc2 dX12_laws_58 (nI_inc k) (by decide) rfl ?_
          refine xr_goto (tgt := 14) dX12_laws_61 (by decide) ?_
          have gz : (flB wf wg wn) k = true := Bool.not_eq_false _ |>.mp (fun q => zc25 ((b01 _).mpr q))
          rw [show nI (cnP (flB wf wg wn) k + 1) = nI (cnP (flB wf wg wn) (k + 1)) from by rw [cnP_s, if_pos gz]]
          rw [upd_upd, upd_upd] at W
          exact ih (k + 1) (lq_f gz c0 rfl rfl) W (by omega)
      · skip
        refine xr_goto (tgt := 58) dX12_laws_28 (by decide) ?_
        refine xr_inc2 dX12_laws_58 (nI_inc k) (by decide) rfl ?_
        refine xr_goto (tgt := 14) dX12_laws_61 (by decide) ?_
        have gz : ¬ (flB wf wg wn) k = true := fun q => by
          rw [if_pos q] at zc25
          exact absurd zc25 (by decide)
        rw [show cnP (flB wf wg wn) k = cnP (flB wf wg wn) (k + 1) from by rw [cnP_s, if_neg gz, Nat.add_zero]]
        exact ih (k + 1) (lq_n hq gz) W (by omega)
set_option maxRecDepth 20000 in
theorem a_laws {K : xK} {B : Nat} {l : Launch} {h0 h : xH} {Y : Nat} {th : Int32} {tn : Nat} {tf : xs} {rk : Int32} {rv : Nat → Int64} {σ : xs} {pn : Nat} {τ : Nat → xs} {ks : Nat → Bool} {κ : Nat → xs} {φ : xs → Int32} {hn : Nat} {hf hg : xs} {wn : Nat} {wf wg : xs} (A : xMa K B l h0 h Y th tn tf rk rv σ pn τ ks κ φ hn hf hg wn wf wg)  : xV K B l 206 mX12_laws 0 0 (Y) [] h (xPi (fun zr g => zr = (lwR (flN wf wg wn) rv).1 ∧ xMa K B l h0 g Y 0 tn tf ((lwR (flN wf wg wn) rv).2.1) ((lwR (flN wf wg wn) rv).2.2) σ pn τ ks κ φ hn hf hg wn wf wg)) := by
  obtain ⟨m, rd, u, v, W, T, Rw, ⟨R, ok, iv⟩, P, Kp, L, H, Sw, hth⟩ := A
  refine ⟨⟨_, _, _, _, W.o, rfl⟩, qX12_laws, ?_⟩
  refine xS.intro RX12 false ⟨rfl, rfl, by decide, by decide, Nat.le_of_ble_eq_true rfl⟩ (ls := [some (.ref Y), none, none]) rfl ?_
  refine xr_al0 dX12_laws_0 ?_
  refine xr_ic0 dX12_laws_1 ?_
  refine xr_put W.o fX12_82 (Nat.le_of_ble_eq_true rfl) rfl rfl dX12_laws_2 ?_
  refine xT.nm (fun zh1 zg1 => ?_)
  have W := W.f5 zg1
  refine xr_ic0 dX12_laws_5 ?_
  refine xr_is1 dX12_laws_6 (by decide) rfl ?_
  refine xr_al0 dX12_laws_7 ?_
  refine xr_ic0 dX12_laws_8 ?_
  refine xr_put W.o fX12_86 (Nat.le_of_ble_eq_true rfl) rfl rfl dX12_laws_9 ?_
  refine xT.nm (fun zh2 zg2 => ?_)
  have W := W.f4 zg2
  refine xr_ic0 dX12_laws_12 ?_
  refine xr_is2 dX12_laws_13 (by decide) rfl ?_
  have C : maC K B l Y (upd m 5 0) u v tn tf rk rv σ pn τ ks κ φ hn hf hg wn wf wg := ⟨T, Rw, ⟨R, ok, iv⟩, P, Kp, L, H, Sw⟩
  exact lp_mLaws C rfl 40 0 (x := 0) (Or.inl ⟨rfl, rfl⟩) W rfl
theorem cnP_sp (p q : Nat → Bool) : ∀ k, cnP p k = cnP (fun i => p i && q i) k + cnP (fun i => p i && !q i) k := by
  intro k
  induction k with
  | zero => rfl
  | succ k ih =>
    rw [cnP_s, cnP_s, cnP_s, ih]
    cases p k <;> cases q k <;> simp <;> omega
def yL (p : Nat → Bool) (j : Nat) (i : Nat) : Bool := p i && inL (nI j) i
def nL (p : Nat → Bool) (j : Nat) (i : Nat) : Bool := p i && !inL (nI j) i
theorem lk_left {f g : xs} {n : Nat} (j : Nat) : iMax (lbc (flN f g n &&& ltr (nI j))) (lbc (flN f g n) - lbc (flN f g n &&& ltr (nI j))) = iMax (nI (cnP (yL (flB f g n) j) 40)) (nI (cnP (nL (flB f g n) j) 40)) := by
  have c := chL_fl f g n
  have r := isR_fl f g n
  have e1 : lbc (flN f g n &&& ltr (nI j)) = nI (cnP (yL (flB f g n) j) 40) := chL_bc (chL_and c (chL_ltr _)) (isR_in r _)
  have s : cnP (flB f g n) 40 = cnP (yL (flB f g n) j) 40 + cnP (nL (flB f g n) j) 40 := cnP_sp _ _ 40
  rw [e1, chL_bc c r, nI_sub (by omega)]
  congr 2
  omega
theorem iMax_nn {a b : Nat} (ha : a < 2 ^ 31) (hb : b < 2 ^ 31) : iMax (nI a) (nI b) = nI (max a b) := by
  unfold iMax
  by_cases c : a < b
  · rw [if_pos (nI_lt c hb), Nat.max_eq_right (by omega)]
  · rw [if_neg (nI_nlt (by omega) (by omega)), Nat.max_eq_left (by omega)]
def lkS (p : Nat → Bool) (k : Nat) (z : Int32 × Int32) (b l : Int32) : Prop := (k = 0 ∧ z = (1048576, 0) ∧ l = 1000000) ∨ (0 < k ∧ z = (l, b) ∧ ∃ q : Nat, q ≤ 40 ∧ l = nI q ∧ (q = 0 ↔ cnP p 40 = 0))
theorem lk_w (p : Nat → Bool) (j : Nat) : ∃ q : Nat, q ≤ 40 ∧ iMax (nI (cnP (yL p j) 40)) (nI (cnP (nL p j) 40)) = nI q ∧ (q = 0 ↔ cnP p 40 = 0) := by
  have a := cnP_le (yL p j) 40
  have b := cnP_le (nL p j) 40
  have s : cnP p 40 = cnP (yL p j) 40 + cnP (nL p j) 40 := cnP_sp _ _ 40
  exact ⟨_, by omega, iMax_nn (by omega) (by omega), by omega⟩
theorem lk_no {f g : xs} {n k : Nat} {z : Int32 × Int32} {b l : Int32} (h : lkS (flB f g n) k z b l) (c2 : ¬ iMax (nI (cnP (yL (flB f g n) k) 40)) (nI (cnP (nL (flB f g n) k) 40)) < l) : lkS (flB f g n) (k + 1) (lk1 (flN f g n) k z) b l := by
  unfold lk1
  rw [lk_left]
  obtain ⟨q, hq, eq, -⟩ := lk_w (flB f g n) k
  rcases h with ⟨rfl, rfl, rfl⟩ | ⟨h1, rfl, h3⟩
  · rw [eq] at c2
    exact absurd (nI_lt (b := 1000000) (by omega) (by decide)) c2
  · exact Or.inr ⟨by omega, if_neg c2, h3⟩
theorem lk_yes {f g : xs} {n k : Nat} {z : Int32 × Int32} {b l : Int32} (h : lkS (flB f g n) k z b l) (c2 : iMax (nI (cnP (yL (flB f g n) k) 40)) (nI (cnP (nL (flB f g n) k) 40)) < l) : lkS (flB f g n) (k + 1) (lk1 (flN f g n) k z) (nI k) (iMax (nI (cnP (yL (flB f g n) k) 40)) (nI (cnP (nL (flB f g n) k) 40))) := by
  unfold lk1
  rw [lk_left]
  have w := lk_w (flB f g n) k
  refine Or.inr ⟨by omega, ?_, w⟩
  obtain ⟨q, hq, eq, -⟩ := w
  rcases h with ⟨rfl, rfl, rfl⟩ | ⟨h1, rfl, h3⟩
  · rw [eq]
    exact if_pos (nI_lt (b := 1048576) (by omega) (by decide))
  · exact if_pos c2
theorem rb_in (j k : Nat) : mIn (nI j) (nI k / 8) (5 + remI (nI k) 8) = (if inL (nI j) k = true then 1 else 0) := by
  unfold mIn bI inL
  by_cases c : ¬ nI j < nI k / 8 ∧ ¬ 5 + remI (nI k) 8 < nI j
  · rw [if_pos c, if_pos (decide_eq_true c)]
  · rw [if_neg c, if_neg (fun q => c (of_decide_eq_true q))]
set_option maxRecDepth 20000 in
theorem lp_mLookI {K : xK} {B : Nat} {l : Launch} {h0 : xH} {Y : Nat} {m : xs} {u : Nat → Nat → Int32} {v : Nat → Int64} {tn : Nat} {tf : xs} {rk : Int32} {rv : Nat → Int64} {σ : xs} {pn : Nat} {τ : Nat → xs} {ks : Nat → Bool} {κ : Nat → xs} {φ : xs → Int32} {hn : Nat} {hf hg : xs} {wn : Nat} {wf wg : xs} (C : maC K B l Y m u v tn tf rk rv σ pn τ ks κ φ hn hf hg wn wf wg) (h5 : m 5 = 0) {rd : Value} {Q : Option Value → xH → Prop} {j : Nat} {b l' : Int32} (hc : ∀ {h : xH} {x6 : Option Value}, xMw K h0 h Y m rd (Y + 6) (Y + 7) u v → xT K B l 206 RX12 false cX12_looks 7 (some .int) 0 0 0 0 (Q) 71 [some (.ref Y), some (.int b), some (.int l'), some (.int (nI j)), some (.int (nI (cnP (yL (flB wf wg wn) j) 40))), some (.int (nI (cnP (nL (flB wf wg wn) j) 40))), x6] [] h) : ∀ (r k : Nat) {h : xH} (W : xMw K h0 h Y m rd (Y + 6) (Y + 7) u v), k + r = 40 → xT K B l 206 RX12 false cX12_looks 7 (some .int) 0 0 0 0 (Q) 28 [some (.ref Y), some (.int b), some (.int l'), some (.int (nI j)), some (.int (nI (cnP (yL (flB wf wg wn) j) k))), some (.int (nI (cnP (nL (flB wf wg wn) j) k))), some (.int (nI k))] [] h := by
  obtain ⟨T, Rw, ⟨R, ok, iv⟩, P, Kp, L, H, Sw⟩ := id C
  intro r
  induction r with
  | zero =>
    intro k h W hk
    refine xr_il6 dX12_looks_28 ?_
    refine xr_bipush (v := 40) dX12_looks_30 (by decide) ?_
    refine xr_icmpge (tgt := 71) dX12_looks_32 (by decide) (fun zc32 => ?_) (fun zc32 => ?_)
    · skip
      have e40 : k = 40 := by omega
      subst e40
      exact hc W
    · skip
      exact absurd (nI_le (a := 40) (by omega) (by omega)) zc32
  | succ r ih =>
    intro k h W hk
    refine xr_il6 dX12_looks_28 ?_
    refine xr_bipush (v := 40) dX12_looks_30 (by decide) ?_
    refine xr_icmpge (tgt := 71) dX12_looks_32 (by decide) (fun zc32 => ?_) (fun zc32 => ?_)
    · skip
      exact absurd zc32 (nI_ge (b := 40) (by omega) (by decide))
    · skip
      refine xr_al0 dX12_looks_35 ?_
      refine xr_il6 dX12_looks_36 ?_
      refine xr_Vpi1 (s_mIsLaw W Sw.1 Sw.2.1 _) kX12_360 (by decide) (Nat.le_of_ble_eq_true rfl) (Nat.zero_add _) (Nat.zero_add _) dX12_looks_38 (fun zv38 zh1 zq1 => ?_)
      obtain ⟨rfl, W⟩ := zq1
      refine xr_eqi (y := (if (flB wf wg wn) k = true then 1 else 0)) (il_fl Sw.2.2 k wn 0 (by omega) rfl) ?_
      refine xr_ifne (tgt := 47) dX12_looks_41 (by decide) (fun zc41 => ?_) (fun zc41 => ?_)
      · skip
        refine xr_il6 dX12_looks_47 ?_
        refine xr_il3 dX12_looks_49 ?_
        refine xr_Si2 (s_mRunsBy _ _) kX12_357 (by decide) (Nat.le_of_ble_eq_true rfl) (Nat.zero_add _) (Nat.zero_add _) dX12_looks_50 ?_
        refine xr_eqi (y := (if inL (nI j) k = true then 1 else 0)) (rb_in j k) ?_
        refine xr_ifeq (tgt := 62) dX12_looks_53 (by decide) (fun zc53 => ?_) (fun zc53 => ?_)
        · skip
          refine xr_inc5 dX12_looks_62 (nI_inc _) (by decide) rfl ?_
          refine xr_inc6 dX12_looks_65 (nI_inc k) (by decide) rfl ?_
          refine xr_goto (tgt := 28) dX12_looks_68 (by decide) ?_
          have gz : (flB wf wg wn) k = true := Bool.not_eq_false _ |>.mp (fun q => zc41 ((b01 _).mpr q))
          have iz : inL (nI j) k = false := (b01 _).mp zc53
          have z := ih (k + 1) W (by omega)
          rw [show cnP (yL (flB wf wg wn) j) (k + 1) = cnP (yL (flB wf wg wn) j) k from by rw [cnP_s, if_neg (show ¬ (yL (flB wf wg wn) j) k = true from by unfold yL; rw [iz, Bool.and_false]; decide), Nat.add_zero], show cnP (nL (flB wf wg wn) j) (k + 1) = cnP (nL (flB wf wg wn) j) k + 1 from by rw [cnP_s, if_pos (show (nL (flB wf wg wn) j) k = true from by unfold nL; rw [gz, iz]; decide)]] at z
          exact z
        · skip
          refine xr_inc4 dX12_looks_56 (nI_inc _) (by decide) rfl ?_
          refine xr_goto (tgt := 65) dX12_looks_59 (by decide) ?_
          refine xr_inc6 dX12_looks_65 (nI_inc k) (by decide) rfl ?_
          refine xr_goto (tgt := 28) dX12_looks_68 (by decide) ?_
          have gz : (flB wf wg wn) k = true := Bool.not_eq_false _ |>.mp (fun q => zc41 ((b01 _).mpr q))
          have iz : inL (nI j) k = true := Bool.not_eq_false _ |>.mp (fun q => zc53 ((b01 _).mpr q))
          have z := ih (k + 1) W (by omega)
          rw [show cnP (yL (flB wf wg wn) j) (k + 1) = cnP (yL (flB wf wg wn) j) k + 1 from by rw [cnP_s, if_pos (show (yL (flB wf wg wn) j) k = true from by unfold yL; rw [gz, iz]; decide)], show cnP (nL (flB wf wg wn) j) (k + 1) = cnP (nL (flB wf wg wn) j) k from by rw [cnP_s, if_neg (show ¬ (nL (flB wf wg wn) j) k = true from by unfold nL; rw [gz, iz]; decide), Nat.add_zero]] at z
          exact z
      · skip
        refine xr_goto (tgt := 65) dX12_looks_44 (by decide) ?_
        refine xr_inc6 dX12_looks_65 (nI_inc k) (by decide) rfl ?_
        refine xr_goto (tgt := 28) dX12_looks_68 (by decide) ?_
        have gz : (flB wf wg wn) k = false := (b01 _).mp zc41
        have z := ih (k + 1) W (by omega)
        rw [show cnP (yL (flB wf wg wn) j) (k + 1) = cnP (yL (flB wf wg wn) j) k from by rw [cnP_s, if_neg (show ¬ (yL (flB wf wg wn) j) k = true from by unfold yL; rw [gz, Bool.false_and]; decide), Nat.add_zero], show cnP (nL (flB wf wg wn) j) (k + 1) = cnP (nL (flB wf wg wn) j) k from by rw [cnP_s, if_neg (show ¬ (nL (flB wf wg wn) j) k = true from by unfold nL; rw [gz, Bool.false_and]; decide), Nat.add_zero]] at z
        exact z
set_option maxRecDepth 20000 in
theorem lp_mLookO {K : xK} {B : Nat} {l : Launch} {h0 : xH} {Y : Nat} {m : xs} {u : Nat → Nat → Int32} {v : Nat → Int64} {tn : Nat} {tf : xs} {rk : Int32} {rv : Nat → Int64} {σ : xs} {pn : Nat} {τ : Nat → xs} {ks : Nat → Bool} {κ : Nat → xs} {φ : xs → Int32} {hn : Nat} {hf hg : xs} {wn : Nat} {wf wg : xs} (C : maC K B l Y m u v tn tf rk rv σ pn τ ks κ φ hn hf hg wn wf wg) (h5 : m 5 = 0) {rd : Value} : ∀ (r j : Nat) {b l' : Int32} {x4 x5 x6 : Option Value} {h : xH} {z : Int32 × Int32} (hz : lkS (flB wf wg wn) j z b l') (hrun : lkN (flN wf wg wn) r j z = lkN (flN wf wg wn) 31 0 (1048576, 0)) (W : xMw K h0 h Y m rd (Y + 6) (Y + 7) u v), j + r = 31 → xT K B l 206 RX12 false cX12_looks 7 (some .int) 0 0 0 0 (xPi (fun zr g => zr = (lkR (flN wf wg wn) rk rv).1 ∧ xMa K B l h0 g Y 0 tn tf ((lkR (flN wf wg wn) rk rv).2.1) ((lkR (flN wf wg wn) rk rv).2.2) σ pn τ ks κ φ hn hf hg wn wf wg)) 13 [some (.ref Y), some (.int b), some (.int l'), some (.int (nI j)), x4, x5, x6] [] h := by
  obtain ⟨T, Rw, ⟨R, ok, iv⟩, P, Kp, L, H, Sw⟩ := id C
  intro r
  induction r with
  | zero =>
    intro j b l' x4 x5 x6 h z hz hrun W hk
    refine xr_il3 dX12_looks_13 ?_
    refine xr_bipush (v := 30) dX12_looks_14 (by decide) ?_
    refine xr_icmpgt (tgt := 101) dX12_looks_16 (by decide) (fun zc16 => ?_) (fun zc16 => ?_)
    · skip
      refine xr_il2 dX12_looks_101 ?_
      refine xr_ifne (tgt := 108) dX12_looks_102 (by decide) (fun zc102 => ?_) (fun zc102 => ?_)
      · skip
        refine xr_al0 dX12_looks_108 ?_
        refine xr_ic0 dX12_looks_109 ?_
        refine xr_put W.o fX12_86 (Nat.le_of_ble_eq_true rfl) rfl rfl dX12_looks_110 ?_
        refine xT.nm (fun zh1 zg1 => ?_)
        have W := W.f4 zg1
        refine xr_al0 dX12_looks_113 ?_
        refine xr_il2 dX12_looks_114 ?_
        refine xr_i2l dX12_looks_115 ?_
        refine xr_Vpv1 (s_mTell W (k := 0) rfl (by decide) _) kX12_253 (by decide) (Nat.le_of_ble_eq_true rfl) (Nat.zero_add _) (Nat.zero_add _) dX12_looks_116 (fun zh2 zq2 => ?_)
        have W := zq2
        refine xr_il1 dX12_looks_119 ?_
        refine xr_iret dX12_looks_120 rfl ?_
        obtain ⟨ez, q, hq, el, eqz⟩ : z = (l', b) ∧ ∃ q : Nat, q ≤ 40 ∧ l' = nI q ∧ (q = 0 ↔ cnP (flB wf wg wn) 40 = 0) := by
          rcases hz with ⟨q, -, -⟩ | ⟨-, q⟩
          · omega
          · exact q
        have e : (lkR (flN wf wg wn) rk rv) = aqE rv (lkN (flN wf wg wn) 31 0 (1048576, 0)) := if_neg (fun y => zc102 (by rw [el, eqz.mpr ((chL_z (chL_fl wf wg wn)).mp y)]; rfl))
        rw [e, ← hrun, show lkN (flN wf wg wn) 0 j z = z from rfl, ez]
        exact ⟨_, rfl, rfl, ⟨_, _, _, _, W, T, maR1 _, ⟨R, ok, iv⟩, P, Kp, L, H, Sw, h5⟩⟩
      · skip
        refine xr_bipush (v := (-2)) dX12_looks_105 (by decide) ?_
        refine xr_iret dX12_looks_107 rfl ?_
        obtain ⟨ez, q, hq, el, eqz⟩ : z = (l', b) ∧ ∃ q : Nat, q ≤ 40 ∧ l' = nI q ∧ (q = 0 ↔ cnP (flB wf wg wn) 40 = 0) := by
          rcases hz with ⟨q, -, -⟩ | ⟨-, q⟩
          · omega
          · exact q
        have e : (lkR (flN wf wg wn) rk rv) = _ := if_pos ((chL_z (chL_fl wf wg wn)).mpr (eqz.mp ((nI_eq (b := 0) (by omega) (by decide)).mp (el.symm.trans zc102))))
        rw [e]
        exact ⟨_, rfl, rfl, ⟨_, _, _, _, W, T, Rw, ⟨R, ok, iv⟩, P, Kp, L, H, Sw, h5⟩⟩
    · skip
      exact absurd (nI_lt (a := 30) (by omega) (by omega)) zc16
  | succ r ih =>
    intro j b l' x4 x5 x6 h z hz hrun W hk
    refine xr_il3 dX12_looks_13 ?_
    refine xr_bipush (v := 30) dX12_looks_14 (by decide) ?_
    refine xr_icmpgt (tgt := 101) dX12_looks_16 (by decide) (fun zc16 => ?_) (fun zc16 => ?_)
    · skip
      exact absurd zc16 (nI_nlt (a := 30) (by omega) (by decide))
    · skip
      refine xr_ic0 dX12_looks_19 ?_
      refine xr_is4 dX12_looks_20 (by decide) rfl ?_
      refine xr_ic0 dX12_looks_22 ?_
      refine xr_is5 dX12_looks_23 (by decide) rfl ?_
      refine xr_ic0 dX12_looks_25 ?_
      refine xr_is6 dX12_looks_26 (by decide) rfl ?_
      rw [lkN_s] at hrun
      refine lp_mLookI C h5 (fun {h} {x6} W => ?_) 40 0 W (by omega)
      refine xr_il4 dX12_looks_71 ?_
      refine xr_il5 dX12_looks_73 ?_
      refine xr_max kmX12_201 ms_max wz_J9 mc_max (by decide) (Nat.le_of_ble_eq_true rfl) dX12_looks_75 ?_
      refine xr_eqi (y := iMax (nI (cnP (yL (flB wf wg wn) j) 40)) (nI (cnP (nL (flB wf wg wn) j) 40))) rfl ?_
      refine xr_il2 dX12_looks_78 ?_
      refine xr_icmplt (tgt := 85) dX12_looks_79 (by decide) (fun zc79 => ?_) (fun zc79 => ?_)
      · skip
        refine xr_il3 dX12_looks_85 ?_
        refine xr_is1 dX12_looks_86 (by decide) rfl ?_
        refine xr_il4 dX12_looks_87 ?_
        refine xr_il5 dX12_looks_89 ?_
        refine xr_max kmX12_201 ms_max wz_J9 mc_max (by decide) (Nat.le_of_ble_eq_true rfl) dX12_looks_91 ?_
        refine xr_eqi (y := iMax (nI (cnP (yL (flB wf wg wn) j) 40)) (nI (cnP (nL (flB wf wg wn) j) 40))) rfl ?_
        refine xr_is2 dX12_looks_94 (by decide) rfl ?_
        refine xr_inc3 dX12_looks_95 (nI_inc j) (by decide) rfl ?_
        refine xr_goto (tgt := 13) dX12_looks_98 (by decide) ?_
        exact ih (j + 1) (lk_yes hz zc79) hrun W (by omega)
      · skip
        refine xr_goto (tgt := 95) dX12_looks_82 (by decide) ?_
        refine xr_inc3 dX12_looks_95 (nI_inc j) (by decide) rfl ?_
        refine xr_goto (tgt := 13) dX12_looks_98 (by decide) ?_
        exact ih (j + 1) (lk_no hz zc79) hrun W (by omega)
set_option maxRecDepth 20000 in
theorem a_looks {K : xK} {B : Nat} {l : Launch} {h0 h : xH} {Y : Nat} {th : Int32} {tn : Nat} {tf : xs} {rk : Int32} {rv : Nat → Int64} {σ : xs} {pn : Nat} {τ : Nat → xs} {ks : Nat → Bool} {κ : Nat → xs} {φ : xs → Int32} {hn : Nat} {hf hg : xs} {wn : Nat} {wf wg : xs} (A : xMa K B l h0 h Y th tn tf rk rv σ pn τ ks κ φ hn hf hg wn wf wg)  : xV K B l 206 mX12_looks 0 0 (Y) [] h (xPi (fun zr g => zr = (lkR (flN wf wg wn) rk rv).1 ∧ xMa K B l h0 g Y 0 tn tf ((lkR (flN wf wg wn) rk rv).2.1) ((lkR (flN wf wg wn) rk rv).2.2) σ pn τ ks κ φ hn hf hg wn wf wg)) := by
  obtain ⟨m, rd, u, v, W, T, Rw, ⟨R, ok, iv⟩, P, Kp, L, H, Sw, hth⟩ := A
  refine ⟨⟨_, _, _, _, W.o, rfl⟩, qX12_looks, ?_⟩
  refine xS.intro RX12 false ⟨rfl, rfl, by decide, by decide, Nat.le_of_ble_eq_true rfl⟩ (ls := [some (.ref Y), none, none, none, none, none, none]) rfl ?_
  refine xr_al0 dX12_looks_0 ?_
  refine xr_ic0 dX12_looks_1 ?_
  refine xr_put W.o fX12_82 (Nat.le_of_ble_eq_true rfl) rfl rfl dX12_looks_2 ?_
  refine xT.nm (fun zh1 zg1 => ?_)
  have W := W.f5 zg1
  refine xr_icm1 dX12_looks_5 ?_
  refine xr_is1 dX12_looks_6 (by decide) rfl ?_
  refine xr_ldcw nX12_300 dX12_looks_7 ?_
  refine xr_is2 dX12_looks_10 (by decide) rfl ?_
  refine xr_ic0 dX12_looks_11 ?_
  refine xr_is3 dX12_looks_12 (by decide) rfl ?_
  have C : maC K B l Y (upd m 5 0) u v tn tf rk rv σ pn τ ks κ φ hn hf hg wn wf wg := ⟨T, Rw, ⟨R, ok, iv⟩, P, Kp, L, H, Sw⟩
  exact lp_mLookO C rfl 31 0 (Or.inl ⟨rfl, rfl, rfl⟩) rfl W rfl
