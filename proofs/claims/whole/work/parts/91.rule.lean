/-! The model in the class's words: rule (written by wip/whole/mod48.py) -/
theorem u6x {K : xK} {h0 h : xH} {Y : Nat} {m : Nat → Int32} {rd : Value} {ru ot : Nat} {U : Nat → Nat → Int32} {v : Nat → Int64} {f f' : xs} (W : xMw K h0 h Y m rd ru ot (uu (uu U 6 f) 6 f') v) : xMw K h0 h Y m rd ru ot (uu U 6 f') v := by
  rw [uu_uu] at W
  exact W
theorem u6i {K : xK} {h0 h : xH} {Y : Nat} {m : Nat → Int32} {rd : Value} {ru ot : Nat} {U : Nat → Nat → Int32} {v : Nat → Int64} (W : xMw K h0 h Y m rd ru ot U v) : xMw K h0 h Y m rd ru ot (uu U 6 (U 6)) v := by
  rw [uu_id]
  exact W
theorem cp_up {t f : xs} {k : Nat} {x : Int32} (hx : x = t k) (h : ∀ i, i < k → f i = t i) : ∀ i, i < k + 1 → upd f k x i = t i := by
  intro i hi
  by_cases c : i = k
  · rw [c, upd_eq, hx]
  · rw [upd_hi f x c]
    exact h i (by omega)
set_option maxRecDepth 20000 in
theorem lp_rule {K : xK} {B : Nat} {l : Launch} {h0 : xH} {Y : Nat} {m : xs} {u : Nat → Nat → Int32} {v : Nat → Int64} {tn : Nat} {tf : xs} {rk : Int32} {rv : Nat → Int64} {σ : xs} {pn : Nat} {τ : Nat → xs} {ks : Nat → Bool} {κ : Nat → xs} {φ : xs → Int32} {hn : Nat} {hf hg : xs} {wn : Nat} {wf wg : xs} (C : maC K B l Y m u v tn tf rk rv σ pn τ ks κ φ hn hf hg wn wf wg) (h5 : m 5 = 0) (h80 : tn ≤ 80) (T0 : ∀ j, j < tn → u 2 j &&& 255 = tf j ∧ byt (u 2 j)) (hok : (rdV tf tn).1 = -1) {p : Nat} {w : Int32} : ∀ (r k : Nat) {h : xH} {f : xs} (fk : ∀ i, i < k → f i = u 2 i) (W : xMw K h0 h Y (rdm (upd (pM' m tn) 16 0) p w) (.ref (Y + 2)) (Y + 6) (Y + 7) (uu u 6 f) v), k + r = tn → xT K B l 206 RX12 false cX12_rule 3 (some .int) 0 0 0 0 (xPi (fun zr g => zr = (if (rdV tf tn).1 = -1 then 0 else -1 - (rdV tf tn).1) ∧ xMa K B l h0 g Y 0 0 tf rk rv σ pn τ ks κ (if (rdV tf tn).1 = -1 then ruF tf tn else φ) hn hf hg wn wf wg)) 26 [some (.ref Y), some (.int (nI tn)), some (.int (nI k))] [] h := by
  obtain ⟨T, Rw, ⟨R, ok, iv⟩, P, Kp, L, H, Sw⟩ := id C
  have t40 := rdV_40 hok
  intro r
  induction r with
  | zero =>
    intro k h f fk W hk
    refine xr_il2 dX12_rule_26 ?_
    refine xr_il1 dX12_rule_27 ?_
    refine xr_icmpge (tgt := 49) dX12_rule_28 (by decide) (fun zc28 => ?_) (fun zc28 => ?_)
    · skip
      refine xr_al0 dX12_rule_49 ?_
      refine xr_il1 dX12_rule_50 ?_
      refine xr_put W.o fX12_180 (Nat.le_of_ble_eq_true rfl) rfl rfl dX12_rule_51 ?_
      refine xT.nm (fun zh1 zg1 => ?_)
      have W := W.f15 zg1
      refine xr_ic0 dX12_rule_54 ?_
      refine xr_iret dX12_rule_55 rfl ?_
      rw [if_pos hok, if_pos hok]
      exact ⟨_, rfl, rfl, ⟨_, _, _, _, W, ⟨rfl, by omega, fun j hj => absurd hj (by omega)⟩, Rw, ⟨R, ok, iv⟩, P, Kp, mSp6 h80 (fun j hj => by rw [uu_jj, fk j (by omega)]; exact T0 j hj) hok, H, Sw, h5⟩⟩
    · skip
      exact absurd (nI_le (by omega) (by omega)) zc28
  | succ r ih =>
    intro k h f fk W hk
    refine xr_il2 dX12_rule_26 ?_
    refine xr_il1 dX12_rule_27 ?_
    refine xr_icmpge (tgt := 49) dX12_rule_28 (by decide) (fun zc28 => ?_) (fun zc28 => ?_)
    · skip
      exact absurd zc28 (nI_ge (by omega) (by omega))
    · skip
      refine xr_al0 dX12_rule_31 ?_
      refine xr_get W.o fX12_27 rfl dX12_rule_32 ?_
      refine xr_il2 dX12_rule_35 ?_
      refine xr_al0 dX12_rule_36 ?_
      refine xr_get W.o fX12_13 rfl dX12_rule_37 ?_
      refine xr_il2 dX12_rule_40 ?_
      refine xr_bald W.a2 (xix_nI (n := 80) (j := k) (by omega) (by decide)) dX12_rule_41 ?_
      refine xr_bast W.a6 (xix_nI (n := 40) (j := k) (by omega) (by decide)) dX12_rule_42 ?_
      refine xT.nm (fun zh1 zg1 => ?_)
      have W := u6x (W.p6 zg1)
      refine xr_inc2 dX12_rule_43 (nI_1 k) (by decide) rfl ?_
      refine xr_goto (tgt := 26) dX12_rule_46 (by decide) ?_
      exact ih (k + 1) (cp_up (T0 k (by omega)).2 fk) W (by omega)
set_option maxRecDepth 20000 in
theorem a_rule {K : xK} {B : Nat} {l : Launch} {h0 h : xH} {Y : Nat} {th : Int32} {tn : Nat} {tf : xs} {rk : Int32} {rv : Nat → Int64} {σ : xs} {pn : Nat} {τ : Nat → xs} {ks : Nat → Bool} {κ : Nat → xs} {φ : xs → Int32} {hn : Nat} {hf hg : xs} {wn : Nat} {wf wg : xs} (A : xMa K B l h0 h Y th tn tf rk rv σ pn τ ks κ φ hn hf hg wn wf wg)  : xV K B l 206 mX12_rule 0 0 (Y) [] h (xPi (fun zr g => zr = (if (rdV tf tn).1 = -1 then 0 else -1 - (rdV tf tn).1) ∧ xMa K B l h0 g Y 0 0 tf rk rv σ pn τ ks κ (if (rdV tf tn).1 = -1 then ruF tf tn else φ) hn hf hg wn wf wg)) := by
  obtain ⟨m, rd, u, v, W, T, Rw, ⟨R, ok, iv⟩, P, Kp, L, H, Sw, hth⟩ := A
  refine ⟨⟨_, _, _, _, W.o, rfl⟩, qX12_rule, ?_⟩
  refine xS.intro RX12 false ⟨rfl, rfl, by decide, by decide, Nat.le_of_ble_eq_true rfl⟩ (ls := [some (.ref Y), none, none]) rfl ?_
  refine xr_al0 dX12_rule_0 ?_
  refine xr_ic0 dX12_rule_1 ?_
  refine xr_put W.o fX12_82 (Nat.le_of_ble_eq_true rfl) rfl rfl dX12_rule_2 ?_
  refine xT.nm (fun zh1 zg1 => ?_)
  have W := W.f5 zg1
  refine xr_al0 dX12_rule_5 ?_
  refine xr_get W.o fX12_93 rfl dX12_rule_6 ?_
  refine xr_eqi (y := nI tn) T.1 ?_
  refine xr_is1 dX12_rule_9 (by decide) rfl ?_
  refine xr_al0 dX12_rule_10 ?_
  refine xr_Vpi0 (r_readRule (m := upd m 5 0) (tf := tf) T.1 T.2.1 T.2.2 W) kX12_177 (by decide) (Nat.le_of_ble_eq_true rfl) (Nat.zero_add _) (Nat.zero_add _) dX12_rule_11 (fun zv11 zh2 zq2 => ?_)
  obtain ⟨rfl, p, bp, W⟩ := zq2
  refine xr_ifne (tgt := 24) dX12_rule_14 (by decide) (fun zc14 => ?_) (fun zc14 => ?_)
  · skip
    have hok : (rdV tf tn).1 = -1 := (Decidable.not_not.mp (fun q => zc14 (bI_0.mpr q)))
    refine xr_ic0 dX12_rule_24 ?_
    refine xr_is2 dX12_rule_25 (by decide) rfl ?_
    have C : maC K B l Y (upd m 5 0) u v tn tf rk rv σ pn τ ks κ φ hn hf hg wn wf wg := ⟨T, Rw, ⟨R, ok, iv⟩, P, Kp, L, H, Sw⟩
    exact lp_rule (m := upd m 5 0) C rfl T.2.1 T.2.2 hok tn 0 (fun i hi => absurd hi (by omega)) (u6i W) (by omega)
  · skip
    have hok : ¬ (rdV tf tn).1 = -1 := bI_0.mp zc14
    refine xr_icm1 dX12_rule_17 ?_
    refine xr_al0 dX12_rule_18 ?_
    refine xr_get W.o fX12_108 rfl dX12_rule_19 ?_
    refine xr_eqi (y := (rdV tf tn).1) rfl ?_
    refine xr_isub dX12_rule_22 ?_
    refine xr_iret dX12_rule_23 rfl ?_
    rw [if_neg hok, if_neg hok]
    exact ⟨_, rfl, rfl, ⟨_, _, _, _, W, ⟨rfl, by omega, fun j hj => absurd hj (by omega)⟩, Rw, ⟨R, ok, iv⟩, P, Kp, L, H, Sw, rfl⟩⟩
