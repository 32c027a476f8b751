/-! The model in the class's words: asks (written by wip/whole/mod30.py) -/
theorem sh31 : ∀ p, p < 10 → ((nI p &&& 31).toBitVec.smod 32).toNat = p := by decide +kernel
theorem mHas_ch {x : Int32} {f : Nat → Bool} (h : ch x f) {p : Nat} (hp : p < 10) : mHas x (nI p) = (if f p = true then 1 else 0) := by
  unfold ch at h
  have a := ch_lt f
  unfold mHas bI
  rw [h, pk_shrN (by omega) _ p (sh31 p hp), pk_andN (m := 1) (Nat.lt_of_le_of_lt (Nat.div_le_self _ _) (by omega)) 1 rfl]
  have e : (sB f 10).testBit p = f p := by rw [sB_bit]; simp [hp]
  rw [Nat.testBit_eq_decide_div_mod_eq] at e
  have l2 : sB f 10 / 2 ^ p % 2 ^ 1 < 2 := Nat.mod_lt _ (by decide)
  have k : (nI (sB f 10 / 2 ^ p % 2 ^ 1) = 1) ↔ (f p = true) := by
    rw [← e, decide_eq_true_eq, show (1 : Int32) = nI 1 from rfl, nI_eq (by omega) (by decide)]
  by_cases c : f p = true
  · rw [if_pos c, if_pos (k.mpr c)]
  · rw [if_neg c, if_neg (fun q => c (k.mp q))]
def aF (σ : xs) (F : Nat → Bool) (a b : Int32) (i : Nat) : Bool := F i && sop σ a b i
def ak (a b : Int32) : Int32 := iMax a (b - a)
theorem as_left {σ : xs} (ok : hOk σ) {f g : xs} {n : Nat} (a b : Int32) : iMax (bc (foN σ f g n &&& hSuch σ a b)) (bc (foN σ f g n) - bc (foN σ f g n &&& hSuch σ a b)) = ak (nI (cnP (aF σ (foB σ f g n) a b) 10)) (bc (foN σ f g n)) := by
  have e : bc (foN σ f g n &&& hSuch σ a b) = nI (cnP (aF σ (foB σ f g n) a b) 10) := by
    refine ch_bc (ch_cg (ch_and (ch_fo ok f g n) (ch_such ok a b)) (fun i _ => ?_))
    unfold aF
    by_cases c : foB σ f g n i = true
    · rw [c, foB_pty σ f g n i c]
      rfl
    · rw [Bool.not_eq_true] at c
      rw [c]
      rfl
  rw [e]
  rfl
theorem ak_small {y c : Nat} (hy : y ≤ 10) (hc : c ≤ 10) : ∃ q : Nat, q ≤ 10 ∧ ak (nI y) (nI c) = nI q := by
  unfold ak iMax
  by_cases h : y < c - y
  · rw [nI_sub (by omega), if_pos (nI_lt h (by omega))]
    exact ⟨c - y, by omega, rfl⟩
  · rw [if_neg]
    · exact ⟨y, hy, rfl⟩
    · intro q
      by_cases h2 : y ≤ c
      · rw [nI_sub h2] at q
        exact h ((nI_ltI (by omega) (by omega)).mp q)
      · exact absurd (Int32.lt_trans q (pk_sneg (by omega) (by omega))) (nI_pos (by omega))
def aqS (k : Nat) (z : Int32 × Int32) (b l : Int32) : Prop := (k = 0 ∧ z = (1048576, 0) ∧ l = 1000000) ∨ (0 < k ∧ z = (l, b))
theorem aq_skip {σ : xs} {fi : Int32} {k : Nat} {z : Int32 × Int32} {b l : Int32} (h : aqS k z b l) (c : mbh (nI k / 10) (remI (nI k) 10) = 0) : aqS (k + 1) (aq1 σ fi k z) b l := by
  unfold aq1
  rw [if_pos c]
  rcases h with ⟨rfl, -, -⟩ | ⟨h1, h2⟩
  · exact absurd c (by decide)
  · exact Or.inr ⟨by omega, h2⟩
theorem aq_no {σ : xs} {fi : Int32} {k : Nat} {z : Int32 × Int32} {b l w : Int32} (h : aqS k z b l) (c : ¬ mbh (nI k / 10) (remI (nI k) 10) = 0) (ew : iMax (bc (fi &&& hSuch σ (nI k / 10) (remI (nI k) 10))) (bc fi - bc (fi &&& hSuch σ (nI k / 10) (remI (nI k) 10))) = w) (hw : ∃ q : Nat, q ≤ 10 ∧ w = nI q) (c2 : ¬ w < l) : aqS (k + 1) (aq1 σ fi k z) b l := by
  unfold aq1
  rw [if_neg c, ew]
  rcases h with ⟨rfl, rfl, rfl⟩ | ⟨h1, rfl⟩
  · obtain ⟨q, hq, rfl⟩ := hw
    exact absurd (nI_lt (b := 1000000) (by omega) (by decide)) c2
  · exact Or.inr ⟨by omega, if_neg c2⟩
theorem aq_yes {σ : xs} {fi : Int32} {k : Nat} {z : Int32 × Int32} {b l w : Int32} (h : aqS k z b l) (c : ¬ mbh (nI k / 10) (remI (nI k) 10) = 0) (ew : iMax (bc (fi &&& hSuch σ (nI k / 10) (remI (nI k) 10))) (bc fi - bc (fi &&& hSuch σ (nI k / 10) (remI (nI k) 10))) = w) (hw : ∃ q : Nat, q ≤ 10 ∧ w = nI q) (c2 : w < l) : aqS (k + 1) (aq1 σ fi k z) (nI k) w := by
  unfold aq1
  rw [if_neg c, ew]
  rcases h with ⟨rfl, rfl, rfl⟩ | ⟨h1, rfl⟩
  · obtain ⟨q, hq, rfl⟩ := hw
    exact Or.inr ⟨by omega, if_pos (nI_lt (b := 1048576) (by omega) (by decide))⟩
  · exact Or.inr ⟨by omega, if_pos c2⟩
theorem what4 {k : Nat} (h : k < 40) : nI k / 10 = 0 ∨ nI k / 10 = 1 ∨ nI k / 10 = 2 ∨ nI k / 10 = 3 := by
  rw [show nI k / 10 = nI (k / 10) from pk_div (d := 10) (by omega) (by decide) (by decide)]
  rcases (show k / 10 = 0 ∨ k / 10 = 1 ∨ k / 10 = 2 ∨ k / 10 = 3 by omega) with e | e | e | e <;> rw [e]
  · exact Or.inl rfl
  · exact Or.inr (Or.inl rfl)
  · exact Or.inr (Or.inr (Or.inl rfl))
  · exact Or.inr (Or.inr (Or.inr rfl))
theorem in4 {x : Int32} (h : x = 0 ∨ x = 1 ∨ x = 2 ∨ x = 3) : ¬ mIn x 0 3 = 0 := by
  rcases h with rfl | rfl | rfl | rfl <;> decide
set_option maxRecDepth 20000 in
theorem lp_mAskI {K : xK} {B : Nat} {l : Launch} {h0 : xH} {Y : Nat} {m : xs} {u : Nat → Nat → Int32} {v : Nat → Int64} {tn : Nat} {tf : xs} {rk : Int32} {rv : Nat → Int64} {σ : xs} {pn : Nat} {τ : Nat → xs} {ks : Nat → Bool} {κ : Nat → xs} {φ : xs → Int32} {hn : Nat} {hf hg : xs} {wn : Nat} {wf wg : xs} (C : maC K B l Y m u v tn tf rk rv σ pn τ ks κ φ hn hf hg wn wf wg) (h5 : m 5 = 0) {rd : Value} {Q : Option Value → xH → Prop} {k : Nat} (hk4 : k < 40) {b l' : Int32} (hc : ∀ {h : xH} {x6 : Option Value}, xMw K h0 h Y m rd (Y + 6) (Y + 7) u v → xT K B l 206 RX12 false cX12_asks 7 (some .int) 0 0 0 0 (Q) 120 [some (.ref Y), some (.int (foN σ hf hg hn)), some (.int b), some (.int l'), some (.int (nI k)), some (.int (nI (cnP (aF σ (foB σ hf hg hn) (nI k / 10) (remI (nI k) 10)) 10))), x6] [] h) : ∀ (r p : Nat) {h : xH} (W : xMw K h0 h Y m rd (Y + 6) (Y + 7) u v), p + r = 10 → xT K B l 206 RX12 false cX12_asks 7 (some .int) 0 0 0 0 (Q) 69 [some (.ref Y), some (.int (foN σ hf hg hn)), some (.int b), some (.int l'), some (.int (nI k)), some (.int (nI (cnP (aF σ (foB σ hf hg hn) (nI k / 10) (remI (nI k) 10)) p))), some (.int (nI p))] [] h := by
  obtain ⟨T, Rw, ⟨R, ok, iv⟩, P, Kp, L, H, Sw⟩ := id C
  intro r
  induction r with
  | zero =>
    intro p h W hk
    refine xr_il6 dX12_asks_69 ?_
    refine xr_bipush (v := 10) dX12_asks_71 (by decide) ?_
    refine xr_icmpge (tgt := 120) dX12_asks_73 (by decide) (fun zc73 => ?_) (fun zc73 => ?_)
    · skip
      have p10 : p = 10 := by omega
      subst p10
      exact hc W
    · skip
      exact absurd (nI_le (a := 10) (by omega) (by omega)) zc73
  | succ r ih =>
    intro p h W hk
    refine xr_il6 dX12_asks_69 ?_
    refine xr_bipush (v := 10) dX12_asks_71 (by decide) ?_
    refine xr_icmpge (tgt := 120) dX12_asks_73 (by decide) (fun zc73 => ?_) (fun zc73 => ?_)
    · skip
      exact absurd zc73 (nI_ge (b := 10) (by omega) (by decide))
    · skip
      refine xr_il5 dX12_asks_76 ?_
      refine xr_il1 dX12_asks_78 ?_
      refine xr_il6 dX12_asks_79 ?_
      refine xr_Si2 (s_mHas _ _) kX12_183 (by decide) (Nat.le_of_ble_eq_true rfl) (Nat.zero_add _) (Nat.zero_add _) dX12_asks_81 ?_
      refine xr_eqi (y := (if (foB σ hf hg hn) p = true then 1 else 0)) (mHas_ch (ch_fo ok hf hg hn) (by omega)) ?_
      refine xr_ifeq (tgt := 110) dX12_asks_84 (by decide) (fun zc84 => ?_) (fun zc84 => ?_)
      · skip
        refine xr_ic0 dX12_asks_110 ?_
        refine xr_iadd dX12_asks_111 ?_
        refine xr_is5 dX12_asks_112 (by decide) rfl ?_
        refine xr_inc6 dX12_asks_114 (nI_inc p) (by decide) rfl ?_
        refine xr_goto (tgt := 69) dX12_asks_117 (by decide) ?_
        have gz : ¬ (aF σ (foB σ hf hg hn) (nI k / 10) (remI (nI k) 10)) p = true := by
          unfold aF
          rw [(b01 _).mp zc84, Bool.false_and]
          exact fun q => absurd q (by decide)
        rw [Int32.add_zero, show cnP (aF σ (foB σ hf hg hn) (nI k / 10) (remI (nI k) 10)) p = cnP (aF σ (foB σ hf hg hn) (nI k / 10) (remI (nI k) 10)) (p + 1) from by rw [cnP_s, if_neg gz, Nat.add_zero]]
        exact ih (p + 1) W (by omega)
      · skip
        have ft : (foB σ hf hg hn) p = true := Bool.not_eq_false _ |>.mp (fun q => zc84 ((b01 _).mpr q))
        refine xr_al0 dX12_asks_87 ?_
        refine xr_il6 dX12_asks_88 ?_
        refine xr_il4 dX12_asks_90 ?_
        refine xr_bipush (v := 10) dX12_asks_92 (by decide) ?_
        refine xr_idiv dX12_asks_94 (by decide) ?_
        refine xr_il4 dX12_asks_95 ?_
        refine xr_bipush (v := 10) dX12_asks_97 (by decide) ?_
        refine xr_irem dX12_asks_99 (by decide) ?_
        refine xr_eqi (y := remI (nI k) 10) rfl ?_
        refine xr_Vpi3 (s_mIsSo W ok R (by omega) (of_decide_eq_true (foB_pty σ hf hg hn p ft)) (what4 hk4) _) kX12_348 (by decide) (Nat.le_of_ble_eq_true rfl) (Nat.zero_add _) (Nat.zero_add _) dX12_asks_100 (fun zv100 zh1 zq1 => ?_)
        obtain ⟨rfl, W⟩ := zq1
        refine xr_eqi (so01 σ _ _ p) ?_
        refine xr_ifeq (tgt := 110) dX12_asks_103 (by decide) (fun zc103 => ?_) (fun zc103 => ?_)
        · skip
          refine xr_ic0 dX12_asks_110 ?_
          refine xr_iadd dX12_asks_111 ?_
          refine xr_is5 dX12_asks_112 (by decide) rfl ?_
          refine xr_inc6 dX12_asks_114 (nI_inc p) (by decide) rfl ?_
          refine xr_goto (tgt := 69) dX12_asks_117 (by decide) ?_
          have gz : ¬ (aF σ (foB σ hf hg hn) (nI k / 10) (remI (nI k) 10)) p = true := by
            unfold aF
            rw [(b01 _).mp zc103, Bool.and_false]
            exact fun q => absurd q (by decide)
          rw [Int32.add_zero, show cnP (aF σ (foB σ hf hg hn) (nI k / 10) (remI (nI k) 10)) p = cnP (aF σ (foB σ hf hg hn) (nI k / 10) (remI (nI k) 10)) (p + 1) from by rw [cnP_s, if_neg gz, Nat.add_zero]]
          exact ih (p + 1) W (by omega)
        · skip
          refine xr_ic1 dX12_asks_106 ?_
          refine xr_goto (tgt := 111) dX12_asks_107 (by decide) ?_
          refine xr_iadd dX12_asks_111 ?_
          refine xr_is5 dX12_asks_112 (by decide) rfl ?_
          refine xr_inc6 dX12_asks_114 (nI_inc p) (by decide) rfl ?_
          refine xr_goto (tgt := 69) dX12_asks_117 (by decide) ?_
          have gz : (aF σ (foB σ hf hg hn) (nI k / 10) (remI (nI k) 10)) p = true := by
            unfold aF
            rw [ft, Bool.not_eq_false _ |>.mp (fun q => zc103 ((b01 _).mpr q))]
            rfl
          rw [nI_1, show cnP (aF σ (foB σ hf hg hn) (nI k / 10) (remI (nI k) 10)) p + 1 = cnP (aF σ (foB σ hf hg hn) (nI k / 10) (remI (nI k) 10)) (p + 1) from by rw [cnP_s, if_pos gz]]
          exact ih (p + 1) W (by omega)
set_option maxRecDepth 20000 in
theorem lp_mAskO {K : xK} {B : Nat} {l : Launch} {h0 : xH} {Y : Nat} {m : xs} {u : Nat → Nat → Int32} {v : Nat → Int64} {tn : Nat} {tf : xs} {rk : Int32} {rv : Nat → Int64} {σ : xs} {pn : Nat} {τ : Nat → xs} {ks : Nat → Bool} {κ : Nat → xs} {φ : xs → Int32} {hn : Nat} {hf hg : xs} {wn : Nat} {wf wg : xs} (C : maC K B l Y m u v tn tf rk rv σ pn τ ks κ φ hn hf hg wn wf wg) (h5 : m 5 = 0) {rd : Value} : ∀ (r k : Nat) {b l' : Int32} {x5 x6 : Option Value} {h : xH} {z : Int32 × Int32} (hz : aqS k z b l') (W : xMw K h0 h Y m rd (Y + 6) (Y + 7) u v), k + r = 40 → xT K B l 206 RX12 false cX12_asks 7 (some .int) 0 0 0 0 (xPi (fun zr g => zr = (aqE rv (aqN σ (foN σ hf hg hn) r k z)).1 ∧ xMa K B l h0 g Y 0 tn tf ((aqE rv (aqN σ (foN σ hf hg hn) r k z)).2.1) ((aqE rv (aqN σ (foN σ hf hg hn) r k z)).2.2) σ pn τ ks κ φ hn hf hg wn wf wg)) 26 [some (.ref Y), some (.int (foN σ hf hg hn)), some (.int b), some (.int l'), some (.int (nI k)), x5, x6] [] h := by
  obtain ⟨T, Rw, ⟨R, ok, iv⟩, P, Kp, L, H, Sw⟩ := id C
  intro r
  induction r with
  | zero =>
    intro k b l' x5 x6 h z hz W hk
    refine xr_il4 dX12_asks_26 ?_
    refine xr_bipush (v := 40) dX12_asks_28 (by decide) ?_
    refine xr_icmpge (tgt := 155) dX12_asks_30 (by decide) (fun zc30 => ?_) (fun zc30 => ?_)
    · skip
      refine xr_al0 dX12_asks_155 ?_
      refine xr_ic0 dX12_asks_156 ?_
      refine xr_put W.o fX12_86 (Nat.le_of_ble_eq_true rfl) rfl rfl dX12_asks_157 ?_
      refine xT.nm (fun zh1 zg1 => ?_)
      have W := W.f4 zg1
      refine xr_al0 dX12_asks_160 ?_
      refine xr_il3 dX12_asks_161 ?_
      refine xr_i2l dX12_asks_162 ?_
      refine xr_Vpv1 (s_mTell W (k := 0) rfl (by decide) _) kX12_253 (by decide) (Nat.le_of_ble_eq_true rfl) (Nat.zero_add _) (Nat.zero_add _) dX12_asks_163 (fun zh2 zq2 => ?_)
      have W := zq2
      refine xr_il2 dX12_asks_166 ?_
      refine xr_iret dX12_asks_167 rfl ?_
      have ez : z = (l', b) := by
        rcases hz with ⟨q, -, -⟩ | ⟨-, q⟩
        · omega
        · exact q
      rw [show aqN σ (foN σ hf hg hn) 0 k z = z from rfl, ez]
      exact ⟨_, rfl, rfl, ⟨_, _, _, _, W, T, maR1 _, ⟨R, ok, iv⟩, P, Kp, L, H, Sw, h5⟩⟩
    · skip
      exact absurd (nI_le (a := 40) (by omega) (by omega)) zc30
  | succ r ih =>
    intro k b l' x5 x6 h z hz W hk
    refine xr_il4 dX12_asks_26 ?_
    refine xr_bipush (v := 40) dX12_asks_28 (by decide) ?_
    refine xr_icmpge (tgt := 155) dX12_asks_30 (by decide) (fun zc30 => ?_) (fun zc30 => ?_)
    · skip
      exact absurd zc30 (nI_ge (b := 40) (by omega) (by decide))
    · skip
      refine xr_il4 dX12_asks_33 ?_
      refine xr_bipush (v := 10) dX12_asks_35 (by decide) ?_
      refine xr_irem dX12_asks_37 (by decide) ?_
      refine xr_eqi (y := remI (nI k) 10) rfl ?_
      refine xr_il4 dX12_asks_38 ?_
      refine xr_bipush (v := 10) dX12_asks_40 (by decide) ?_
      refine xr_idiv dX12_asks_42 (by decide) ?_
      refine xr_Si1 (s_mLow _) kX12_339 (by decide) (Nat.le_of_ble_eq_true rfl) (Nat.zero_add _) (Nat.zero_add _) dX12_asks_43 ?_
      refine xr_il4 dX12_asks_46 ?_
      refine xr_bipush (v := 10) dX12_asks_48 (by decide) ?_
      refine xr_idiv dX12_asks_50 (by decide) ?_
      refine xr_Si1 (s_mHigh _) kX12_342 (by decide) (Nat.le_of_ble_eq_true rfl) (Nat.zero_add _) (Nat.zero_add _) dX12_asks_51 ?_
      refine xr_Si3 (s_mIn _ _ _) kX12_89 (by decide) (Nat.le_of_ble_eq_true rfl) (Nat.zero_add _) (Nat.zero_add _) dX12_asks_54 ?_
      refine xr_ifne (tgt := 63) dX12_asks_57 (by decide) (fun zc57 => ?_) (fun zc57 => ?_)
      · skip
        refine xr_ic0 dX12_asks_63 ?_
        refine xr_is5 dX12_asks_64 (by decide) rfl ?_
        refine xr_ic0 dX12_asks_66 ?_
        refine xr_is6 dX12_asks_67 (by decide) rfl ?_
        refine lp_mAskI C h5 (by omega) (fun {h} {x6} W => ?_) 10 0 W (by omega)
        refine xr_il5 dX12_asks_120 ?_
        refine xr_il1 dX12_asks_122 ?_
        refine xr_Si1 (s_bitCount _) kX12_229 (by decide) (Nat.le_of_ble_eq_true rfl) (Nat.zero_add _) (Nat.zero_add _) dX12_asks_123 ?_
        refine xr_il5 dX12_asks_126 ?_
        refine xr_isub dX12_asks_128 ?_
        refine xr_max kmX12_201 ms_max wz_J9 mc_max (by decide) (Nat.le_of_ble_eq_true rfl) dX12_asks_129 ?_
        refine xr_eqi (y := ak (nI (cnP (aF σ (foB σ hf hg hn) (nI k / 10) (remI (nI k) 10)) 10)) (bc (foN σ hf hg hn))) rfl ?_
        refine xr_is6 dX12_asks_132 (by decide) rfl ?_
        refine xr_il6 dX12_asks_134 ?_
        refine xr_il3 dX12_asks_136 ?_
        refine xr_icmplt (tgt := 143) dX12_asks_137 (by decide) (fun zc137 => ?_) (fun zc137 => ?_)
        · skip
          refine xr_il4 dX12_asks_143 ?_
          refine xr_is2 dX12_asks_145 (by decide) rfl ?_
          refine xr_il6 dX12_asks_146 ?_
          refine xr_is3 dX12_asks_148 (by decide) rfl ?_
          refine xr_inc4 dX12_asks_149 (nI_inc k) (by decide) rfl ?_
          refine xr_goto (tgt := 26) dX12_asks_152 (by decide) ?_
          rw [aqN_s]
          exact ih (k + 1) (aq_yes hz (mbh_mod.mp ⟨in4 (what4 (by omega)), zc57⟩) (as_left ok (nI k / 10) (remI (nI k) 10)) (by
            rw [ch_bc (ch_fo ok hf hg hn)]
            exact ak_small (cnP_le _ 10) (cnP_le _ 10)) zc137) W (by omega)
        · skip
          refine xr_goto (tgt := 149) dX12_asks_140 (by decide) ?_
          refine xr_inc4 dX12_asks_149 (nI_inc k) (by decide) rfl ?_
          refine xr_goto (tgt := 26) dX12_asks_152 (by decide) ?_
          rw [aqN_s]
          exact ih (k + 1) (aq_no hz (mbh_mod.mp ⟨in4 (what4 (by omega)), zc57⟩) (as_left ok (nI k / 10) (remI (nI k) 10)) (by
            rw [ch_bc (ch_fo ok hf hg hn)]
            exact ak_small (cnP_le _ 10) (cnP_le _ 10)) zc137) W (by omega)
      · skip
        refine xr_goto (tgt := 149) dX12_asks_60 (by decide) ?_
        refine xr_inc4 dX12_asks_149 (nI_inc k) (by decide) rfl ?_
        refine xr_goto (tgt := 26) dX12_asks_152 (by decide) ?_
        have c0 : mbh (nI k / 10) (remI (nI k) 10) = 0 := Decidable.not_not.mp (fun q => (mbh_mod.mpr q).2 zc57)
        rw [aqN_s]
        exact ih (k + 1) (aq_skip hz c0) W (by omega)
set_option maxRecDepth 20000 in
theorem a_asks {K : xK} {B : Nat} {l : Launch} {h0 h : xH} {Y : Nat} {th : Int32} {tn : Nat} {tf : xs} {rk : Int32} {rv : Nat → Int64} {σ : xs} {pn : Nat} {τ : Nat → xs} {ks : Nat → Bool} {κ : Nat → xs} {φ : xs → Int32} {hn : Nat} {hf hg : xs} {wn : Nat} {wf wg : xs} (A : xMa K B l h0 h Y th tn tf rk rv σ pn τ ks κ φ hn hf hg wn wf wg)  : xV K B l 206 mX12_asks 0 0 (Y) [] h (xPi (fun zr g => zr = (aqR σ rk rv (foN σ hf hg hn)).1 ∧ xMa K B l h0 g Y 0 tn tf ((aqR σ rk rv (foN σ hf hg hn)).2.1) ((aqR σ rk rv (foN σ hf hg hn)).2.2) σ pn τ ks κ φ hn hf hg wn wf wg)) := by
  obtain ⟨m, rd, u, v, W, T, Rw, ⟨R, ok, iv⟩, P, Kp, L, H, Sw, hth⟩ := A
  refine ⟨⟨_, _, _, _, W.o, rfl⟩, qX12_asks, ?_⟩
  refine xS.intro RX12 false ⟨rfl, rfl, by decide, by decide, Nat.le_of_ble_eq_true rfl⟩ (ls := [some (.ref Y), none, none, none, none, none, none]) rfl ?_
  refine xr_al0 dX12_asks_0 ?_
  refine xr_ic0 dX12_asks_1 ?_
  refine xr_put W.o fX12_82 (Nat.le_of_ble_eq_true rfl) rfl rfl dX12_asks_2 ?_
  refine xT.nm (fun zh1 zg1 => ?_)
  have W := W.f5 zg1
  have C : maC K B l Y (upd m 5 0) u v tn tf rk rv σ pn τ ks κ φ hn hf hg wn wf wg := ⟨T, Rw, ⟨R, ok, iv⟩, P, Kp, L, H, Sw⟩
  refine xr_al0 dX12_asks_5 ?_
  refine xr_Vpi0 (s_mFitting C rfl W) kX12_351 (by decide) (Nat.le_of_ble_eq_true rfl) (Nat.zero_add _) (Nat.zero_add _) dX12_asks_6 (fun zv6 zh2 zq2 => ?_)
  obtain ⟨rfl, W⟩ := zq2
  refine xr_is1 dX12_asks_9 (by decide) rfl ?_
  refine xr_il1 dX12_asks_10 ?_
  refine xr_ifne (tgt := 17) dX12_asks_11 (by decide) (fun zc11 => ?_) (fun zc11 => ?_)
  · skip
    refine xr_icm1 dX12_asks_17 ?_
    refine xr_is2 dX12_asks_18 (by decide) rfl ?_
    refine xr_ldcw nX12_300 dX12_asks_19 ?_
    refine xr_is3 dX12_asks_22 (by decide) rfl ?_
    refine xr_ic0 dX12_asks_23 ?_
    refine xr_is4 dX12_asks_24 (by decide) rfl ?_
    have e : (aqR σ rk rv (foN σ hf hg hn)) = _ := if_neg zc11
    rw [e]
    exact lp_mAskO C rfl 40 0 (Or.inl ⟨rfl, rfl, rfl⟩) W rfl
  · skip
    refine xr_bipush (v := (-2)) dX12_asks_14 (by decide) ?_
    refine xr_iret dX12_asks_16 rfl ?_
    have e : (aqR σ rk rv (foN σ hf hg hn)) = _ := if_pos zc11
    rw [e]
    exact ⟨_, rfl, rfl, ⟨_, _, _, _, W, T, Rw, ⟨R, ok, iv⟩, P, Kp, L, H, Sw, rfl⟩⟩
