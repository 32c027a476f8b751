/-! The class's own methods: parts, spare, best, least, freely (written by wip/whole/car6.py) -/
set_option maxRecDepth 20000 in
theorem lp_parts {K : xK} {B : Nat} {l : Launch} {h0 h : xH} {X D : Nat} {tn : Nat} {tf : Nat → Int32} {rk : Int32} {rv : Nat → Int64} {σ : xs} {β : xs} {γ : xs} {pn : Nat} {τ : Nat → xs} {ks : Nat → Bool} {κ : Nat → xs} {φ : xs → Int32} {hn : Nat} {hf : Nat → Int32} {hg : Nat → Int32} {wn : Nat} {wf : Nat → Int32} {wg : Nat → Int32} (W : xCw K h0 h X D tn tf rk rv σ β γ pn τ ks κ φ hn hf hg wn wf wg) {s : Nat} (hs : s < 2) : ∀ (r k : Nat) (z : Int32 × Int32) (y6 : Option Value), k + r = aN σ s + 1 → xT K B l 3 RX11 false cX11_parts 7 (some .int) 0 0 0 0 (xPi (fun zr g => zr = (paE σ s rv (paN σ s r k z)).1 ∧ ∃ γ', xCw K h0 g X D tn tf ((paE σ s rv (paN σ s r k z)).2.1) ((paE σ s rv (paN σ s r k z)).2.2) σ β (γ') pn τ ks κ φ hn hf hg wn wf wg)) 38 [some (.ref X), some (.int (nI s)), some (.int (wt σ s (hAll σ (nI s)))), some (.int z.1), some (.int z.2), some (.int (nI k)), y6] [] h := by
  have hx := (hAll_n W.pok hs).2
  intro r
  induction r with
  | zero =>
    intro k z y6 hk
    refine xr_il5 dX11_parts_38 ?_
    refine xr_al0 dX11_parts_40 ?_
    refine xr_get W.oX fX11_26 rfl dX11_parts_41 ?_
    refine xr_il1 dX11_parts_44 ?_
    refine xr_Vi1 (s_allOf W.Hh _) kX11_165 (by decide) (Nat.le_of_ble_eq_true rfl) (Nat.zero_add _) (Nat.zero_add _) dX11_parts_45 ?_
    refine xr_eqi (y := nI (aN σ s)) (hAll_n W.pok hs).1 ?_
    refine xr_icmpgt (tgt := 89) dX11_parts_48 (by decide) (fun zc48 => ?_) (fun zc48 => ?_)
    · skip
      refine xr_al0 dX11_parts_89 ?_
      refine xr_get W.oX fX11_19 rfl dX11_parts_90 ?_
      refine xr_il4 dX11_parts_93 ?_
      refine xr_i2l dX11_parts_95 ?_
      refine xr_al0 dX11_parts_96 ?_
      refine xr_get W.oX fX11_26 rfl dX11_parts_97 ?_
      refine xr_il1 dX11_parts_100 ?_
      refine xr_il4 dX11_parts_101 ?_
      refine xr_Vi2 (s_weightOf W.Hh W.pok hs _) kX11_168 (by decide) (Nat.le_of_ble_eq_true rfl) (Nat.zero_add _) (Nat.zero_add _) dX11_parts_103 ?_
      refine xr_i2l dX11_parts_106 ?_
      refine xr_Vv2 (s_tell2 W.Hr _ _) kX11_236 (by decide) (Nat.le_of_ble_eq_true rfl) (Nat.zero_add _) (Nat.zero_add _) dX11_parts_107 ?_
      refine xT.nm (fun zh1 zg1 => ?_)
      have W := W.ur (fB2 zg1)
      refine xr_il3 dX11_parts_110 ?_
      refine xr_iret dX11_parts_111 rfl ?_
      exact ⟨_, rfl, rfl, _, W⟩
    · skip
      exact absurd (nI_lt (a := aN σ s) (by omega) (by omega)) zc48
  | succ r ih =>
    intro k z y6 hk
    refine xr_il5 dX11_parts_38 ?_
    refine xr_al0 dX11_parts_40 ?_
    refine xr_get W.oX fX11_26 rfl dX11_parts_41 ?_
    refine xr_il1 dX11_parts_44 ?_
    refine xr_Vi1 (s_allOf W.Hh _) kX11_165 (by decide) (Nat.le_of_ble_eq_true rfl) (Nat.zero_add _) (Nat.zero_add _) dX11_parts_45 ?_
    refine xr_eqi (y := nI (aN σ s)) (hAll_n W.pok hs).1 ?_
    refine xr_icmpgt (tgt := 89) dX11_parts_48 (by decide) (fun zc48 => ?_) (fun zc48 => ?_)
    · skip
      exact absurd zc48 (Int32.not_lt.mpr (nI_le (by omega) (by omega)))
    · skip
      refine xr_il2 dX11_parts_51 ?_
      refine xr_ic2 dX11_parts_52 ?_
      refine xr_al0 dX11_parts_53 ?_
      refine xr_get W.oX fX11_26 rfl dX11_parts_54 ?_
      refine xr_il1 dX11_parts_57 ?_
      refine xr_il5 dX11_parts_58 ?_
      refine xr_Vi2 (s_weightOf W.Hh W.pok hs _) kX11_168 (by decide) (Nat.le_of_ble_eq_true rfl) (Nat.zero_add _) (Nat.zero_add _) dX11_parts_60 ?_
      refine xr_imul dX11_parts_63 ?_
      refine xr_isub dX11_parts_64 ?_
      refine xr_abs kmX11_360 ms_abs wz_J9 mc_abs (by decide) (Nat.le_of_ble_eq_true rfl) dX11_parts_65 ?_
      refine xr_is6 dX11_parts_68 (by decide) rfl ?_
      refine xr_il6 dX11_parts_70 ?_
      refine xr_il3 dX11_parts_72 ?_
      refine xr_icmpge (tgt := 83) dX11_parts_73 (by decide) (fun zc73 => ?_) (fun zc73 => ?_)
      · skip
        refine xr_inc5 dX11_parts_83 (nI_inc k) (by decide) rfl ?_
        refine xr_goto (tgt := 38) dX11_parts_86 (by decide) ?_
        have e : pa1 σ s k z = _ := if_neg (Int32.not_lt.mpr zc73)
        rw [paN_s, e]
        exact ih (k + 1) _ _ (by omega)
      · skip
        refine xr_il6 dX11_parts_76 ?_
        refine xr_is3 dX11_parts_78 (by decide) rfl ?_
        refine xr_il5 dX11_parts_79 ?_
        refine xr_is4 dX11_parts_81 (by decide) rfl ?_
        refine xr_inc5 dX11_parts_83 (nI_inc k) (by decide) rfl ?_
        refine xr_goto (tgt := 38) dX11_parts_86 (by decide) ?_
        have e : pa1 σ s k z = _ := if_pos (Int32.not_le.mp zc73)
        rw [paN_s, e]
        exact ih (k + 1) _ _ (by omega)
set_option maxRecDepth 20000 in
theorem s_parts {K : xK} {B : Nat} {l : Launch} {h0 h : xH} {X D : Nat} {tn : Nat} {tf : Nat → Int32} {rk : Int32} {rv : Nat → Int64} {σ : xs} {β : xs} {γ : xs} {pn : Nat} {τ : Nat → xs} {ks : Nat → Bool} {κ : Nat → xs} {φ : xs → Int32} {hn : Nat} {hf : Nat → Int32} {hg : Nat → Int32} {wn : Nat} {wf : Nat → Int32} {wg : Nat → Int32} (W : xCw K h0 h X D tn tf rk rv σ β γ pn τ ks κ φ hn hf hg wn wf wg) (x : Int32) : xV K B l 3 mX11_parts 0 0 (X) [.int x] h (xPi (fun zr g => zr = (paR σ rk rv x).1 ∧ ∃ γ', xCw K h0 g X D tn tf ((paR σ rk rv x).2.1) ((paR σ rk rv x).2.2) σ β (γ') pn τ ks κ φ hn hf hg wn wf wg)) := by
  refine ⟨⟨_, _, _, _, W.oX, rfl⟩, qX11_parts, ?_⟩
  refine xS.intro RX11 false ⟨rfl, rfl, by decide, by decide, Nat.le_of_ble_eq_true rfl⟩ (ls := [some (.ref X), some (.int x), none, none, none, none, none]) rfl ?_
  refine xr_il1 dX11_parts_0 ?_
  refine xr_ifeq (tgt := 11) dX11_parts_1 (by decide) (fun zc1 => ?_) (fun zc1 => ?_)
  · skip
    have z0 : x = nI 0 := zc1
    subst z0
    refine xr_al0 dX11_parts_11 ?_
    refine xr_get W.oX fX11_26 rfl dX11_parts_12 ?_
    refine xr_il1 dX11_parts_15 ?_
    refine xr_al0 dX11_parts_16 ?_
    refine xr_get W.oX fX11_26 rfl dX11_parts_17 ?_
    refine xr_il1 dX11_parts_20 ?_
    refine xr_Vi1 (s_allOf W.Hh _) kX11_165 (by decide) (Nat.le_of_ble_eq_true rfl) (Nat.zero_add _) (Nat.zero_add _) dX11_parts_21 ?_
    refine xr_Vi2 (s_weightOf W.Hh W.pok (s := 0) (by decide) _) kX11_168 (by decide) (Nat.le_of_ble_eq_true rfl) (Nat.zero_add _) (Nat.zero_add _) dX11_parts_24 ?_
    refine xr_is2 dX11_parts_27 (by decide) rfl ?_
    refine xr_ldcw nX11_339 dX11_parts_28 ?_
    refine xr_is3 dX11_parts_31 (by decide) rfl ?_
    refine xr_ic0 dX11_parts_32 ?_
    refine xr_is4 dX11_parts_33 (by decide) rfl ?_
    refine xr_ic0 dX11_parts_35 ?_
    refine xr_is5 dX11_parts_36 (by decide) rfl ?_
    have hs : 0 < 2 := by decide
    have e : (paR σ rk rv (nI 0)) = _ := if_pos (by first | exact Or.inl rfl | exact Or.inr rfl)
    rw [nI_clamp (by decide)] at e
    rw [e]
    exact lp_parts W hs (aN σ 0 + 1) 0 (1048576, 0) none (by omega)
  · skip
    refine xr_il1 dX11_parts_4 ?_
    refine xr_ic1 dX11_parts_5 ?_
    refine xr_icmpeq (tgt := 11) dX11_parts_6 (by decide) (fun zc6 => ?_) (fun zc6 => ?_)
    · skip
      have z0 : x = nI 1 := zc6
      subst z0
      refine xr_al0 dX11_parts_11 ?_
      refine xr_get W.oX fX11_26 rfl dX11_parts_12 ?_
      refine xr_il1 dX11_parts_15 ?_
      refine xr_al0 dX11_parts_16 ?_
      refine xr_get W.oX fX11_26 rfl dX11_parts_17 ?_
      refine xr_il1 dX11_parts_20 ?_
      refine xr_Vi1 (s_allOf W.Hh _) kX11_165 (by decide) (Nat.le_of_ble_eq_true rfl) (Nat.zero_add _) (Nat.zero_add _) dX11_parts_21 ?_
      refine xr_Vi2 (s_weightOf W.Hh W.pok (s := 1) (by decide) _) kX11_168 (by decide) (Nat.le_of_ble_eq_true rfl) (Nat.zero_add _) (Nat.zero_add _) dX11_parts_24 ?_
      refine xr_is2 dX11_parts_27 (by decide) rfl ?_
      refine xr_ldcw nX11_339 dX11_parts_28 ?_
      refine xr_is3 dX11_parts_31 (by decide) rfl ?_
      refine xr_ic0 dX11_parts_32 ?_
      refine xr_is4 dX11_parts_33 (by decide) rfl ?_
      refine xr_ic0 dX11_parts_35 ?_
      refine xr_is5 dX11_parts_36 (by decide) rfl ?_
      have hs : 1 < 2 := by decide
      have e : (paR σ rk rv (nI 1)) = _ := if_pos (by first | exact Or.inl rfl | exact Or.inr rfl)
      rw [nI_clamp (by decide)] at e
      rw [e]
      exact lp_parts W hs (aN σ 1 + 1) 0 (1048576, 0) none (by omega)
    · skip
      refine xr_icm1 dX11_parts_9 ?_
      refine xr_iret dX11_parts_10 rfl ?_
      have e : (paR σ rk rv x) = _ := if_neg (fun q => q.elim zc1 zc6)
      rw [e]
      exact ⟨_, rfl, rfl, _, W⟩
def spM (γ : xs) : Int32 := wt γ 0 (hNext γ 0) - wt γ 1 (hNext γ 1) - γ 13
def spL : Nat → Int32 → Int32 → Int32 → xs → Int32 × Int32 × Int32
  | 0, a, b, c, _ => (a, b, c)
  | r + 1, a, b, c, γ => if γ 10 + γ 11 = 0 then (a, b, c) else if spM γ ≤ 0 then spL r a b (c + 1) (hTakeNext γ) else spL r (a + spM γ) (b + 1) (c + 1) (hTakeNext γ)
theorem spL_s (r : Nat) (a b c : Int32) (γ : xs) : spL (r + 1) a b c γ = if γ 10 + γ 11 = 0 then (a, b, c) else if spM γ ≤ 0 then spL r a b (c + 1) (hTakeNext γ) else spL r (a + spM γ) (b + 1) (c + 1) (hTakeNext γ) := rfl
def spE (rv : Nat → Int64) (z : Int32 × Int32 × Int32) : AR := (z.1, 2, tl2 rv z.2.1 z.2.2)
set_option maxRecDepth 20000 in
theorem lp_spare {K : xK} {B : Nat} {l : Launch} {h0 : xH} {X D : Nat} {tn : Nat} {tf : Nat → Int32} {rk : Int32} {rv : Nat → Int64} {σ : xs} {β : xs} {pn : Nat} {τ : Nat → xs} {ks : Nat → Bool} {κ : Nat → xs} {φ : xs → Int32} {hn : Nat} {hf : Nat → Int32} {hg : Nat → Int32} {wn : Nat} {wf : Nat → Int32} {wg : Nat → Int32}  : ∀ (r : Nat) (k : Nat) (a b c : Int32) (y5 y6 y7 : Option Value) {h : xH} {γ : xs} (W : xCw K h0 h X D tn tf rk rv σ β γ pn τ ks κ φ hn hf hg wn wf wg), k + r = 5 → hOk γ → xT K B l 3 RX11 false cX11_spare 8 (some .int) 0 0 0 0 (xPi (fun zr g => zr = (spE rv (spL r a b c γ)).1 ∧ ∃ γ', xCw K h0 g X D tn tf ((spE rv (spL r a b c γ)).2.1) ((spE rv (spL r a b c γ)).2.2) σ β (γ') pn τ ks κ φ hn hf hg wn wf wg)) 20 [some (.ref X), some (.int a), some (.int b), some (.int c), some (.int (nI k)), y5, y6, y7] [] h := by
  intro r
  induction r with
  | zero =>
    intro k a b c y5 y6 y7 h γ W hk okt
    refine xr_il4 dX11_spare_20 ?_
    refine xr_ic5 dX11_spare_22 ?_
    refine xr_icmpge (tgt := 116) dX11_spare_23 (by decide) (fun zc23 => ?_) (fun zc23 => ?_)
    · skip
      refine xr_al0 dX11_spare_116 ?_
      refine xr_get W.oX fX11_19 rfl dX11_spare_117 ?_
      refine xr_il2 dX11_spare_120 ?_
      refine xr_i2l dX11_spare_121 ?_
      refine xr_il3 dX11_spare_122 ?_
      refine xr_i2l dX11_spare_123 ?_
      refine xr_Vv2 (s_tell2 W.Hr _ _) kX11_236 (by decide) (Nat.le_of_ble_eq_true rfl) (Nat.zero_add _) (Nat.zero_add _) dX11_spare_124 ?_
      refine xT.nm (fun zh1 zg1 => ?_)
      have W := W.ur (fB2 zg1)
      refine xr_il1 dX11_spare_127 ?_
      refine xr_iret dX11_spare_128 rfl ?_
      exact ⟨_, rfl, rfl, _, W⟩
    · skip
      exact absurd (nI_le (a := 5) (by omega) (by omega)) zc23
  | succ r ih =>
    intro k a b c y5 y6 y7 h γ W hk okt
    refine xr_il4 dX11_spare_20 ?_
    refine xr_ic5 dX11_spare_22 ?_
    refine xr_icmpge (tgt := 116) dX11_spare_23 (by decide) (fun zc23 => ?_) (fun zc23 => ?_)
    · skip
      exact absurd zc23 (nI_ge (b := 5) (by omega) (by decide))
    · skip
      refine xr_al0 dX11_spare_26 ?_
      refine xr_get W.oX fX11_33 rfl dX11_spare_27 ?_
      refine xr_Vi0 (s_nobodyWaits W.Hq) kX11_245 (by decide) (Nat.le_of_ble_eq_true rfl) (Nat.zero_add _) (Nat.zero_add _) dX11_spare_30 ?_
      refine xr_ifne (tgt := 116) dX11_spare_33 (by decide) (fun zc33 => ?_) (fun zc33 => ?_)
      · skip
        refine xr_al0 dX11_spare_116 ?_
        refine xr_get W.oX fX11_19 rfl dX11_spare_117 ?_
        refine xr_il2 dX11_spare_120 ?_
        refine xr_i2l dX11_spare_121 ?_
        refine xr_il3 dX11_spare_122 ?_
        refine xr_i2l dX11_spare_123 ?_
        refine xr_Vv2 (s_tell2 W.Hr _ _) kX11_236 (by decide) (Nat.le_of_ble_eq_true rfl) (Nat.zero_add _) (Nat.zero_add _) dX11_spare_124 ?_
        refine xT.nm (fun zh1 zg1 => ?_)
        have W := W.ur (fB2 zg1)
        refine xr_il1 dX11_spare_127 ?_
        refine xr_iret dX11_spare_128 rfl ?_
        rw [spL_s, if_pos (Decidable.not_not.mp (fun q => zc33 (bI_0.mpr q)))]
        exact ⟨_, rfl, rfl, _, W⟩
      · skip
        refine xr_al0 dX11_spare_36 ?_
        refine xr_get W.oX fX11_33 rfl dX11_spare_37 ?_
        refine xr_ic0 dX11_spare_40 ?_
        refine xr_al0 dX11_spare_41 ?_
        refine xr_get W.oX fX11_33 rfl dX11_spare_42 ?_
        refine xr_ic0 dX11_spare_45 ?_
        refine xr_Vi1 (s_nextOf W.Hq _) kX11_215 (by decide) (Nat.le_of_ble_eq_true rfl) (Nat.zero_add _) (Nat.zero_add _) dX11_spare_46 ?_
        refine xr_Vi2 (s_weightOf W.Hq okt (s := 0) (by decide) _) kX11_168 (by decide) (Nat.le_of_ble_eq_true rfl) (Nat.zero_add _) (Nat.zero_add _) dX11_spare_49 ?_
        refine xr_is5 dX11_spare_52 (by decide) rfl ?_
        refine xr_al0 dX11_spare_54 ?_
        refine xr_get W.oX fX11_33 rfl dX11_spare_55 ?_
        refine xr_ic1 dX11_spare_58 ?_
        refine xr_al0 dX11_spare_59 ?_
        refine xr_get W.oX fX11_33 rfl dX11_spare_60 ?_
        refine xr_ic1 dX11_spare_63 ?_
        refine xr_Vi1 (s_nextOf W.Hq _) kX11_215 (by decide) (Nat.le_of_ble_eq_true rfl) (Nat.zero_add _) (Nat.zero_add _) dX11_spare_64 ?_
        refine xr_Vi2 (s_weightOf W.Hq okt (s := 1) (by decide) _) kX11_168 (by decide) (Nat.le_of_ble_eq_true rfl) (Nat.zero_add _) (Nat.zero_add _) dX11_spare_67 ?_
        refine xr_is6 dX11_spare_70 (by decide) rfl ?_
        refine xr_il5 dX11_spare_72 ?_
        refine xr_il6 dX11_spare_74 ?_
        refine xr_isub dX11_spare_76 ?_
        refine xr_al0 dX11_spare_77 ?_
        refine xr_get W.oX fX11_33 rfl dX11_spare_78 ?_
        refine xr_get W.Hq.1 fX11_253 rfl dX11_spare_81 ?_
        refine xr_isub dX11_spare_84 ?_
        refine xr_is7 dX11_spare_85 (by decide) rfl ?_
        refine xr_il7 dX11_spare_87 ?_
        refine xr_ifle (tgt := 100) dX11_spare_89 (by decide) (fun zc89 => ?_) (fun zc89 => ?_)
        · skip
          refine xr_inc3 dX11_spare_100 (show c + Int32.ofInt (1) = c + 1 from rfl) (by decide) rfl ?_
          refine xr_al0 dX11_spare_103 ?_
          refine xr_get W.oX fX11_33 rfl dX11_spare_104 ?_
          refine xr_Vv0 (s_takeNext W.Hq okt) kX11_351 (by decide) (Nat.le_of_ble_eq_true rfl) (Nat.zero_add _) (Nat.zero_add _) dX11_spare_107 ?_
          refine xT.nm (fun zh1 zg1 => ?_)
          have okt := hOk_takeNext okt
          have W := W.uq (fBH zg1)
          refine xr_inc4 dX11_spare_110 (nI_inc k) (by decide) rfl ?_
          refine xr_goto (tgt := 20) dX11_spare_113 (by decide) ?_
          rw [spL_s, if_neg (bI_0.mp zc33), if_pos (show spM γ ≤ 0 from zc89)]
          exact ih (k + 1) _ _ _ _ _ _ W (by omega) okt
        · skip
          refine xr_il1 dX11_spare_92 ?_
          refine xr_il7 dX11_spare_93 ?_
          refine xr_iadd dX11_spare_95 ?_
          refine xr_is1 dX11_spare_96 (by decide) rfl ?_
          refine xr_inc2 dX11_spare_97 (show b + Int32.ofInt (1) = b + 1 from rfl) (by decide) rfl ?_
          refine xr_inc3 dX11_spare_100 (show c + Int32.ofInt (1) = c + 1 from rfl) (by decide) rfl ?_
          refine xr_al0 dX11_spare_103 ?_
          refine xr_get W.oX fX11_33 rfl dX11_spare_104 ?_
          refine xr_Vv0 (s_takeNext W.Hq okt) kX11_351 (by decide) (Nat.le_of_ble_eq_true rfl) (Nat.zero_add _) (Nat.zero_add _) dX11_spare_107 ?_
          refine xT.nm (fun zh1 zg1 => ?_)
          have okt := hOk_takeNext okt
          have W := W.uq (fBH zg1)
          refine xr_inc4 dX11_spare_110 (nI_inc k) (by decide) rfl ?_
          refine xr_goto (tgt := 20) dX11_spare_113 (by decide) ?_
          rw [spL_s, if_neg (bI_0.mp zc33), if_neg (show ¬ spM γ ≤ 0 from zc89)]
          exact ih (k + 1) _ _ _ _ _ _ W (by omega) okt
set_option maxRecDepth 20000 in
theorem s_spare {K : xK} {B : Nat} {l : Launch} {h0 h : xH} {X D : Nat} {tn : Nat} {tf : Nat → Int32} {rk : Int32} {rv : Nat → Int64} {σ : xs} {β : xs} {γ : xs} {pn : Nat} {τ : Nat → xs} {ks : Nat → Bool} {κ : Nat → xs} {φ : xs → Int32} {hn : Nat} {hf : Nat → Int32} {hg : Nat → Int32} {wn : Nat} {wf : Nat → Int32} {wg : Nat → Int32} (W : xCw K h0 h X D tn tf rk rv σ β γ pn τ ks κ φ hn hf hg wn wf wg) : xV K B l 3 mX11_spare 0 0 (X) [] h (xPi (fun zr g => zr = (spE rv (spL 5 0 0 0 σ)).1 ∧ ∃ γ', xCw K h0 g X D tn tf ((spE rv (spL 5 0 0 0 σ)).2.1) ((spE rv (spL 5 0 0 0 σ)).2.2) σ β (γ') pn τ ks κ φ hn hf hg wn wf wg)) := by
  refine ⟨⟨_, _, _, _, W.oX, rfl⟩, qX11_spare, ?_⟩
  refine xS.intro RX11 false ⟨rfl, rfl, by decide, by decide, Nat.le_of_ble_eq_true rfl⟩ (ls := [some (.ref X), none, none, none, none, none, none, none]) rfl ?_
  refine xr_al0 dX11_spare_0 ?_
  refine xr_get W.oX fX11_33 rfl dX11_spare_1 ?_
  refine xr_al0 dX11_spare_4 ?_
  refine xr_get W.oX fX11_26 rfl dX11_spare_5 ?_
  refine xr_Vv1 (s_copyFrom W.Hq W.Hh (by omega)) kX11_179 (by decide) (Nat.le_of_ble_eq_true rfl) (Nat.zero_add _) (Nat.zero_add _) dX11_spare_8 ?_
  refine xT.nm (fun zh1 zg1 => ?_)
  have okt := W.pok
  have W := W.uq (fBH zg1)
  refine xr_ic0 dX11_spare_11 ?_
  refine xr_is1 dX11_spare_12 (by decide) rfl ?_
  refine xr_ic0 dX11_spare_13 ?_
  refine xr_is2 dX11_spare_14 (by decide) rfl ?_
  refine xr_ic0 dX11_spare_15 ?_
  refine xr_is3 dX11_spare_16 (by decide) rfl ?_
  refine xr_ic0 dX11_spare_17 ?_
  refine xr_is4 dX11_spare_18 (by decide) rfl ?_
  exact lp_spare 5 0 0 0 0 none none none W (by omega) okt
def alW : Nat → Int32 → xs → Int32
  | 0, a, _ => a
  | r + 1, a, γ => if γ 10 + γ 11 = 0 then a else alW r (a + hWater γ (hNext γ 0) (hNext γ 1)) (hTakeNext γ)
theorem alW_s (r : Nat) (a : Int32) (γ : xs) : alW (r + 1) a γ = if γ 10 + γ 11 = 0 then a else alW r (a + hWater γ (hNext γ 0) (hNext γ 1)) (hTakeNext γ) := rfl
set_option maxRecDepth 20000 in
theorem lp_waterT {K : xK} {B : Nat} {l : Launch} {h0 : xH} {X D : Nat} {tn : Nat} {tf : Nat → Int32} {rk : Int32} {rv : Nat → Int64} {σ : xs} {β : xs} {pn : Nat} {τ : Nat → xs} {ks : Nat → Bool} {κ : Nat → xs} {φ : xs → Int32} {hn : Nat} {hf : Nat → Int32} {hg : Nat → Int32} {wn : Nat} {wf : Nat → Int32} {wg : Nat → Int32}  : ∀ (r : Nat) (k : Nat) (a : Int32) {h : xH} {γ : xs} (W : xCw K h0 h X D tn tf rk rv σ β γ pn τ ks κ φ hn hf hg wn wf wg), k + r = 5 → hOk γ → xT K B l 3 RX11 false cX11_waterOfTrial 3 (some .int) 0 0 0 0 (xPi (fun zr g => zr = alW r a γ ∧ ∃ γ', xCw K h0 g X D tn tf rk rv σ β (γ') pn τ ks κ φ hn hf hg wn wf wg)) 4 [some (.ref X), some (.int a), some (.int (nI k))] [] h := by
  intro r
  induction r with
  | zero =>
    intro k a h γ W hk okt
    refine xr_il2 dX11_waterOfTrial_4 ?_
    refine xr_ic5 dX11_waterOfTrial_5 ?_
    refine xr_icmpge (tgt := 58) dX11_waterOfTrial_6 (by decide) (fun zc6 => ?_) (fun zc6 => ?_)
    · skip
      refine xr_il1 dX11_waterOfTrial_58 ?_
      refine xr_iret dX11_waterOfTrial_59 rfl ?_
      exact ⟨_, rfl, rfl, _, W⟩
    · skip
      exact absurd (nI_le (a := 5) (by omega) (by omega)) zc6
  | succ r ih =>
    intro k a h γ W hk okt
    refine xr_il2 dX11_waterOfTrial_4 ?_
    refine xr_ic5 dX11_waterOfTrial_5 ?_
    refine xr_icmpge (tgt := 58) dX11_waterOfTrial_6 (by decide) (fun zc6 => ?_) (fun zc6 => ?_)
    · skip
      exact absurd zc6 (nI_ge (b := 5) (by omega) (by decide))
    · skip
      refine xr_al0 dX11_waterOfTrial_9 ?_
      refine xr_get W.oX fX11_33 rfl dX11_waterOfTrial_10 ?_
      refine xr_Vi0 (s_nobodyWaits W.Hq) kX11_245 (by decide) (Nat.le_of_ble_eq_true rfl) (Nat.zero_add _) (Nat.zero_add _) dX11_waterOfTrial_13 ?_
      refine xr_ifne (tgt := 58) dX11_waterOfTrial_16 (by decide) (fun zc16 => ?_) (fun zc16 => ?_)
      · skip
        refine xr_il1 dX11_waterOfTrial_58 ?_
        refine xr_iret dX11_waterOfTrial_59 rfl ?_
        rw [alW_s, if_pos (Decidable.not_not.mp (fun q => zc16 (bI_0.mpr q)))]
        exact ⟨_, rfl, rfl, _, W⟩
      · skip
        refine xr_il1 dX11_waterOfTrial_19 ?_
        refine xr_al0 dX11_waterOfTrial_20 ?_
        refine xr_get W.oX fX11_33 rfl dX11_waterOfTrial_21 ?_
        refine xr_al0 dX11_waterOfTrial_24 ?_
        refine xr_get W.oX fX11_33 rfl dX11_waterOfTrial_25 ?_
        refine xr_ic0 dX11_waterOfTrial_28 ?_
        refine xr_Vi1 (s_nextOf W.Hq _) kX11_215 (by decide) (Nat.le_of_ble_eq_true rfl) (Nat.zero_add _) (Nat.zero_add _) dX11_waterOfTrial_29 ?_
        refine xr_al0 dX11_waterOfTrial_32 ?_
        refine xr_get W.oX fX11_33 rfl dX11_waterOfTrial_33 ?_
        refine xr_ic1 dX11_waterOfTrial_36 ?_
        refine xr_Vi1 (s_nextOf W.Hq _) kX11_215 (by decide) (Nat.le_of_ble_eq_true rfl) (Nat.zero_add _) (Nat.zero_add _) dX11_waterOfTrial_37 ?_
        refine xr_Vi2 (s_waterFor W.Hq okt _ _) kX11_218 (by decide) (Nat.le_of_ble_eq_true rfl) (Nat.zero_add _) (Nat.zero_add _) dX11_waterOfTrial_40 ?_
        refine xr_iadd dX11_waterOfTrial_43 ?_
        refine xr_is1 dX11_waterOfTrial_44 (by decide) rfl ?_
        refine xr_al0 dX11_waterOfTrial_45 ?_
        refine xr_get W.oX fX11_33 rfl dX11_waterOfTrial_46 ?_
        refine xr_Vv0 (s_takeNext W.Hq okt) kX11_351 (by decide) (Nat.le_of_ble_eq_true rfl) (Nat.zero_add _) (Nat.zero_add _) dX11_waterOfTrial_49 ?_
        refine xT.nm (fun zh1 zg1 => ?_)
        have okt := hOk_takeNext okt
        have W := W.uq (fBH zg1)
        refine xr_inc2 dX11_waterOfTrial_52 (nI_inc k) (by decide) rfl ?_
        refine xr_goto (tgt := 4) dX11_waterOfTrial_55 (by decide) ?_
        rw [alW_s, if_neg (bI_0.mp zc16)]
        exact ih (k + 1) _ W (by omega) okt
set_option maxRecDepth 20000 in
theorem s_waterT {K : xK} {B : Nat} {l : Launch} {h0 h : xH} {X D : Nat} {tn : Nat} {tf : Nat → Int32} {rk : Int32} {rv : Nat → Int64} {σ : xs} {β : xs} {γ : xs} {pn : Nat} {τ : Nat → xs} {ks : Nat → Bool} {κ : Nat → xs} {φ : xs → Int32} {hn : Nat} {hf : Nat → Int32} {hg : Nat → Int32} {wn : Nat} {wf : Nat → Int32} {wg : Nat → Int32} (W : xCw K h0 h X D tn tf rk rv σ β γ pn τ ks κ φ hn hf hg wn wf wg) (okt : hOk γ) : xV K B l 3 mX11_waterOfTrial 0 0 (X) [] h (xPi (fun zr g => zr = alW 5 0 γ ∧ ∃ γ', xCw K h0 g X D tn tf rk rv σ β (γ') pn τ ks κ φ hn hf hg wn wf wg)) := by
  refine ⟨⟨_, _, _, _, W.oX, rfl⟩, qX11_waterOfTrial, ?_⟩
  refine xS.intro RX11 false ⟨rfl, rfl, by decide, by decide, Nat.le_of_ble_eq_true rfl⟩ (ls := [some (.ref X), none, none]) rfl ?_
  refine xr_ic0 dX11_waterOfTrial_0 ?_
  refine xr_is1 dX11_waterOfTrial_1 (by decide) rfl ?_
  refine xr_ic0 dX11_waterOfTrial_2 ?_
  refine xr_is2 dX11_waterOfTrial_3 (by decide) rfl ?_
  exact lp_waterT 5 0 0 W (by omega) okt

def be1 (σ : xs) (s i j : Nat) (z : Q4) : Q4 := if alW 5 0 (hExch σ (nI s) (nI i) (nI j)) < z.1 then (alW 5 0 (hExch σ (nI s) (nI i) (nI j)), nI s, nI i, nI j) else z
def beJ (σ : xs) (s i : Nat) : Nat → Nat → Q4 → Q4
  | 0, _, z => z
  | r + 1, j, z => beJ σ s i r (j + 1) (be1 σ s i j z)
def beI (σ : xs) (s : Nat) : Nat → Nat → Q4 → Q4
  | 0, _, z => z
  | r + 1, i, z => beI σ s r (i + 1) (beJ σ s i (ln σ s - (i + 1)) (i + 1) z)
theorem beJ_s (σ : xs) (s i r j : Nat) (z : Q4) : beJ σ s i (r + 1) j z = beJ σ s i r (j + 1) (be1 σ s i j z) := rfl
theorem beI_s (σ : xs) (s r i : Nat) (z : Q4) : beI σ s (r + 1) i z = beI σ s r (i + 1) (beJ σ s i (ln σ s - (i + 1)) (i + 1) z) := rfl
def beE (σ : xs) (rk : Int32) (rv : Nat → Int64) (z : Q4) : AR := if z.1 = 1048576 then (-2, rk, rv) else (z.1, 4, tl4 rv z.2.1 z.2.2.1 z.2.2.2 (alW 5 0 σ))
def beR (σ : xs) (rk : Int32) (rv : Nat → Int64) : AR := beE σ rk rv (beI σ 1 (ln σ 1) 0 (beI σ 0 (ln σ 0) 0 (1048576, 0, 0, 0)))
theorem wts_n {σ : xs} (ok : hOk σ) {s : Nat} (hs : s < 2) : hWaits σ (nI s) = nI (ln σ s) := (hWaits_s hs).trans (ok.1 s hs).1
set_option maxRecDepth 20000 in
theorem lp_bestJ {K : xK} {B : Nat} {l : Launch} {h0 : xH} {X D : Nat} {tn : Nat} {tf : Nat → Int32} {rk : Int32} {rv : Nat → Int64} {σ : xs} {β : xs} {pn : Nat} {τ : Nat → xs} {ks : Nat → Bool} {κ : Nat → xs} {φ : xs → Int32} {hn : Nat} {hf : Nat → Int32} {hg : Nat → Int32} {wn : Nat} {wf : Nat → Int32} {wg : Nat → Int32} {s : Nat} (hs : s < 2) (i : Nat) {Q : Option Value → xH → Prop} : ∀ (r j : Nat) (z : Q4) (y8 : Option Value) {h : xH} {γ : xs} (W : xCw K h0 h X D tn tf rk rv σ β γ pn τ ks κ φ hn hf hg wn wf wg), r = ln σ s - j → j < 2 ^ 31 → (∀ (h : xH) (γ : xs) (W : xCw K h0 h X D tn tf rk rv σ β γ pn τ ks κ φ hn hf hg wn wf wg) (y7 y8 : Option Value), xT K B l 4 RX11 false cX11_best 9 (some .int) 0 0 0 0 (Q) 112 [some (.ref X), some (.int (beJ σ s i r j z).1), some (.int (beJ σ s i r j z).2.1), some (.int (beJ σ s i r j z).2.2.1), some (.int (beJ σ s i r j z).2.2.2), some (.int (nI s)), some (.int (nI i)), y7, y8] [] h) → xT K B l 4 RX11 false cX11_best 9 (some .int) 0 0 0 0 (Q) 43 [some (.ref X), some (.int z.1), some (.int z.2.1), some (.int z.2.2.1), some (.int z.2.2.2), some (.int (nI s)), some (.int (nI i)), some (.int (nI j)), y8] [] h := by
  intro r
  induction r with
  | zero =>
    intro j z y8 h γ W hk hj0 kx
    have h5 := (W.pok.1 s hs).2
    by_cases hj : j < 2 ^ 31
    · skip
      refine xr_il7 dX11_best_43 ?_
      refine xr_al0 dX11_best_45 ?_
      refine xr_get W.oX fX11_26 rfl dX11_best_46 ?_
      refine xr_il5 dX11_best_49 ?_
      refine xr_Vi1 (s_waits W.Hh _) kX11_131 (by decide) (Nat.le_of_ble_eq_true rfl) (Nat.zero_add _) (Nat.zero_add _) dX11_best_51 ?_
      refine xr_eqi (y := nI (ln σ s)) (wts_n W.pok hs) ?_
      refine xr_icmpge (tgt := 112) dX11_best_54 (by decide) (fun zc54 => ?_) (fun zc54 => ?_)
      · skip
        exact kx _ _ W _ _
      · skip
        exact absurd (nI_le (a := ln σ s) (by omega) (by omega)) zc54
    · exact absurd hj0 hj
  | succ r ih =>
    intro j z y8 h γ W hk hj0 kx
    have h5 := (W.pok.1 s hs).2
    refine xr_il7 dX11_best_43 ?_
    refine xr_al0 dX11_best_45 ?_
    refine xr_get W.oX fX11_26 rfl dX11_best_46 ?_
    refine xr_il5 dX11_best_49 ?_
    refine xr_Vi1 (s_waits W.Hh _) kX11_131 (by decide) (Nat.le_of_ble_eq_true rfl) (Nat.zero_add _) (Nat.zero_add _) dX11_best_51 ?_
    refine xr_eqi (y := nI (ln σ s)) (wts_n W.pok hs) ?_
    refine xr_icmpge (tgt := 112) dX11_best_54 (by decide) (fun zc54 => ?_) (fun zc54 => ?_)
    · skip
      exact absurd zc54 (nI_ge (by omega) (by omega))
    · skip
      refine xr_al0 dX11_best_57 ?_
      refine xr_get W.oX fX11_33 rfl dX11_best_58 ?_
      refine xr_al0 dX11_best_61 ?_
      refine xr_get W.oX fX11_26 rfl dX11_best_62 ?_
      refine xr_Vv1 (s_copyFrom W.Hq W.Hh (by omega)) kX11_179 (by decide) (Nat.le_of_ble_eq_true rfl) (Nat.zero_add _) (Nat.zero_add _) dX11_best_65 ?_
      refine xT.nm (fun zh1 zg1 => ?_)
      have okt := W.pok
      have W := W.uq (fBH zg1)
      refine xr_al0 dX11_best_68 ?_
      refine xr_get W.oX fX11_33 rfl dX11_best_69 ?_
      refine xr_il5 dX11_best_72 ?_
      refine xr_il6 dX11_best_74 ?_
      refine xr_il7 dX11_best_76 ?_
      refine xr_Vv3 (s_exchange W.Hq _ _ _) kX11_262 (by decide) (Nat.le_of_ble_eq_true rfl) (Nat.zero_add _) (Nat.zero_add _) dX11_best_78 ?_
      refine xT.nm (fun zh2 zg2 => ?_)
      have okt := hOk_exch okt (nI s) (nI i) (nI j)
      have W := W.uq (fBH zg2)
      refine xr_al0 dX11_best_81 ?_
      refine xr_Vpi0 (s_waterT W okt) kX11_348 (by decide) (Nat.le_of_ble_eq_true rfl) (Nat.zero_add _) (Nat.zero_add _) dX11_best_82 (fun zv82 zh3 zq3 => ?_)
      obtain ⟨rfl, _, W⟩ := zq3
      refine xr_is8 dX11_best_85 (by decide) rfl ?_
      refine xr_il8 dX11_best_87 ?_
      refine xr_il1 dX11_best_89 ?_
      refine xr_icmpge (tgt := 106) dX11_best_90 (by decide) (fun zc90 => ?_) (fun zc90 => ?_)
      · skip
        refine xr_inc7 dX11_best_106 (nI_inc j) (by decide) rfl ?_
        refine xr_goto (tgt := 43) dX11_best_109 (by decide) ?_
        have e : be1 σ s i j z = _ := if_neg (Int32.not_lt.mpr zc90)
        rw [beJ_s, e] at kx
        exact ih (j + 1) _ _ W (by omega) (by omega) kx
      · skip
        refine xr_il8 dX11_best_93 ?_
        refine xr_is1 dX11_best_95 (by decide) rfl ?_
        refine xr_il5 dX11_best_96 ?_
        refine xr_is2 dX11_best_98 (by decide) rfl ?_
        refine xr_il6 dX11_best_99 ?_
        refine xr_is3 dX11_best_101 (by decide) rfl ?_
        refine xr_il7 dX11_best_102 ?_
        refine xr_is4 dX11_best_104 (by decide) rfl ?_
        refine xr_inc7 dX11_best_106 (nI_inc j) (by decide) rfl ?_
        refine xr_goto (tgt := 43) dX11_best_109 (by decide) ?_
        have e : be1 σ s i j z = _ := if_pos (Int32.not_le.mp zc90)
        rw [beJ_s, e] at kx
        exact ih (j + 1) _ _ W (by omega) (by omega) kx
set_option maxRecDepth 20000 in
theorem lp_bestI {K : xK} {B : Nat} {l : Launch} {h0 : xH} {X D : Nat} {tn : Nat} {tf : Nat → Int32} {rk : Int32} {rv : Nat → Int64} {σ : xs} {β : xs} {pn : Nat} {τ : Nat → xs} {ks : Nat → Bool} {κ : Nat → xs} {φ : xs → Int32} {hn : Nat} {hf : Nat → Int32} {hg : Nat → Int32} {wn : Nat} {wf : Nat → Int32} {wg : Nat → Int32} {s : Nat} (hs : s < 2) {Q : Option Value → xH → Prop} : ∀ (r i : Nat) (z : Q4) (y7 y8 : Option Value) {h : xH} {γ : xs} (W : xCw K h0 h X D tn tf rk rv σ β γ pn τ ks κ φ hn hf hg wn wf wg), r = ln σ s - i → i < 2 ^ 31 → (∀ (h : xH) (γ : xs) (W : xCw K h0 h X D tn tf rk rv σ β γ pn τ ks κ φ hn hf hg wn wf wg) (y6 y7 y8 : Option Value), xT K B l 4 RX11 false cX11_best 9 (some .int) 0 0 0 0 (Q) 118 [some (.ref X), some (.int (beI σ s r i z).1), some (.int (beI σ s r i z).2.1), some (.int (beI σ s r i z).2.2.1), some (.int (beI σ s r i z).2.2.2), some (.int (nI s)), y6, y7, y8] [] h) → xT K B l 4 RX11 false cX11_best 9 (some .int) 0 0 0 0 (Q) 23 [some (.ref X), some (.int z.1), some (.int z.2.1), some (.int z.2.2.1), some (.int z.2.2.2), some (.int (nI s)), some (.int (nI i)), y7, y8] [] h := by
  intro r
  induction r with
  | zero =>
    intro i z y7 y8 h γ W hk hi0 kx
    have h5 := (W.pok.1 s hs).2
    refine xr_il6 dX11_best_23 ?_
    refine xr_al0 dX11_best_25 ?_
    refine xr_get W.oX fX11_26 rfl dX11_best_26 ?_
    refine xr_il5 dX11_best_29 ?_
    refine xr_Vi1 (s_waits W.Hh _) kX11_131 (by decide) (Nat.le_of_ble_eq_true rfl) (Nat.zero_add _) (Nat.zero_add _) dX11_best_31 ?_
    refine xr_eqi (y := nI (ln σ s)) (wts_n W.pok hs) ?_
    refine xr_icmpge (tgt := 118) dX11_best_34 (by decide) (fun zc34 => ?_) (fun zc34 => ?_)
    · skip
      exact kx _ _ W _ _ _
    · skip
      exact absurd (nI_le (a := ln σ s) (by omega) (by omega)) zc34
  | succ r ih =>
    intro i z y7 y8 h γ W hk hi0 kx
    have h5 := (W.pok.1 s hs).2
    refine xr_il6 dX11_best_23 ?_
    refine xr_al0 dX11_best_25 ?_
    refine xr_get W.oX fX11_26 rfl dX11_best_26 ?_
    refine xr_il5 dX11_best_29 ?_
    refine xr_Vi1 (s_waits W.Hh _) kX11_131 (by decide) (Nat.le_of_ble_eq_true rfl) (Nat.zero_add _) (Nat.zero_add _) dX11_best_31 ?_
    refine xr_eqi (y := nI (ln σ s)) (wts_n W.pok hs) ?_
    refine xr_icmpge (tgt := 118) dX11_best_34 (by decide) (fun zc34 => ?_) (fun zc34 => ?_)
    · skip
      exact absurd zc34 (nI_ge (by omega) (by omega))
    · skip
      refine xr_il6 dX11_best_37 ?_
      refine xr_ic1 dX11_best_39 ?_
      refine xr_iadd dX11_best_40 ?_
      refine xr_eqi (y := nI (i + 1)) (nI_add i 1) ?_
      refine xr_is7 dX11_best_41 (by decide) rfl ?_
      rw [beI_s] at kx
      refine lp_bestJ hs i (ln σ s - (i + 1)) (i + 1) z y8 W rfl (by omega) (fun h γ W y7 y8 => ?_)
      refine xr_inc6 dX11_best_112 (nI_inc i) (by decide) rfl ?_
      refine xr_goto (tgt := 23) dX11_best_115 (by decide) ?_
      exact ih (i + 1) _ _ _ W (by omega) (by omega) kx
set_option maxRecDepth 20000 in
theorem s_best {K : xK} {B : Nat} {l : Launch} {h0 h : xH} {X D : Nat} {tn : Nat} {tf : Nat → Int32} {rk : Int32} {rv : Nat → Int64} {σ : xs} {β : xs} {γ : xs} {pn : Nat} {τ : Nat → xs} {ks : Nat → Bool} {κ : Nat → xs} {φ : xs → Int32} {hn : Nat} {hf : Nat → Int32} {hg : Nat → Int32} {wn : Nat} {wf : Nat → Int32} {wg : Nat → Int32} (W : xCw K h0 h X D tn tf rk rv σ β γ pn τ ks κ φ hn hf hg wn wf wg) : xV K B l 4 mX11_best 0 0 (X) [] h (xPi (fun zr g => zr = (beR σ rk rv).1 ∧ ∃ γ', xCw K h0 g X D tn tf ((beR σ rk rv).2.1) ((beR σ rk rv).2.2) σ β (γ') pn τ ks κ φ hn hf hg wn wf wg)) := by
  refine ⟨⟨_, _, _, _, W.oX, rfl⟩, qX11_best, ?_⟩
  refine xS.intro RX11 false ⟨rfl, rfl, by decide, by decide, Nat.le_of_ble_eq_true rfl⟩ (ls := [some (.ref X), none, none, none, none, none, none, none, none]) rfl ?_
  refine xr_ldcw nX11_339 dX11_best_0 ?_
  refine xr_is1 dX11_best_3 (by decide) rfl ?_
  refine xr_ic0 dX11_best_4 ?_
  refine xr_is2 dX11_best_5 (by decide) rfl ?_
  refine xr_ic0 dX11_best_6 ?_
  refine xr_is3 dX11_best_7 (by decide) rfl ?_
  refine xr_ic0 dX11_best_8 ?_
  refine xr_is4 dX11_best_9 (by decide) rfl ?_
  refine xr_ic0 dX11_best_11 ?_
  refine xr_is5 dX11_best_12 (by decide) rfl ?_
  refine xr_il5 dX11_best_14 ?_
  refine xr_ic1 dX11_best_16 ?_
  refine xr_icmpgt (tgt := 124) dX11_best_17 (by decide) (fun zc17 => ?_) (fun zc17 => ?_)
  · skip
    exact absurd zc17 (by decide)
  · skip
    refine xr_ic0 dX11_best_20 ?_
    refine xr_is6 dX11_best_21 (by decide) rfl ?_
    refine lp_bestI (s := 0) (by decide) (ln σ 0) 0 (1048576, 0, 0, 0) none none W rfl (by decide) (fun h γ W y6 y7 y8 => ?_)
    refine xr_inc5 dX11_best_118 (nI_inc 0) (by decide) rfl ?_
    refine xr_goto (tgt := 14) dX11_best_121 (by decide) ?_
    refine xr_il5 dX11_best_14 ?_
    refine xr_ic1 dX11_best_16 ?_
    refine xr_icmpgt (tgt := 124) dX11_best_17 (by decide) (fun zc17 => ?_) (fun zc17 => ?_)
    · skip
      exact absurd zc17 (by decide)
    · skip
      refine xr_ic0 dX11_best_20 ?_
      refine xr_is6 dX11_best_21 (by decide) rfl ?_
      refine lp_bestI (s := 1) (by decide) (ln σ 1) 0 (beI σ 0 (ln σ 0) 0 (1048576, 0, 0, 0)) y7 y8 W rfl (by decide) (fun h γ W y6 y7 y8 => ?_)
      refine xr_inc5 dX11_best_118 (nI_inc 1) (by decide) rfl ?_
      refine xr_goto (tgt := 14) dX11_best_121 (by decide) ?_
      refine xr_il5 dX11_best_14 ?_
      refine xr_ic1 dX11_best_16 ?_
      refine xr_icmpgt (tgt := 124) dX11_best_17 (by decide) (fun zc17 => ?_) (fun zc17 => ?_)
      · skip
        refine xr_il1 dX11_best_124 ?_
        refine xr_ldcw nX11_339 dX11_best_125 ?_
        refine xr_icmpne (tgt := 134) dX11_best_128 (by decide) (fun zc128 => ?_) (fun zc128 => ?_)
        · skip
          refine xr_al0 dX11_best_134 ?_
          refine xr_get W.oX fX11_33 rfl dX11_best_135 ?_
          refine xr_al0 dX11_best_138 ?_
          refine xr_get W.oX fX11_26 rfl dX11_best_139 ?_
          refine xr_Vv1 (s_copyFrom W.Hq W.Hh (by omega)) kX11_179 (by decide) (Nat.le_of_ble_eq_true rfl) (Nat.zero_add _) (Nat.zero_add _) dX11_best_142 ?_
          refine xT.nm (fun zh1 zg1 => ?_)
          have okt := W.pok
          have W := W.uq (fBH zg1)
          refine xr_al0 dX11_best_145 ?_
          refine xr_get W.oX fX11_19 rfl dX11_best_146 ?_
          refine xr_il2 dX11_best_149 ?_
          refine xr_i2l dX11_best_150 ?_
          refine xr_il3 dX11_best_151 ?_
          refine xr_i2l dX11_best_152 ?_
          refine xr_il4 dX11_best_153 ?_
          refine xr_i2l dX11_best_155 ?_
          refine xr_al0 dX11_best_156 ?_
          refine xr_Vpi0 (s_waterT W okt) kX11_348 (by decide) (Nat.le_of_ble_eq_true rfl) (Nat.zero_add _) (Nat.zero_add _) dX11_best_157 (fun zv157 zh2 zq2 => ?_)
          obtain ⟨rfl, _, W⟩ := zq2
          refine xr_i2l dX11_best_160 ?_
          refine xr_Vv4 (s_tell4 W.Hr _ _ _ _) kX11_293 (by decide) (Nat.le_of_ble_eq_true rfl) (Nat.zero_add _) (Nat.zero_add _) dX11_best_161 ?_
          refine xT.nm (fun zh3 zg3 => ?_)
          have W := W.ur (fB2 zg3)
          refine xr_il1 dX11_best_164 ?_
          refine xr_iret dX11_best_165 rfl ?_
          have e : (beR σ rk rv) = _ := if_neg zc128
          rw [e]
          exact ⟨_, rfl, rfl, _, W⟩
        · skip
          refine xr_bipush (v := (-2)) dX11_best_131 (by decide) ?_
          refine xr_iret dX11_best_133 rfl ?_
          have e : (beR σ rk rv) = _ := if_pos zc128
          rw [e]
          exact ⟨_, rfl, rfl, _, W⟩
      · skip
        exact absurd (by decide) zc17
