/-! count, odds (written by wip/whole/car11.py) -/
def ctV (σ : xs) (φ : xs → Int32) (hn wn pn : Nat) (rk : Int32) (tn : Nat) (c : Int32) : Int32 := if c = 0 then hWaits σ 0 else if c = 1 then hWaits σ 1 else if c = 2 then σ 12 else if c = 3 then σ 13 else if c = 4 then σ 14 else if c = 5 then σ 15 else if c = 6 then σ 16 else if c = 7 then σ 17 else if c = 8 then σ 18 else if c = 9 then φ σ else if c = 10 then nI hn else if c = 11 then nI wn else if c = 12 then nI pn else if c = 13 then rk else if c = 14 then nI tn else -1
theorem ctV_out (σ : xs) (φ : xs → Int32) (hn wn pn : Nat) (rk : Int32) (tn : Nat) {c : Int32} (h : c.toInt < (0 : Int) ∨ (14 : Int) < c.toInt) : ctV σ φ hn wn pn rk tn c = -1 := by
  unfold ctV
  rw [if_neg, if_neg, if_neg, if_neg, if_neg, if_neg, if_neg, if_neg, if_neg, if_neg, if_neg, if_neg, if_neg, if_neg, if_neg]
  · rintro rfl; revert h; decide
  · rintro rfl; revert h; decide
  · rintro rfl; revert h; decide
  · rintro rfl; revert h; decide
  · rintro rfl; revert h; decide
  · rintro rfl; revert h; decide
  · rintro rfl; revert h; decide
  · rintro rfl; revert h; decide
  · rintro rfl; revert h; decide
  · rintro rfl; revert h; decide
  · rintro rfl; revert h; decide
  · rintro rfl; revert h; decide
  · rintro rfl; revert h; decide
  · rintro rfl; revert h; decide
  · rintro rfl; revert h; decide
set_option maxRecDepth 20000 in
theorem s_count {K : xK} {B : Nat} {l : Launch} {h0 h : xH} {X D : Nat} {tn : Nat} {tf : Nat → Int32} {rk : Int32} {rv : Nat → Int64} {σ : xs} {β : xs} {γ : xs} {pn : Nat} {τ : Nat → xs} {ks : Nat → Bool} {κ : Nat → xs} {φ : xs → Int32} {hn : Nat} {hf : Nat → Int32} {hg : Nat → Int32} {wn : Nat} {wf : Nat → Int32} {wg : Nat → Int32} (W : xCw K h0 h X D tn tf rk rv σ β γ pn τ ks κ φ hn hf hg wn wf wg) (c : Int32) : xV K B l 3 mX11_count 0 0 (X) [.int c] h (xPi (fun zr g => zr = ctV σ φ hn wn pn rk tn c ∧ xCw K h0 g X D tn tf rk rv σ β γ pn τ ks κ φ hn hf hg wn wf wg)) := by
  refine ⟨⟨_, _, _, _, W.oX, rfl⟩, qX11_count, ?_⟩
  refine xS.intro RX11 false ⟨rfl, rfl, by decide, by decide, Nat.le_of_ble_eq_true rfl⟩ (ls := [some (.ref X), some (.int c)]) rfl ?_
  refine xr_il1 dX11_count_0 ?_
  by_cases hlo : c.toInt < (0 : Int) ∨ (14 : Int) < c.toInt
  · skip
    refine xr_tabOut (tgt := 202) dX11_count_1 hlo (by decide) ?_
    refine xr_icm1 dX11_count_202 ?_
    refine xr_iret dX11_count_203 rfl ?_
    exact ⟨_, rfl, (ctV_out σ φ hn wn pn rk tn hlo).symm, W⟩
  · skip
    obtain ⟨zj, hzj, rfl⟩ := tab_in (lo := 0) (hi := 14) (by decide) hlo
    rcases (show zj = 0 ∨ zj = 1 ∨ zj = 2 ∨ zj = 3 ∨ zj = 4 ∨ zj = 5 ∨ zj = 6 ∨ zj = 7 ∨ zj = 8 ∨ zj = 9 ∨ zj = 10 ∨ zj = 11 ∨ zj = 12 ∨ zj = 13 ∨ zj = 14 by omega) with rfl | rfl | rfl | rfl | rfl | rfl | rfl | rfl | rfl | rfl | rfl | rfl | rfl | rfl | rfl
    · skip
      refine xr_tabIn (tgt := 76) dX11_count_1 (by decide) (by decide) rfl (by decide) ?_
      refine xr_al0 dX11_count_76 ?_
      refine xr_get W.oX fX11_26 rfl dX11_count_77 ?_
      refine xr_ic0 dX11_count_80 ?_
      refine xr_Vi1 (s_waits W.Hh _) kX11_131 (by decide) (Nat.le_of_ble_eq_true rfl) (Nat.zero_add _) (Nat.zero_add _) dX11_count_81 ?_
      refine xr_iret dX11_count_84 rfl ?_
      exact ⟨_, rfl, (show ctV σ φ hn wn pn rk tn (nI (0 + 0)) = hWaits σ 0 from rfl).symm, W⟩
    · skip
      refine xr_tabIn (tgt := 85) dX11_count_1 (by decide) (by decide) rfl (by decide) ?_
      refine xr_al0 dX11_count_85 ?_
      refine xr_get W.oX fX11_26 rfl dX11_count_86 ?_
      refine xr_ic1 dX11_count_89 ?_
      refine xr_Vi1 (s_waits W.Hh _) kX11_131 (by decide) (Nat.le_of_ble_eq_true rfl) (Nat.zero_add _) (Nat.zero_add _) dX11_count_90 ?_
      refine xr_iret dX11_count_93 rfl ?_
      exact ⟨_, rfl, (show ctV σ φ hn wn pn rk tn (nI (0 + 1)) = hWaits σ 1 from rfl).symm, W⟩
    · skip
      refine xr_tabIn (tgt := 94) dX11_count_1 (by decide) (by decide) rfl (by decide) ?_
      refine xr_al0 dX11_count_94 ?_
      refine xr_get W.oX fX11_26 rfl dX11_count_95 ?_
      refine xr_get W.Hh.1 fX11_256 rfl dX11_count_98 ?_
      refine xr_iret dX11_count_101 rfl ?_
      exact ⟨_, rfl, (show ctV σ φ hn wn pn rk tn (nI (0 + 2)) = σ 12 from rfl).symm, W⟩
    · skip
      refine xr_tabIn (tgt := 102) dX11_count_1 (by decide) (by decide) rfl (by decide) ?_
      refine xr_al0 dX11_count_102 ?_
      refine xr_get W.oX fX11_26 rfl dX11_count_103 ?_
      refine xr_get W.Hh.1 fX11_253 rfl dX11_count_106 ?_
      refine xr_iret dX11_count_109 rfl ?_
      exact ⟨_, rfl, (show ctV σ φ hn wn pn rk tn (nI (0 + 3)) = σ 13 from rfl).symm, W⟩
    · skip
      refine xr_tabIn (tgt := 110) dX11_count_1 (by decide) (by decide) rfl (by decide) ?_
      refine xr_al0 dX11_count_110 ?_
      refine xr_get W.oX fX11_26 rfl dX11_count_111 ?_
      refine xr_get W.Hh.1 fX11_221 rfl dX11_count_114 ?_
      refine xr_iret dX11_count_117 rfl ?_
      exact ⟨_, rfl, (show ctV σ φ hn wn pn rk tn (nI (0 + 4)) = σ 14 from rfl).symm, W⟩
    · skip
      refine xr_tabIn (tgt := 118) dX11_count_1 (by decide) (by decide) rfl (by decide) ?_
      refine xr_al0 dX11_count_118 ?_
      refine xr_get W.oX fX11_26 rfl dX11_count_119 ?_
      refine xr_get W.Hh.1 fX11_287 rfl dX11_count_122 ?_
      refine xr_iret dX11_count_125 rfl ?_
      exact ⟨_, rfl, (show ctV σ φ hn wn pn rk tn (nI (0 + 5)) = σ 15 from rfl).symm, W⟩
    · skip
      refine xr_tabIn (tgt := 126) dX11_count_1 (by decide) (by decide) rfl (by decide) ?_
      refine xr_al0 dX11_count_126 ?_
      refine xr_get W.oX fX11_26 rfl dX11_count_127 ?_
      refine xr_get W.Hh.1 fX11_290 rfl dX11_count_130 ?_
      refine xr_iret dX11_count_133 rfl ?_
      exact ⟨_, rfl, (show ctV σ φ hn wn pn rk tn (nI (0 + 6)) = σ 16 from rfl).symm, W⟩
    · skip
      refine xr_tabIn (tgt := 134) dX11_count_1 (by decide) (by decide) rfl (by decide) ?_
      refine xr_al0 dX11_count_134 ?_
      refine xr_get W.oX fX11_26 rfl dX11_count_135 ?_
      refine xr_get W.Hh.1 fX11_299 rfl dX11_count_138 ?_
      refine xr_iret dX11_count_141 rfl ?_
      exact ⟨_, rfl, (show ctV σ φ hn wn pn rk tn (nI (0 + 7)) = σ 17 from rfl).symm, W⟩
    · skip
      refine xr_tabIn (tgt := 142) dX11_count_1 (by decide) (by decide) rfl (by decide) ?_
      refine xr_al0 dX11_count_142 ?_
      refine xr_get W.oX fX11_26 rfl dX11_count_143 ?_
      refine xr_get W.Hh.1 fX11_437 rfl dX11_count_146 ?_
      refine xr_iret dX11_count_149 rfl ?_
      exact ⟨_, rfl, (show ctV σ φ hn wn pn rk tn (nI (0 + 8)) = σ 18 from rfl).symm, W⟩
    · skip
      refine xr_tabIn (tgt := 150) dX11_count_1 (by decide) (by decide) rfl (by decide) ?_
      refine xr_al0 dX11_count_150 ?_
      refine xr_get W.oX fX11_50 rfl dX11_count_151 ?_
      refine xr_al0 dX11_count_154 ?_
      refine xr_get W.oX fX11_26 rfl dX11_count_155 ?_
      refine xr_Vpi1 (wSpring W) kX11_229 (by decide) (Nat.le_of_ble_eq_true rfl) (Nat.zero_add _) (Nat.zero_add _) dX11_count_158 (fun zv158 zh1 zq1 => ?_)
      obtain ⟨rfl, W⟩ := zq1
      refine xr_iret dX11_count_161 rfl ?_
      exact ⟨_, rfl, (show ctV σ φ hn wn pn rk tn (nI (0 + 9)) = φ σ from rfl).symm, W⟩
    · skip
      refine xr_tabIn (tgt := 162) dX11_count_1 (by decide) (by decide) rfl (by decide) ?_
      refine xr_al0 dX11_count_162 ?_
      refine xr_get W.oX fX11_69 rfl dX11_count_163 ?_
      refine xr_Vi0 (s_heSize W.He) kX11_380 (by decide) (Nat.le_of_ble_eq_true rfl) (Nat.zero_add _) (Nat.zero_add _) dX11_count_166 ?_
      refine xr_iret dX11_count_169 rfl ?_
      exact ⟨_, rfl, (show ctV σ φ hn wn pn rk tn (nI (0 + 10)) = nI hn from rfl).symm, W⟩
    · skip
      refine xr_tabIn (tgt := 170) dX11_count_1 (by decide) (by decide) rfl (by decide) ?_
      refine xr_al0 dX11_count_170 ?_
      refine xr_get W.oX fX11_76 rfl dX11_count_171 ?_
      refine xr_Vi0 (s_siSize W.Hi) kX11_392 (by decide) (Nat.le_of_ble_eq_true rfl) (Nat.zero_add _) (Nat.zero_add _) dX11_count_174 ?_
      refine xr_iret dX11_count_177 rfl ?_
      exact ⟨_, rfl, (show ctV σ φ hn wn pn rk tn (nI (0 + 11)) = nI wn from rfl).symm, W⟩
    · skip
      refine xr_tabIn (tgt := 178) dX11_count_1 (by decide) (by decide) rfl (by decide) ?_
      refine xr_al0 dX11_count_178 ?_
      refine xr_get W.oX fX11_39 rfl dX11_count_179 ?_
      refine xr_Vi0 (s_paSize (Classical.choose_spec (Classical.choose_spec (Classical.choose_spec (Classical.choose_spec W.Hp)))).1) kX11_284 (by decide) (Nat.le_of_ble_eq_true rfl) (Nat.zero_add _) (Nat.zero_add _) dX11_count_182 ?_
      refine xr_iret dX11_count_185 rfl ?_
      exact ⟨_, rfl, (show ctV σ φ hn wn pn rk tn (nI (0 + 12)) = nI pn from rfl).symm, W⟩
    · skip
      refine xr_tabIn (tgt := 186) dX11_count_1 (by decide) (by decide) rfl (by decide) ?_
      refine xr_al0 dX11_count_186 ?_
      refine xr_get W.oX fX11_19 rfl dX11_count_187 ?_
      refine xr_Vi0 (s_nuSize W.Hr) kX11_440 (by decide) (Nat.le_of_ble_eq_true rfl) (Nat.zero_add _) (Nat.zero_add _) dX11_count_190 ?_
      refine xr_iret dX11_count_193 rfl ?_
      exact ⟨_, rfl, (show ctV σ φ hn wn pn rk tn (nI (0 + 13)) = rk from rfl).symm, W⟩
    · skip
      refine xr_tabIn (tgt := 194) dX11_count_1 (by decide) (by decide) rfl (by decide) ?_
      refine xr_al0 dX11_count_194 ?_
      refine xr_get W.oX fX11_12 rfl dX11_count_195 ?_
      refine xr_Vi0 (s_slLength W.Ht) kX11_107 (by decide) (Nat.le_of_ble_eq_true rfl) (Nat.zero_add _) (Nat.zero_add _) dX11_count_198 ?_
      refine xr_iret dX11_count_201 rfl ?_
      exact ⟨_, rfl, (show ctV σ φ hn wn pn rk tn (nI (0 + 14)) = nI tn from rfl).symm, W⟩
def pwN (b : Int32) : Nat → Int64 → Int64
  | 0, a => a
  | r + 1, a => pwN b r (a * b.toInt64)
theorem pwN_s (b : Int32) (r : Nat) (a : Int64) : pwN b (r + 1) a = pwN b r (a * b.toInt64) := rfl
set_option maxRecDepth 20000 in
theorem lp_power {K : xK} {B : Nat} {l : Launch} {h : xH} (b : Int32) (N : Nat) (hN : N < 2 ^ 31) : ∀ (r k : Nat) (a : Int64), k + r = N → xT K B l 0 RX11 false cX11_power 5 (some .long) 0 0 0 0 (xQl (pwN b r a) h) 5 [some (.int b), some (.int (nI N)), some (.long a), none, some (.int (nI k))] [] h := by
  intro r
  induction r with
  | zero =>
    intro k a hk
    refine xr_il4 dX11_power_5 ?_
    refine xr_il1 dX11_power_7 ?_
    refine xr_icmpge (tgt := 22) dX11_power_8 (by decide) (fun zc8 => ?_) (fun zc8 => ?_)
    · skip
      refine xr_ll2 dX11_power_22 ?_
      refine xr_lret dX11_power_23 rfl ?_
      exact ⟨rfl, rfl⟩
    · skip
      exact absurd (nI_le (a := N) (by omega) (by omega)) zc8
  | succ r ih =>
    intro k a hk
    refine xr_il4 dX11_power_5 ?_
    refine xr_il1 dX11_power_7 ?_
    refine xr_icmpge (tgt := 22) dX11_power_8 (by decide) (fun zc8 => ?_) (fun zc8 => ?_)
    · skip
      exact absurd zc8 (nI_ge (by omega) (by omega))
    · skip
      refine xr_ll2 dX11_power_11 ?_
      refine xr_il0 dX11_power_12 ?_
      refine xr_i2l dX11_power_13 ?_
      refine xr_lmul dX11_power_14 ?_
      refine xr_ls2 dX11_power_15 (by decide) rfl ?_
      refine xr_inc4 dX11_power_16 (nI_inc k) (by decide) rfl ?_
      refine xr_goto (tgt := 5) dX11_power_19 (by decide) ?_
      rw [pwN_s]
      exact ih (k + 1) _ (by omega)
set_option maxRecDepth 20000 in
theorem s_power {K : xK} {B : Nat} {l : Launch} {h : xH} (b : Int32) {N : Nat} (hN : N < 2 ^ 31) : xU K B l 0 mX11_power 0 0 [.int b, .int (nI N)] h (xQl (pwN b N 1) h) := by
  refine ⟨qX11_power, ?_⟩
  refine xS.intro RX11 false ⟨rfl, rfl, by decide, by decide, Nat.le_of_ble_eq_true rfl⟩ (ls := [some (.int b), some (.int (nI N)), none, none, none]) rfl ?_
  refine xr_lc1 dX11_power_0 ?_
  refine xr_ls2 dX11_power_1 (by decide) rfl ?_
  refine xr_ic0 dX11_power_2 ?_
  refine xr_is4 dX11_power_3 (by decide) rfl ?_
  exact lp_power b N hN N 0 1 (by omega)
def gdN : Nat → Int64 → Int64 → Int64
  | 0, a, _ => a
  | r + 1, a, b => if b = 0 then a else gdN r b (a - a / b * b)
theorem gdN_s (r : Nat) (a b : Int64) : gdN (r + 1) a b = if b = 0 then a else gdN r b (a - a / b * b) := rfl
set_option maxRecDepth 20000 in
theorem lp_divisor {K : xK} {B : Nat} {l : Launch} {h : xH} (u v : Int64) : ∀ (r k : Nat) (a b : Int64) (y9 : Option Value), k + r = 100 → xT K B l 0 RX11 false cX11_greatestDivisor 11 (some .long) 0 0 0 0 (xQl (gdN r a b) h) 9 [some (.long u), none, some (.long v), none, some (.long a), none, some (.long b), none, some (.int (nI k)), y9, none] [] h := by
  intro r
  induction r with
  | zero =>
    intro k a b y9 hk
    refine xr_il8 dX11_greatestDivisor_9 ?_
    refine xr_bipush (v := 100) dX11_greatestDivisor_11 (by decide) ?_
    refine xr_icmpge (tgt := 44) dX11_greatestDivisor_13 (by decide) (fun zc13 => ?_) (fun zc13 => ?_)
    · skip
      refine xr_ll4 dX11_greatestDivisor_44 ?_
      refine xr_lret dX11_greatestDivisor_46 rfl ?_
      exact ⟨rfl, rfl⟩
    · skip
      exact absurd (nI_le (a := 100) (by omega) (by omega)) zc13
  | succ r ih =>
    intro k a b y9 hk
    refine xr_il8 dX11_greatestDivisor_9 ?_
    refine xr_bipush (v := 100) dX11_greatestDivisor_11 (by decide) ?_
    refine xr_icmpge (tgt := 44) dX11_greatestDivisor_13 (by decide) (fun zc13 => ?_) (fun zc13 => ?_)
    · skip
      exact absurd zc13 (nI_ge (b := 100) (by omega) (by decide))
    · skip
      refine xr_ll6 dX11_greatestDivisor_16 ?_
      refine xr_lc0 dX11_greatestDivisor_18 ?_
      refine xr_lcmp dX11_greatestDivisor_19 ?_
      refine xr_ifeq (tgt := 44) dX11_greatestDivisor_20 (by decide) (fun zc20 => ?_) (fun zc20 => ?_)
      · skip
        refine xr_ll4 dX11_greatestDivisor_44 ?_
        refine xr_lret dX11_greatestDivisor_46 rfl ?_
        exact ⟨by rw [gdN_s, if_pos ((lcmp0 _).mp zc20)], rfl⟩
      · skip
        refine xr_ll4 dX11_greatestDivisor_23 ?_
        refine xr_ll6 dX11_greatestDivisor_25 ?_
        refine xr_lrem dX11_greatestDivisor_27 (fun q => zc20 ((lcmp0 _).mpr q)) ?_
        refine xr_ls9 dX11_greatestDivisor_28 (by decide) rfl ?_
        refine xr_ll6 dX11_greatestDivisor_30 ?_
        refine xr_ls4 dX11_greatestDivisor_32 (by decide) rfl ?_
        refine xr_ll9 dX11_greatestDivisor_34 ?_
        refine xr_ls6 dX11_greatestDivisor_36 (by decide) rfl ?_
        refine xr_inc8 dX11_greatestDivisor_38 (nI_inc k) (by decide) rfl ?_
        refine xr_goto (tgt := 9) dX11_greatestDivisor_41 (by decide) ?_
        rw [gdN_s, if_neg (fun q => zc20 ((lcmp0 _).mpr q))]
        exact ih (k + 1) _ _ _ (by omega)
set_option maxRecDepth 20000 in
theorem s_divisor {K : xK} {B : Nat} {l : Launch} {h : xH} (u v : Int64) : xU K B l 0 mX11_greatestDivisor 0 0 [.long u, .long v] h (xQl (gdN 100 u v) h) := by
  refine ⟨qX11_greatestDivisor, ?_⟩
  refine xS.intro RX11 false ⟨rfl, rfl, by decide, by decide, Nat.le_of_ble_eq_true rfl⟩ (ls := [some (.long u), none, some (.long v), none, none, none, none, none, none, none, none]) rfl ?_
  refine xr_ll0 dX11_greatestDivisor_0 ?_
  refine xr_ls4 dX11_greatestDivisor_1 (by decide) rfl ?_
  refine xr_ll2 dX11_greatestDivisor_3 ?_
  refine xr_ls6 dX11_greatestDivisor_4 (by decide) rfl ?_
  refine xr_ic0 dX11_greatestDivisor_6 ?_
  refine xr_is8 dX11_greatestDivisor_7 (by decide) rfl ?_
  exact lp_divisor u v 100 0 u v none (by omega)
def tfV (rv : Nat → Int64) (u v : Int64) : Nat → Int64 := if gdN 100 u v = 0 then vp_updL (vp_updL rv 0 0) 1 1 else vp_updL (vp_updL rv 0 (u / gdN 100 u v)) 1 (v / gdN 100 u v)
set_option maxRecDepth 20000 in
theorem s_tellFraction {K : xK} {B : Nat} {l : Launch} {h0 h : xH} {X D : Nat} {tn : Nat} {tf : Nat → Int32} {rk : Int32} {rv : Nat → Int64} {σ : xs} {β : xs} {γ : xs} {pn : Nat} {τ : Nat → xs} {ks : Nat → Bool} {κ : Nat → xs} {φ : xs → Int32} {hn : Nat} {hf : Nat → Int32} {hg : Nat → Int32} {wn : Nat} {wf : Nat → Int32} {wg : Nat → Int32} (W : xCw K h0 h X D tn tf rk rv σ β γ pn τ ks κ φ hn hf hg wn wf wg) (u v : Int64) : xV K B l 2 mX11_tellFraction 0 0 (X) [.long u, .long v] h (xPv (fun g => xCw K h0 g X D tn tf 2 (tfV rv u v) σ β γ pn τ ks κ φ hn hf hg wn wf wg)) := by
  refine ⟨⟨_, _, _, _, W.oX, rfl⟩, qX11_tellFraction, ?_⟩
  refine xS.intro RX11 false ⟨rfl, rfl, by decide, by decide, Nat.le_of_ble_eq_true rfl⟩ (ls := [some (.ref X), some (.long u), none, some (.long v), none, none, none]) rfl ?_
  refine xr_ll1 dX11_tellFraction_0 ?_
  refine xr_ll3 dX11_tellFraction_1 ?_
  refine xr_Sl2 (s_divisor _ _) kX11_370 (by decide) (Nat.le_of_ble_eq_true rfl) (Nat.zero_add _) (Nat.zero_add _) dX11_tellFraction_2 ?_
  refine xr_ls5 dX11_tellFraction_5 (by decide) rfl ?_
  refine xr_ll5 dX11_tellFraction_7 ?_
  refine xr_lc0 dX11_tellFraction_9 ?_
  refine xr_lcmp dX11_tellFraction_10 ?_
  refine xr_ifne (tgt := 26) dX11_tellFraction_11 (by decide) (fun zc11 => ?_) (fun zc11 => ?_)
  · skip
    refine xr_al0 dX11_tellFraction_26 ?_
    refine xr_get W.oX fX11_19 rfl dX11_tellFraction_27 ?_
    refine xr_ll1 dX11_tellFraction_30 ?_
    refine xr_ll5 dX11_tellFraction_31 ?_
    refine xr_ldiv dX11_tellFraction_33 (fun q => zc11 ((lcmp0 _).mpr q)) ?_
    refine xr_ll3 dX11_tellFraction_34 ?_
    refine xr_ll5 dX11_tellFraction_35 ?_
    refine xr_ldiv dX11_tellFraction_37 (fun q => zc11 ((lcmp0 _).mpr q)) ?_
    refine xr_Vv2 (s_tell2 W.Hr _ _) kX11_236 (by decide) (Nat.le_of_ble_eq_true rfl) (Nat.zero_add _) (Nat.zero_add _) dX11_tellFraction_38 ?_
    refine xT.nm (fun zh1 zg1 => ?_)
    have W := W.ur (fB2 zg1)
    refine xr_vret dX11_tellFraction_41 rfl ?_
    refine ⟨rfl, ?_⟩
    unfold tfV
    rw [if_neg (fun q => zc11 ((lcmp0 _).mpr q))]
    exact W
  · skip
    refine xr_al0 dX11_tellFraction_14 ?_
    refine xr_get W.oX fX11_19 rfl dX11_tellFraction_15 ?_
    refine xr_lc0 dX11_tellFraction_18 ?_
    refine xr_lc1 dX11_tellFraction_19 ?_
    refine xr_Vv2 (s_tell2 W.Hr _ _) kX11_236 (by decide) (Nat.le_of_ble_eq_true rfl) (Nat.zero_add _) (Nat.zero_add _) dX11_tellFraction_20 ?_
    refine xT.nm (fun zh1 zg1 => ?_)
    have W := W.ur (fB2 zg1)
    refine xr_goto (tgt := 41) dX11_tellFraction_23 (by decide) ?_
    refine xr_vret dX11_tellFraction_41 rfl ?_
    refine ⟨rfl, ?_⟩
    unfold tfV
    rw [if_pos ((lcmp0 _).mp zc11)]
    exact W
