/-! The model in the class's words: best, parts, sheet (written by wip/whole/mod26.py) -/
theorem wtN_b {σ : xs} (iv : hIv σ) {s : Nat} (hs : s < 2) (g : Int32) : ∀ k, k ≤ ln σ s → ∃ q : Nat, q ≤ 9 * k ∧ wtN σ s g k = nI q := by
  intro k
  induction k with
  | zero => intro _; exact ⟨0, by omega, rfl⟩
  | succ k ih =>
    intro hk
    obtain ⟨q, hq, e⟩ := ih (by omega)
    obtain ⟨a, a1, a9, ea⟩ := iv.1 s hs k (by omega)
    show ∃ q : Nat, q ≤ 9 * (k + 1) ∧ wtN σ s g k + (g >>> (nI k &&& 31) &&& 1) * σ (5 * s + k) = nI q
    rw [e, ea]
    rcases and1 (g >>> (nI k &&& 31)) with z | z
    · rw [z]
      exact ⟨q, by omega, by rw [Int32.zero_mul, Int32.add_zero]⟩
    · rw [z]
      exact ⟨q + a, by omega, by rw [Int32.one_mul, nI_add]⟩
theorem wt_b {σ : xs} (iv : hIv σ) (ok : hOk σ) {s : Nat} (hs : s < 2) (g : Int32) : ∃ q : Nat, q ≤ 45 ∧ wt σ s g = nI q := by
  obtain ⟨q, hq, e⟩ := wtN_b iv hs g (ln σ s) (Nat.le_refl _)
  have := (ok.1 s hs).2
  exact ⟨q, by omega, e⟩
theorem iMax_n {a b : Nat} (ha : a < 2 ^ 30) (hb : b < 2 ^ 30) : iMax 0 (nI a - nI b) = nI (a - b) := by
  unfold iMax
  by_cases c : b < a
  · have p : (0 : Int32) < nI (a - b) := nI_lt (a := 0) (b := a - b) (by omega) (by omega)
    rw [nI_sub (by omega), if_pos p]
  · by_cases c2 : a < b
    · rw [if_neg (fun q => Int32.lt_irrefl (Int32.lt_trans q (pk_sneg hb c2))), show a - b = 0 by omega]
      rfl
    · rw [nI_sub (by omega), show a - b = 0 by omega]
      rfl
theorem water_b {σ : xs} (iv : hIv σ) (ok : hOk σ) (x y : Int32) : ∃ q : Nat, q ≤ 54 ∧ hWater σ x y = nI q := by
  obtain ⟨a, ha, ea⟩ := wt_b iv ok (s := 1) (by decide) y
  obtain ⟨b, hb, eb⟩ := wt_b iv ok (s := 0) (by decide) x
  obtain ⟨g, hg, eg⟩ := iv.2
  unfold hWater
  rw [ea, eb, eg, nI_add, iMax_n (by omega) (by omega)]
  exact ⟨_, by omega, rfl⟩
theorem alW_b : ∀ (r p : Nat) {γ : xs}, hOk γ → hIv γ → ∃ q : Nat, q ≤ p + 54 * r ∧ alW r (nI p) γ = nI q := by
  intro r
  induction r with
  | zero => intro p γ _ _; exact ⟨p, by omega, rfl⟩
  | succ r ih =>
    intro p γ ok iv
    rw [alW_s]
    by_cases c : γ 10 + γ 11 = 0
    · rw [if_pos c]
      exact ⟨p, by omega, rfl⟩
    · rw [if_neg c]
      obtain ⟨w, hw, ew⟩ := water_b iv ok (hNext γ 0) (hNext γ 1)
      rw [ew, nI_add]
      obtain ⟨q, hq, e⟩ := ih (p + w) (hOk_takeNext ok) (hIv_takeNext iv ok)
      exact ⟨q, by omega, e⟩
set_option maxRecDepth 20000 in
theorem lp_mAll {K : xK} {B : Nat} {l : Launch} {h0 : xH} {Y : Nat} {m : Nat → Int32} {rd : Value} {ru ot : Nat} {u : Nat → Nat → Int32} {v : Nat → Int64} : ∀ (r : Nat) {a : Int32} {x3 x4 : Option Value} {h : xH} {w γ : xs} (okt : hOk γ) (Rt : rr γ w) (W : xMw K h0 h Y m rd ru ot (uu u 11 w) v), ln γ 0 ≤ r ∧ ln γ 1 ≤ r → xT K B l 5 RX12 false cX12_allWater 5 (some .int) 0 0 0 0 (xPi (fun zr g => zr = alW r a γ ∧ ∃ w9, xMw K h0 g Y m rd ru ot (uu u 11 w9) v)) 2 [some (.ref Y), some (.ref (Y + 11)), some (.int a), x3, x4] [] h := by
  intro r
  induction r with
  | zero =>
    intro a x3 x4 h w γ okt Rt W hk
    refine xr_al1 dX12_allWater_2 ?_
    refine xr_Si1 (s_mWaits W.a11) kX12_240 (by decide) (Nat.le_of_ble_eq_true rfl) (Nat.zero_add _) (Nat.zero_add _) dX12_allWater_3 ?_
    refine xr_eqi (y := γ 10 + γ 11) (rr_sum Rt) ?_
    refine xr_ifle (tgt := 45) dX12_allWater_6 (by decide) (fun zc6 => ?_) (fun zc6 => ?_)
    · skip
      refine xr_il2 dX12_allWater_45 ?_
      refine xr_iret dX12_allWater_46 rfl ?_
      exact ⟨_, rfl, rfl, w, W⟩
    · skip
      exact absurd ((sum0 okt).mpr ((sumL0 okt).mpr ⟨by omega, by omega⟩)) zc6
  | succ r ih =>
    intro a x3 x4 h w γ okt Rt W hk
    refine xr_al1 dX12_allWater_2 ?_
    refine xr_Si1 (s_mWaits W.a11) kX12_240 (by decide) (Nat.le_of_ble_eq_true rfl) (Nat.zero_add _) (Nat.zero_add _) dX12_allWater_3 ?_
    refine xr_eqi (y := γ 10 + γ 11) (rr_sum Rt) ?_
    refine xr_ifle (tgt := 45) dX12_allWater_6 (by decide) (fun zc6 => ?_) (fun zc6 => ?_)
    · skip
      refine xr_il2 dX12_allWater_45 ?_
      refine xr_iret dX12_allWater_46 rfl ?_
      rw [(alW_s r a γ).trans (if_pos ((sum0 okt).mp zc6))]
      exact ⟨_, rfl, rfl, w, W⟩
    · skip
      refine xr_il2 dX12_allWater_9 ?_
      refine xr_al1 dX12_allWater_10 ?_
      refine xr_Si1 (s_mNextWater W.a11 (rr_ok Rt okt)) kX12_243 (by decide) (Nat.le_of_ble_eq_true rfl) (Nat.zero_add _) (Nat.zero_add _) dX12_allWater_11 ?_
      refine xr_eqi (y := hWater γ (hNext γ 0) (hNext γ 1)) (rr_nw Rt) ?_
      refine xr_iadd dX12_allWater_14 ?_
      refine xr_is2 dX12_allWater_15 (by decide) rfl ?_
      refine xr_al1 dX12_allWater_16 ?_
      refine xr_ic0 dX12_allWater_17 ?_
      refine xr_Si2 (s_mNextOf W.a11 (rr_ok Rt okt) (s := 0) (by decide)) kX12_234 (by decide) (Nat.le_of_ble_eq_true rfl) (Nat.zero_add _) (Nat.zero_add _) dX12_allWater_18 ?_
      refine xr_eqi (y := hNext γ 0) (rr_next Rt 0) ?_
      refine xr_is3 dX12_allWater_21 (by decide) rfl ?_
      refine xr_al1 dX12_allWater_22 ?_
      refine xr_ic1 dX12_allWater_23 ?_
      refine xr_Si2 (s_mNextOf W.a11 (rr_ok Rt okt) (s := 1) (by decide)) kX12_234 (by decide) (Nat.le_of_ble_eq_true rfl) (Nat.zero_add _) (Nat.zero_add _) dX12_allWater_24 ?_
      refine xr_eqi (y := hNext γ 1) (rr_next Rt 1) ?_
      refine xr_is4 dX12_allWater_27 (by decide) rfl ?_
      refine xr_al1 dX12_allWater_29 ?_
      refine xr_ic0 dX12_allWater_30 ?_
      refine xr_il3 dX12_allWater_31 ?_
      refine xr_Sv3 (s_mOut W.a11 (rr_ok Rt okt) (s := 0) (by decide) _) kX12_221 (by decide) (Nat.le_of_ble_eq_true rfl) (Nat.zero_add _) (Nat.zero_add _) dX12_allWater_32 ?_
      refine xT.nm (fun zh1 zg1 => ?_)
      have W := uu11 (W.p11 zg1)
      refine xr_al1 dX12_allWater_35 ?_
      refine xr_ic1 dX12_allWater_36 ?_
      refine xr_il4 dX12_allWater_37 ?_
      refine xr_Sv3 (s_mOut W.a11 (mOut_ok (rr_ok Rt okt) (by decide) _) (s := 1) (by decide) _) kX12_221 (by decide) (Nat.le_of_ble_eq_true rfl) (Nat.zero_add _) (Nat.zero_add _) dX12_allWater_39 ?_
      refine xT.nm (fun zh2 zg2 => ?_)
      have W := uu11 (W.p11 zg2)
      refine xr_goto (tgt := 2) dX12_allWater_42 (by decide) ?_
      have s1 := okt.2.2.1
      have l0 := ln_takeNext okt (s := 0) (by decide)
      have l1 := ln_takeNext okt (s := 1) (by decide)
      rw [(alW_s r a γ).trans (if_neg (fun q => zc6 ((sum0 okt).mpr q)))]
      exact ih (hOk_takeNext okt) (rr_takeNext Rt okt) W ⟨by omega, by omega⟩
set_option maxRecDepth 20000 in
theorem s_mAllWater {K : xK} {B : Nat} {l : Launch} {h0 h : xH} {Y : Nat} {m : Nat → Int32} {rd : Value} {ru ot : Nat} {u : Nat → Nat → Int32} {v : Nat → Int64} {w γ : xs} (W : xMw K h0 h Y m rd ru ot (uu u 11 w) v) (okt : hOk γ) (Rt : rr γ w) : xV K B l 5 mX12_allWater 0 0 (Y) [.ref (Y + 11)] h (xPi (fun zr g => zr = alW 5 0 γ ∧ ∃ w9, xMw K h0 g Y m rd ru ot (uu u 11 w9) v)) := by
  refine ⟨⟨_, _, _, _, W.o, rfl⟩, qX12_allWater, ?_⟩
  refine xS.intro RX12 false ⟨rfl, rfl, by decide, by decide, Nat.le_of_ble_eq_true rfl⟩ (ls := [some (.ref Y), some (.ref (Y + 11)), none, none, none]) rfl ?_
  refine xr_ic0 dX12_allWater_0 ?_
  refine xr_is2 dX12_allWater_1 (by decide) rfl ?_
  exact lp_mAll 5 okt Rt W ⟨(okt.1 0 (by decide)).2, (okt.1 1 (by decide)).2⟩
def bq (z : Q4) (b sd o t : Int32) : Prop := (z = (1048576, 0, 0, 0) ∧ b = 1000000 ∧ sd = -1) ∨ (z = (b, sd, o, t) ∧ (∃ q : Nat, q ≤ 1000 ∧ b = nI q) ∧ ∃ s : Nat, s < 2 ∧ sd = nI s)
theorem bq_y {σ : xs} {s i j : Nat} (hs : s < 2) {z : Q4} {b sd o t : Int32} (h : bq z b sd o t) {q : Nat} (hq : q ≤ 1000) (e : alW 5 0 (hExch σ (nI s) (nI i) (nI j)) = nI q) (c : nI q < b) : bq (be1 σ s i j z) (nI q) (nI s) (nI i) (nI j) := by
  have c2 : alW 5 0 (hExch σ (nI s) (nI i) (nI j)) < z.1 := by
    rw [e]
    rcases h with ⟨rfl, -, -⟩ | ⟨rfl, -, -⟩
    · exact nI_lt (b := 1048576) (by omega) (by decide)
    · exact c
  unfold be1
  rw [if_pos c2, e]
  exact Or.inr ⟨rfl, ⟨q, hq, rfl⟩, s, hs, rfl⟩
theorem bq_n {σ : xs} {s i j : Nat} {z : Q4} {b sd o t : Int32} (h : bq z b sd o t) {q : Nat} (hq : q ≤ 1000) (e : alW 5 0 (hExch σ (nI s) (nI i) (nI j)) = nI q) (c : ¬ nI q < b) : bq (be1 σ s i j z) b sd o t := by
  unfold be1
  rcases h with ⟨rfl, rfl, h3⟩ | ⟨rfl, h2, h3⟩
  · exact absurd (nI_lt (b := 1000000) (by omega) (by decide)) c
  · rw [if_neg (by rw [e]; exact c)]
    exact Or.inr ⟨rfl, h2, h3⟩
set_option maxRecDepth 20000 in
theorem lp_mBestJ {K : xK} {B : Nat} {l : Launch} {h0 : xH} {Y : Nat} {m : xs} {u : Nat → Nat → Int32} {v : Nat → Int64} {tn : Nat} {tf : xs} {rk : Int32} {rv : Nat → Int64} {σ : xs} {pn : Nat} {τ : Nat → xs} {ks : Nat → Bool} {κ : Nat → xs} {φ : xs → Int32} {hn : Nat} {hf hg : xs} {wn : Nat} {wf wg : xs} (C : maC K B l Y m u v tn tf rk rv σ pn τ ks κ φ hn hf hg wn wf wg) (h5 : m 5 = 0) {rd : Value} {Q : Option Value → xH → Prop} {s : Nat} (hs : s < 2) {i : Nat} : ∀ (r j : Nat) {b sd o t : Int32} {x8 : Option Value} {h : xH} {w : xs} {z : Q4} (hb : bq z b sd o t) (hc : ∀ {h : xH} {w : xs} {b sd o t : Int32} {x7 x8 : Option Value}, bq (beJ σ s i r j z) b sd o t → xMw K h0 h Y m rd (Y + 6) (Y + 7) (uu u 11 w) v → xT K B l 206 RX12 false cX12_best 9 (some .int) 0 0 0 0 (Q) 135 [some (.ref Y), some (.int b), some (.int sd), some (.int o), some (.int t), some (.int (nI s)), some (.int (nI i)), x7, x8] [] h) (W : xMw K h0 h Y m rd (Y + 6) (Y + 7) (uu u 11 w) v), i < j ∧ j + r = ln σ s → xT K B l 206 RX12 false cX12_best 9 (some .int) 0 0 0 0 (Q) 49 [some (.ref Y), some (.int b), some (.int sd), some (.int o), some (.int t), some (.int (nI s)), some (.int (nI i)), some (.int (nI j)), x8] [] h := by
  obtain ⟨T, Rw, ⟨R, ok, iv⟩, P, Kp, L, H, Sw⟩ := id C
  intro r
  induction r with
  | zero =>
    intro j b sd o t x8 h w z hb hc W hk
    have l5 := (ok.1 s hs).2
    refine xr_il7 dX12_best_49 ?_
    refine xr_al0 dX12_best_51 ?_
    refine xr_get W.o fX12_9 rfl dX12_best_52 ?_
    refine xr_bipush (v := 10) dX12_best_55 (by decide) ?_
    refine xr_il5 dX12_best_57 ?_
    refine xr_iadd dX12_best_59 ?_
    refine xr_eqi (y := nI (10 + s)) (nI_add 10 s) ?_
    refine xr_iald W.a1 (xix_nI (n := 19) (j := 10 + s) (by omega) (by decide)) dX12_best_60 ?_
    refine xr_eqi (y := nI (ln σ s)) ((R.1 _ (by omega) (by omega)).trans (ok.1 s hs).1) ?_
    refine xr_icmpge (tgt := 135) dX12_best_61 (by decide) (fun zc61 => ?_) (fun zc61 => ?_)
    · skip
      exact hc hb W
    · skip
      exact absurd (nI_le (by omega) (by omega)) zc61
  | succ r ih =>
    intro j b sd o t x8 h w z hb hc W hk
    have rx := rr_exch (rr_lay R ok w) ok hs (i := i) (j := j) (by omega) (by omega)
    have ox : hOk (hExch σ (nI s) (nI i) (nI j)) := hOk_exch ok _ _ _
    obtain ⟨q, hq, eq⟩ := alW_b 5 0 ox (hIv_exch iv ok hs (i := i) (j := j) (by omega) (by omega))
    have eq : alW 5 0 (hExch σ (nI s) (nI i) (nI j)) = nI q := eq
    have l5 := (ok.1 s hs).2
    refine xr_il7 dX12_best_49 ?_
    refine xr_al0 dX12_best_51 ?_
    refine xr_get W.o fX12_9 rfl dX12_best_52 ?_
    refine xr_bipush (v := 10) dX12_best_55 (by decide) ?_
    refine xr_il5 dX12_best_57 ?_
    refine xr_iadd dX12_best_59 ?_
    refine xr_eqi (y := nI (10 + s)) (nI_add 10 s) ?_
    refine xr_iald W.a1 (xix_nI (n := 19) (j := 10 + s) (by omega) (by decide)) dX12_best_60 ?_
    refine xr_eqi (y := nI (ln σ s)) ((R.1 _ (by omega) (by omega)).trans (ok.1 s hs).1) ?_
    refine xr_icmpge (tgt := 135) dX12_best_61 (by decide) (fun zc61 => ?_) (fun zc61 => ?_)
    · skip
      exact absurd zc61 (nI_ge (by omega) (by omega))
    · skip
      skip
      refine xr_al0 dX12_best_64 ?_
      refine xr_get W.o fX12_9 rfl dX12_best_65 ?_
      refine xr_al0 dX12_best_68 ?_
      refine xr_get W.o fX12_42 rfl dX12_best_69 ?_
      refine xr_ic0 dX12_best_72 ?_
      refine xr_Sv3 (s_mLay (k := 0) W.a1 W.a11 (by omega) (by decide) (by decide)) kX12_210 (by decide) (Nat.le_of_ble_eq_true rfl) (Nat.zero_add _) (Nat.zero_add _) dX12_best_73 ?_
      refine xT.nm (fun zh1 zg1 => ?_)
      have W := uu11 (W.p11 zg1)
      refine xr_al0 dX12_best_76 ?_
      refine xr_get W.o fX12_42 rfl dX12_best_77 ?_
      refine xr_ic5 dX12_best_80 ?_
      refine xr_il5 dX12_best_81 ?_
      refine xr_imul dX12_best_83 ?_
      refine xr_eqi (y := nI (5 * s)) (pk_mul 5 s) ?_
      refine xr_il6 dX12_best_84 ?_
      refine xr_iadd dX12_best_86 ?_
      refine xr_eqi (y := nI (5 * s + i)) (nI_add _ _) ?_
      refine xr_ic5 dX12_best_87 ?_
      refine xr_il5 dX12_best_88 ?_
      refine xr_imul dX12_best_90 ?_
      refine xr_eqi (y := nI (5 * s)) (pk_mul 5 s) ?_
      refine xr_il7 dX12_best_91 ?_
      refine xr_iadd dX12_best_93 ?_
      refine xr_eqi (y := nI (5 * s + j)) (nI_add _ _) ?_
      refine xr_Sv3 (s_mChange W.a11 (i := 5 * s + i) (j := 5 * s + j) (by omega) (by omega)) kX12_288 (by decide) (Nat.le_of_ble_eq_true rfl) (Nat.zero_add _) (Nat.zero_add _) dX12_best_94 ?_
      refine xT.nm (fun zh2 zg2 => ?_)
      have W := uu11 (W.p11 zg2)
      refine xr_al0 dX12_best_97 ?_
      refine xr_al0 dX12_best_98 ?_
      refine xr_get W.o fX12_42 rfl dX12_best_99 ?_
      refine xr_Vpi1 (s_mAllWater W ox rx) kX12_327 (by decide) (Nat.le_of_ble_eq_true rfl) (Nat.zero_add _) (Nat.zero_add _) dX12_best_102 (fun zv102 zh3 zq3 => ?_)
      obtain ⟨rfl, w9, W⟩ := zq3
      refine xr_eqi (y := nI q) eq ?_
      refine xr_is8 dX12_best_105 (by decide) rfl ?_
      refine xr_il8 dX12_best_107 ?_
      refine xr_il1 dX12_best_109 ?_
      refine xr_icmplt (tgt := 116) dX12_best_110 (by decide) (fun zc110 => ?_) (fun zc110 => ?_)
      · skip
        refine xr_il8 dX12_best_116 ?_
        refine xr_is1 dX12_best_118 (by decide) rfl ?_
        refine xr_il5 dX12_best_119 ?_
        refine xr_is2 dX12_best_121 (by decide) rfl ?_
        refine xr_il6 dX12_best_122 ?_
        refine xr_is3 dX12_best_124 (by decide) rfl ?_
        refine xr_il7 dX12_best_125 ?_
        refine xr_is4 dX12_best_127 (by decide) rfl ?_
        refine xr_inc7 dX12_best_129 (nI_inc j) (by decide) rfl ?_
        refine xr_goto (tgt := 49) dX12_best_132 (by decide) ?_
        exact ih (j + 1) (bq_y hs hb (by omega) eq zc110) hc W (by omega)
      · skip
        refine xr_goto (tgt := 129) dX12_best_113 (by decide) ?_
        refine xr_inc7 dX12_best_129 (nI_inc j) (by decide) rfl ?_
        refine xr_goto (tgt := 49) dX12_best_132 (by decide) ?_
        exact ih (j + 1) (bq_n hb (by omega) eq zc110) hc W (by omega)
set_option maxRecDepth 20000 in
theorem lp_mBestI {K : xK} {B : Nat} {l : Launch} {h0 : xH} {Y : Nat} {m : xs} {u : Nat → Nat → Int32} {v : Nat → Int64} {tn : Nat} {tf : xs} {rk : Int32} {rv : Nat → Int64} {σ : xs} {pn : Nat} {τ : Nat → xs} {ks : Nat → Bool} {κ : Nat → xs} {φ : xs → Int32} {hn : Nat} {hf hg : xs} {wn : Nat} {wf wg : xs} (C : maC K B l Y m u v tn tf rk rv σ pn τ ks κ φ hn hf hg wn wf wg) (h5 : m 5 = 0) {rd : Value} {Q : Option Value → xH → Prop} {s : Nat} (hs : s < 2) : ∀ (r i : Nat) {b sd o t : Int32} {x7 x8 : Option Value} {h : xH} {w : xs} {z : Q4} (hb : bq z b sd o t) (hc : ∀ {h : xH} {w : xs} {b sd o t : Int32} {x6 x7 x8 : Option Value}, bq (beI σ s r i z) b sd o t → xMw K h0 h Y m rd (Y + 6) (Y + 7) (uu u 11 w) v → xT K B l 206 RX12 false cX12_best 9 (some .int) 0 0 0 0 (Q) 141 [some (.ref Y), some (.int b), some (.int sd), some (.int o), some (.int t), some (.int (nI s)), x6, x7, x8] [] h) (W : xMw K h0 h Y m rd (Y + 6) (Y + 7) (uu u 11 w) v), i + r = ln σ s → xT K B l 206 RX12 false cX12_best 9 (some .int) 0 0 0 0 (Q) 28 [some (.ref Y), some (.int b), some (.int sd), some (.int o), some (.int t), some (.int (nI s)), some (.int (nI i)), x7, x8] [] h := by
  obtain ⟨T, Rw, ⟨R, ok, iv⟩, P, Kp, L, H, Sw⟩ := id C
  intro r
  induction r with
  | zero =>
    intro i b sd o t x7 x8 h w z hb hc W hk
    have l5 := (ok.1 s hs).2
    refine xr_il6 dX12_best_28 ?_
    refine xr_al0 dX12_best_30 ?_
    refine xr_get W.o fX12_9 rfl dX12_best_31 ?_
    refine xr_bipush (v := 10) dX12_best_34 (by decide) ?_
    refine xr_il5 dX12_best_36 ?_
    refine xr_iadd dX12_best_38 ?_
    refine xr_eqi (y := nI (10 + s)) (nI_add 10 s) ?_
    refine xr_iald W.a1 (xix_nI (n := 19) (j := 10 + s) (by omega) (by decide)) dX12_best_39 ?_
    refine xr_eqi (y := nI (ln σ s)) ((R.1 _ (by omega) (by omega)).trans (ok.1 s hs).1) ?_
    refine xr_icmpge (tgt := 141) dX12_best_40 (by decide) (fun zc40 => ?_) (fun zc40 => ?_)
    · skip
      exact hc hb W
    · skip
      exact absurd (nI_le (by omega) (by omega)) zc40
  | succ r ih =>
    intro i b sd o t x7 x8 h w z hb hc W hk
    have l5 := (ok.1 s hs).2
    refine xr_il6 dX12_best_28 ?_
    refine xr_al0 dX12_best_30 ?_
    refine xr_get W.o fX12_9 rfl dX12_best_31 ?_
    refine xr_bipush (v := 10) dX12_best_34 (by decide) ?_
    refine xr_il5 dX12_best_36 ?_
    refine xr_iadd dX12_best_38 ?_
    refine xr_eqi (y := nI (10 + s)) (nI_add 10 s) ?_
    refine xr_iald W.a1 (xix_nI (n := 19) (j := 10 + s) (by omega) (by decide)) dX12_best_39 ?_
    refine xr_eqi (y := nI (ln σ s)) ((R.1 _ (by omega) (by omega)).trans (ok.1 s hs).1) ?_
    refine xr_icmpge (tgt := 141) dX12_best_40 (by decide) (fun zc40 => ?_) (fun zc40 => ?_)
    · skip
      exact absurd zc40 (nI_ge (by omega) (by omega))
    · skip
      refine xr_il6 dX12_best_43 ?_
      refine xr_ic1 dX12_best_45 ?_
      refine xr_iadd dX12_best_46 ?_
      refine xr_eqi (y := nI (i + 1)) (nI_1 i) ?_
      refine xr_is7 dX12_best_47 (by decide) rfl ?_
      refine lp_mBestJ C h5 hs (i := i) (ln σ s - (i + 1)) (i + 1) hb (fun {h} {w} {b} {sd} {o} {t} {x7} {x8} hb W => ?_) W ⟨by omega, by omega⟩
      refine xr_inc6 dX12_best_135 (nI_inc i) (by decide) rfl ?_
      refine xr_goto (tgt := 28) dX12_best_138 (by decide) ?_
      exact ih (i + 1) hb hc W (by omega)
set_option maxRecDepth 20000 in
theorem a_best {K : xK} {B : Nat} {l : Launch} {h0 h : xH} {Y : Nat} {th : Int32} {tn : Nat} {tf : xs} {rk : Int32} {rv : Nat → Int64} {σ : xs} {pn : Nat} {τ : Nat → xs} {ks : Nat → Bool} {κ : Nat → xs} {φ : xs → Int32} {hn : Nat} {hf hg : xs} {wn : Nat} {wf wg : xs} (A : xMa K B l h0 h Y th tn tf rk rv σ pn τ ks κ φ hn hf hg wn wf wg)  : xV K B l 206 mX12_best 0 0 (Y) [] h (xPi (fun zr g => zr = (beR σ rk rv).1 ∧ xMa K B l h0 g Y 0 tn tf ((beR σ rk rv).2.1) ((beR σ rk rv).2.2) σ pn τ ks κ φ hn hf hg wn wf wg)) := by
  obtain ⟨m, rd, u, v, W, T, Rw, ⟨R, ok, iv⟩, P, Kp, L, H, Sw, hth⟩ := A
  refine ⟨⟨_, _, _, _, W.o, rfl⟩, qX12_best, ?_⟩
  refine xS.intro RX12 false ⟨rfl, rfl, by decide, by decide, Nat.le_of_ble_eq_true rfl⟩ (ls := [some (.ref Y), none, none, none, none, none, none, none, none]) rfl ?_
  refine xr_al0 dX12_best_0 ?_
  refine xr_ic0 dX12_best_1 ?_
  refine xr_put W.o fX12_82 (Nat.le_of_ble_eq_true rfl) rfl rfl dX12_best_2 ?_
  refine xT.nm (fun zh1 zg1 => ?_)
  have W := W.f5 zg1
  refine xr_ldcw nX12_300 dX12_best_5 ?_
  refine xr_is1 dX12_best_8 (by decide) rfl ?_
  refine xr_icm1 dX12_best_9 ?_
  refine xr_is2 dX12_best_10 (by decide) rfl ?_
  refine xr_icm1 dX12_best_11 ?_
  refine xr_is3 dX12_best_12 (by decide) rfl ?_
  refine xr_icm1 dX12_best_13 ?_
  refine xr_is4 dX12_best_14 (by decide) rfl ?_
  refine xr_ic0 dX12_best_16 ?_
  refine xr_is5 dX12_best_17 (by decide) rfl ?_
  have C : maC K B l Y (upd m 5 0) u v tn tf rk rv σ pn τ ks κ φ hn hf hg wn wf wg := ⟨T, Rw, ⟨R, ok, iv⟩, P, Kp, L, H, Sw⟩
  have hb : bq (1048576, 0, 0, 0) 1000000 (-1) (-1) (-1) := Or.inl ⟨rfl, rfl, rfl⟩
  have W : xMw K h0 zh1 Y (upd m 5 0) rd (Y + 6) (Y + 7) (uu u 11 (u 11)) v := by
    rw [uu_id]
    exact W
  refine xr_il5 dX12_best_19 ?_
  refine xr_ic2 dX12_best_21 ?_
  refine xr_icmpge (tgt := 147) dX12_best_22 (by decide) (fun zc22 => ?_) (fun zc22 => ?_)
  · skip
    exact absurd zc22 (by decide)
  · skip
    refine xr_ic0 dX12_best_25 ?_
    refine xr_is6 dX12_best_26 (by decide) rfl ?_
    refine lp_mBestI C rfl (s := 0) (by decide) (ln σ 0) 0 hb (fun {h} {w} {b} {sd} {o} {t} {x6} {x7} {x8} hb W => ?_) W (by omega)
    refine xr_inc5 dX12_best_141 (show (0 : Int32) + Int32.ofInt 1 = 1 from rfl) (by decide) rfl ?_
    refine xr_goto (tgt := 19) dX12_best_144 (by decide) ?_
    refine xr_il5 dX12_best_19 ?_
    refine xr_ic2 dX12_best_21 ?_
    refine xr_icmpge (tgt := 147) dX12_best_22 (by decide) (fun zc22 => ?_) (fun zc22 => ?_)
    · skip
      exact absurd zc22 (by decide)
    · skip
      refine xr_ic0 dX12_best_25 ?_
      refine xr_is6 dX12_best_26 (by decide) rfl ?_
      refine lp_mBestI C rfl (s := 1) (by decide) (ln σ 1) 0 hb (fun {h} {w} {b} {sd} {o} {t} {x6} {x7} {x8} hb W => ?_) W (by omega)
      refine xr_inc5 dX12_best_141 (show (1 : Int32) + Int32.ofInt 1 = 2 from rfl) (by decide) rfl ?_
      refine xr_goto (tgt := 19) dX12_best_144 (by decide) ?_
      refine xr_il5 dX12_best_19 ?_
      refine xr_ic2 dX12_best_21 ?_
      refine xr_icmpge (tgt := 147) dX12_best_22 (by decide) (fun zc22 => ?_) (fun zc22 => ?_)
      · skip
        refine xr_il2 dX12_best_147 ?_
        refine xr_icm1 dX12_best_148 ?_
        refine xr_icmpne (tgt := 155) dX12_best_149 (by decide) (fun zc149 => ?_) (fun zc149 => ?_)
        · skip
          refine xr_al0 dX12_best_155 ?_
          refine xr_get W.o fX12_9 rfl dX12_best_156 ?_
          refine xr_al0 dX12_best_159 ?_
          refine xr_get W.o fX12_42 rfl dX12_best_160 ?_
          refine xr_ic0 dX12_best_163 ?_
          refine xr_Sv3 (s_mLay (k := 0) W.a1 W.a11 (by omega) (by decide) (by decide)) kX12_210 (by decide) (Nat.le_of_ble_eq_true rfl) (Nat.zero_add _) (Nat.zero_add _) dX12_best_164 ?_
          refine xT.nm (fun zh1 zg1 => ?_)
          have W := uu11 (W.p11 zg1)
          refine xr_al0 dX12_best_167 ?_
          refine xr_ic0 dX12_best_168 ?_
          refine xr_put W.o fX12_86 (Nat.le_of_ble_eq_true rfl) rfl rfl dX12_best_169 ?_
          refine xT.nm (fun zh2 zg2 => ?_)
          have W := W.f4 zg2
          refine xr_al0 dX12_best_172 ?_
          refine xr_il2 dX12_best_173 ?_
          refine xr_i2l dX12_best_174 ?_
          refine xr_Vpv1 (s_mTell W (k := 0) rfl (by decide) _) kX12_253 (by decide) (Nat.le_of_ble_eq_true rfl) (Nat.zero_add _) (Nat.zero_add _) dX12_best_175 (fun zh3 zq3 => ?_)
          have W := zq3
          refine xr_al0 dX12_best_178 ?_
          refine xr_il3 dX12_best_179 ?_
          refine xr_i2l dX12_best_180 ?_
          refine xr_Vpv1 (s_mTell W (k := 1) rfl (by decide) _) kX12_253 (by decide) (Nat.le_of_ble_eq_true rfl) (Nat.zero_add _) (Nat.zero_add _) dX12_best_181 (fun zh4 zq4 => ?_)
          have W := zq4
          refine xr_al0 dX12_best_184 ?_
          refine xr_il4 dX12_best_185 ?_
          refine xr_i2l dX12_best_187 ?_
          refine xr_Vpv1 (s_mTell W (k := 2) rfl (by decide) _) kX12_253 (by decide) (Nat.le_of_ble_eq_true rfl) (Nat.zero_add _) (Nat.zero_add _) dX12_best_188 (fun zh5 zq5 => ?_)
          have W := zq5
          refine xr_al0 dX12_best_191 ?_
          refine xr_al0 dX12_best_192 ?_
          refine xr_al0 dX12_best_193 ?_
          refine xr_get W.o fX12_42 rfl dX12_best_194 ?_
          refine xr_Vpi1 (s_mAllWater W ok (rr_lay R ok w)) kX12_327 (by decide) (Nat.le_of_ble_eq_true rfl) (Nat.zero_add _) (Nat.zero_add _) dX12_best_197 (fun zv197 zh6 zq6 => ?_)
          obtain ⟨rfl, w9, W⟩ := zq6
          refine xr_i2l dX12_best_200 ?_
          refine xr_Vpv1 (s_mTell W (k := 3) rfl (by decide) _) kX12_253 (by decide) (Nat.le_of_ble_eq_true rfl) (Nat.zero_add _) (Nat.zero_add _) dX12_best_201 (fun zh7 zq7 => ?_)
          have W := zq7
          refine xr_il1 dX12_best_204 ?_
          refine xr_iret dX12_best_205 rfl ?_
          have e : (beR σ rk rv) = (b, 4, tl4 rv sd o t (alW 5 0 σ)) := by
            unfold beR beE
            rcases hb with ⟨-, -, z3⟩ | ⟨z1, ⟨q, hq, rfl⟩, -⟩
            · exact absurd z3 zc149
            · rw [z1]
              exact if_neg (fun z => absurd ((nI_eq (a := q) (b := 1048576) (by omega) (by decide)).mp z) (by omega))
          rw [e]
          exact ⟨_, rfl, rfl, ⟨_, _, _, _, W, T, maR4 _ _ _ _, ⟨R, ok, iv⟩, P, Kp, L, H, Sw, rfl⟩⟩
        · skip
          refine xr_bipush (v := (-2)) dX12_best_152 (by decide) ?_
          refine xr_iret dX12_best_154 rfl ?_
          have e : (beR σ rk rv) = (-2, rk, rv) := by
            unfold beR beE
            rcases hb with ⟨z1, -, -⟩ | ⟨-, -, s, hs, z3⟩
            · rw [z1]
              rfl
            · exact absurd (by rw [← z3, zc149]; decide : nI s < 0) (nI_pos (by omega))
          rw [e]
          exact ⟨_, rfl, rfl, ⟨_, _, _, _, W, T, Rw, ⟨R, ok, iv⟩, P, Kp, L, H, Sw, rfl⟩⟩
      · skip
        exact absurd (by decide) zc22
theorem wt_0 (σ : xs) (s : Nat) : wt σ s 0 = 0 := by
  unfold wt
  generalize ln σ s = n
  induction n with
  | zero => rfl
  | succ k ih =>
    show wtN σ s 0 k + ((0 : Int32) >>> (nI k &&& 31) &&& 1) * σ (5 * s + k) = 0
    have e : (0 : Int32) >>> (nI k &&& 31) &&& 1 = 0 := by
      rw [Int32.zero_shiftRight, Int32.zero_and]
    rw [ih, e, Int32.zero_mul, Int32.add_zero]
theorem pa_0 {σ : xs} (iv : hIv σ) (ok : hOk σ) {s : Nat} (hs : s < 2) : pa1 σ s 0 (1048576, 0) = (aAbs (wt σ s (hAll σ (nI s)) - 2 * wt σ s 0), 0) := by
  unfold pa1
  obtain ⟨q, hq, e⟩ := wt_b iv ok hs (hAll σ (nI s))
  have z : wt σ s (nI 0) = 0 := wt_0 σ s
  rw [z, wt_0, e, show (2 : Int32) * 0 = 0 from rfl, Int32.sub_zero]
  have ea : aAbs (nI q) = nI q := if_pos (nI_pos' (by omega))
  rw [ea]
  exact if_pos (nI_lt (b := 1048576) (by omega) (by decide))
set_option maxRecDepth 20000 in
theorem lp_mParts {K : xK} {B : Nat} {l : Launch} {h0 : xH} {Y : Nat} {m : xs} {u : Nat → Nat → Int32} {v : Nat → Int64} {tn : Nat} {tf : xs} {rk : Int32} {rv : Nat → Int64} {σ : xs} {pn : Nat} {τ : Nat → xs} {ks : Nat → Bool} {κ : Nat → xs} {φ : xs → Int32} {hn : Nat} {hf hg : xs} {wn : Nat} {wf wg : xs} (C : maC K B l Y m u v tn tf rk rv σ pn τ ks κ φ hn hf hg wn wf wg) (h5 : m 5 = 0) {rd : Value} {s : Nat} (hs : s < 2) : ∀ (r k : Nat) {b : Int32} {h : xH} (q9 : xMw K h0 h Y m rd (Y + 6) (Y + 7) u v), k + r = aN σ s + 1 → xT K B l 206 RX12 false cX12_parts 5 (some .int) 0 0 0 0 (xPi (fun zr g => zr = (paE σ s rv (paN σ s r k (aAbs (wt σ s (hAll σ (nI s)) - 2 * wt σ s b), b))).1 ∧ xMa K B l h0 g Y 0 tn tf ((paE σ s rv (paN σ s r k (aAbs (wt σ s (hAll σ (nI s)) - 2 * wt σ s b), b))).2.1) ((paE σ s rv (paN σ s r k (aAbs (wt σ s (hAll σ (nI s)) - 2 * wt σ s b), b))).2.2) σ pn τ ks κ φ hn hf hg wn wf wg)) 38 [some (.ref Y), some (.int (nI s)), some (.int (wt σ s (hAll σ (nI s)))), some (.int b), some (.int (nI k))] [] h := by
  obtain ⟨T, Rw, ⟨R, ok, iv⟩, P, Kp, L, H, Sw⟩ := id C
  intro r
  induction r with
  | zero =>
    intro k b h q9 hk
    have W := q9
    have l32 := (hAll_n ok hs).2
    refine xr_il4 dX12_parts_38 ?_
    refine xr_al0 dX12_parts_40 ?_
    refine xr_get W.o fX12_9 rfl dX12_parts_41 ?_
    refine xr_il1 dX12_parts_44 ?_
    refine xr_Si2 (s_mAllOf W.a1 (rr_ok R ok) hs) kX12_187 (by decide) (Nat.le_of_ble_eq_true rfl) (Nat.zero_add _) (Nat.zero_add _) dX12_parts_45 ?_
    refine xr_eqi (y := nI (aN σ s)) ((rr_all R _).trans (hAll_n ok hs).1) ?_
    refine xr_icmpgt (tgt := 100) dX12_parts_48 (by decide) (fun zc48 => ?_) (fun zc48 => ?_)
    · skip
      refine xr_al0 dX12_parts_100 ?_
      refine xr_ic0 dX12_parts_101 ?_
      refine xr_put W.o fX12_86 (Nat.le_of_ble_eq_true rfl) rfl rfl dX12_parts_102 ?_
      refine xT.nm (fun zh1 zg1 => ?_)
      have W := W.f4 zg1
      refine xr_al0 dX12_parts_105 ?_
      refine xr_il3 dX12_parts_106 ?_
      refine xr_i2l dX12_parts_107 ?_
      refine xr_Vpv1 (s_mTell W (k := 0) rfl (by decide) _) kX12_253 (by decide) (Nat.le_of_ble_eq_true rfl) (Nat.zero_add _) (Nat.zero_add _) dX12_parts_108 (fun zh2 zq2 => ?_)
      have W := zq2
      refine xr_al0 dX12_parts_111 ?_
      refine xr_al0 dX12_parts_112 ?_
      refine xr_get W.o fX12_9 rfl dX12_parts_113 ?_
      refine xr_il1 dX12_parts_116 ?_
      refine xr_il3 dX12_parts_117 ?_
      refine xr_Si3 (s_mWeightOf W.a1 (rr_ok R ok) hs _) kX12_191 (by decide) (Nat.le_of_ble_eq_true rfl) (Nat.zero_add _) (Nat.zero_add _) dX12_parts_118 ?_
      refine xr_eqi (y := wt σ s b) (rr_wt R hs _) ?_
      refine xr_i2l dX12_parts_121 ?_
      refine xr_Vpv1 (s_mTell W (k := 1) rfl (by decide) _) kX12_253 (by decide) (Nat.le_of_ble_eq_true rfl) (Nat.zero_add _) (Nat.zero_add _) dX12_parts_122 (fun zh3 zq3 => ?_)
      have W := zq3
      refine xr_il2 dX12_parts_125 ?_
      refine xr_ic2 dX12_parts_126 ?_
      refine xr_al0 dX12_parts_127 ?_
      refine xr_get W.o fX12_9 rfl dX12_parts_128 ?_
      refine xr_il1 dX12_parts_131 ?_
      refine xr_il3 dX12_parts_132 ?_
      refine xr_Si3 (s_mWeightOf W.a1 (rr_ok R ok) hs _) kX12_191 (by decide) (Nat.le_of_ble_eq_true rfl) (Nat.zero_add _) (Nat.zero_add _) dX12_parts_133 ?_
      refine xr_eqi (y := wt σ s b) (rr_wt R hs _) ?_
      refine xr_imul dX12_parts_136 ?_
      refine xr_isub dX12_parts_137 ?_
      refine xr_abs kmX12_330 ms_abs wz_J9 mc_abs (by decide) (Nat.le_of_ble_eq_true rfl) dX12_parts_138 ?_
      refine xr_eqi (y := aAbs (wt σ s (hAll σ (nI s)) - 2 * wt σ s b)) rfl ?_
      refine xr_iret dX12_parts_141 rfl ?_
      exact ⟨_, rfl, rfl, ⟨_, _, _, _, W, T, maR2 _ _, ⟨R, ok, iv⟩, P, Kp, L, H, Sw, h5⟩⟩
    · skip
      exact absurd (nI_lt (by omega) (by omega)) zc48
  | succ r ih =>
    intro k b h q9 hk
    have W := q9
    have l32 := (hAll_n ok hs).2
    refine xr_il4 dX12_parts_38 ?_
    refine xr_al0 dX12_parts_40 ?_
    refine xr_get W.o fX12_9 rfl dX12_parts_41 ?_
    refine xr_il1 dX12_parts_44 ?_
    refine xr_Si2 (s_mAllOf W.a1 (rr_ok R ok) hs) kX12_187 (by decide) (Nat.le_of_ble_eq_true rfl) (Nat.zero_add _) (Nat.zero_add _) dX12_parts_45 ?_
    refine xr_eqi (y := nI (aN σ s)) ((rr_all R _).trans (hAll_n ok hs).1) ?_
    refine xr_icmpgt (tgt := 100) dX12_parts_48 (by decide) (fun zc48 => ?_) (fun zc48 => ?_)
    · skip
      exact absurd zc48 (nI_nlt (by omega) (by omega))
    · skip
      refine xr_il2 dX12_parts_51 ?_
      refine xr_ic2 dX12_parts_52 ?_
      refine xr_al0 dX12_parts_53 ?_
      refine xr_get W.o fX12_9 rfl dX12_parts_54 ?_
      refine xr_il1 dX12_parts_57 ?_
      refine xr_il4 dX12_parts_58 ?_
      refine xr_Si3 (s_mWeightOf W.a1 (rr_ok R ok) hs _) kX12_191 (by decide) (Nat.le_of_ble_eq_true rfl) (Nat.zero_add _) (Nat.zero_add _) dX12_parts_60 ?_
      refine xr_eqi (y := wt σ s (nI k)) (rr_wt R hs _) ?_
      refine xr_imul dX12_parts_63 ?_
      refine xr_isub dX12_parts_64 ?_
      refine xr_abs kmX12_330 ms_abs wz_J9 mc_abs (by decide) (Nat.le_of_ble_eq_true rfl) dX12_parts_65 ?_
      refine xr_eqi (y := aAbs (wt σ s (hAll σ (nI s)) - 2 * wt σ s (nI k))) rfl ?_
      refine xr_il2 dX12_parts_68 ?_
      refine xr_ic2 dX12_parts_69 ?_
      refine xr_al0 dX12_parts_70 ?_
      refine xr_get W.o fX12_9 rfl dX12_parts_71 ?_
      refine xr_il1 dX12_parts_74 ?_
      refine xr_il3 dX12_parts_75 ?_
      refine xr_Si3 (s_mWeightOf W.a1 (rr_ok R ok) hs _) kX12_191 (by decide) (Nat.le_of_ble_eq_true rfl) (Nat.zero_add _) (Nat.zero_add _) dX12_parts_76 ?_
      refine xr_eqi (y := wt σ s b) (rr_wt R hs _) ?_
      refine xr_imul dX12_parts_79 ?_
      refine xr_isub dX12_parts_80 ?_
      refine xr_abs kmX12_330 ms_abs wz_J9 mc_abs (by decide) (Nat.le_of_ble_eq_true rfl) dX12_parts_81 ?_
      refine xr_eqi (y := aAbs (wt σ s (hAll σ (nI s)) - 2 * wt σ s b)) rfl ?_
      refine xr_icmpge (tgt := 92) dX12_parts_84 (by decide) (fun zc84 => ?_) (fun zc84 => ?_)
      · skip
        refine xr_il3 dX12_parts_92 ?_
        refine xr_is3 dX12_parts_93 (by decide) rfl ?_
        refine xr_inc4 dX12_parts_94 (nI_inc k) (by decide) rfl ?_
        refine xr_goto (tgt := 38) dX12_parts_97 (by decide) ?_
        rw [paN_s, show pa1 σ s k (aAbs (wt σ s (hAll σ (nI s)) - 2 * wt σ s b), b) = (aAbs (wt σ s (hAll σ (nI s)) - 2 * wt σ s b), b) from if_neg (Int32.not_lt.mpr zc84)]
        exact ih (k + 1) q9 (by omega)
      · skip
        refine xr_il4 dX12_parts_87 ?_
        refine xr_goto (tgt := 93) dX12_parts_89 (by decide) ?_
        refine xr_is3 dX12_parts_93 (by decide) rfl ?_
        refine xr_inc4 dX12_parts_94 (nI_inc k) (by decide) rfl ?_
        refine xr_goto (tgt := 38) dX12_parts_97 (by decide) ?_
        rw [paN_s, show pa1 σ s k (aAbs (wt σ s (hAll σ (nI s)) - 2 * wt σ s b), b) = (aAbs (wt σ s (hAll σ (nI s)) - 2 * wt σ s (nI k)), nI k) from if_pos (Int32.not_le.mp zc84)]
        exact ih (k + 1) q9 (by omega)
theorem in01 {x : Int32} : mIn x 0 1 = 0 ↔ ¬ (x = 0 ∨ x = 1) := by
  constructor
  · rintro h (rfl | rfl) <;> exact absurd h (by decide)
  · intro h
    refine Decidable.not_not.mp (fun q => ?_)
    obtain ⟨s, hs, rfl⟩ := mIn_01 q
    rcases (show s = 0 ∨ s = 1 by omega) with rfl | rfl
    · exact h (Or.inl rfl)
    · exact h (Or.inr rfl)
set_option maxRecDepth 20000 in
theorem a_parts {K : xK} {B : Nat} {l : Launch} {h0 h : xH} {Y : Nat} {th : Int32} {tn : Nat} {tf : xs} {rk : Int32} {rv : Nat → Int64} {σ : xs} {pn : Nat} {τ : Nat → xs} {ks : Nat → Bool} {κ : Nat → xs} {φ : xs → Int32} {hn : Nat} {hf hg : xs} {wn : Nat} {wf wg : xs} (A : xMa K B l h0 h Y th tn tf rk rv σ pn τ ks κ φ hn hf hg wn wf wg) (x : Int32) : xV K B l 206 mX12_parts 0 0 (Y) [.int x] h (xPi (fun zr g => zr = (paR σ rk rv x).1 ∧ xMa K B l h0 g Y 0 tn tf ((paR σ rk rv x).2.1) ((paR σ rk rv x).2.2) σ pn τ ks κ φ hn hf hg wn wf wg)) := by
  obtain ⟨m, rd, u, v, W, T, Rw, ⟨R, ok, iv⟩, P, Kp, L, H, Sw, hth⟩ := A
  refine ⟨⟨_, _, _, _, W.o, rfl⟩, qX12_parts, ?_⟩
  refine xS.intro RX12 false ⟨rfl, rfl, by decide, by decide, Nat.le_of_ble_eq_true rfl⟩ (ls := [some (.ref Y), some (.int x), none, none, none]) rfl ?_
  refine xr_al0 dX12_parts_0 ?_
  refine xr_ic0 dX12_parts_1 ?_
  refine xr_put W.o fX12_82 (Nat.le_of_ble_eq_true rfl) rfl rfl dX12_parts_2 ?_
  refine xT.nm (fun zh1 zg1 => ?_)
  have W := W.f5 zg1
  refine xr_il1 dX12_parts_5 ?_
  refine xr_ic0 dX12_parts_6 ?_
  refine xr_ic1 dX12_parts_7 ?_
  refine xr_Si3 (s_mIn _ _ _) kX12_89 (by decide) (Nat.le_of_ble_eq_true rfl) (Nat.zero_add _) (Nat.zero_add _) dX12_parts_8 ?_
  refine xr_ifne (tgt := 16) dX12_parts_11 (by decide) (fun zc11 => ?_) (fun zc11 => ?_)
  · skip
    obtain ⟨s, hs, rfl⟩ := mIn_01 zc11
    refine xr_al0 dX12_parts_16 ?_
    refine xr_get W.o fX12_9 rfl dX12_parts_17 ?_
    refine xr_il1 dX12_parts_20 ?_
    refine xr_al0 dX12_parts_21 ?_
    refine xr_get W.o fX12_9 rfl dX12_parts_22 ?_
    refine xr_il1 dX12_parts_25 ?_
    refine xr_Si2 (s_mAllOf W.a1 (rr_ok R ok) hs) kX12_187 (by decide) (Nat.le_of_ble_eq_true rfl) (Nat.zero_add _) (Nat.zero_add _) dX12_parts_26 ?_
    refine xr_eqi (y := hAll σ (nI s)) (rr_all R _) ?_
    refine xr_Si3 (s_mWeightOf W.a1 (rr_ok R ok) hs _) kX12_191 (by decide) (Nat.le_of_ble_eq_true rfl) (Nat.zero_add _) (Nat.zero_add _) dX12_parts_29 ?_
    refine xr_eqi (y := wt σ s (hAll σ (nI s))) (rr_wt R hs _) ?_
    refine xr_is2 dX12_parts_32 (by decide) rfl ?_
    refine xr_ic0 dX12_parts_33 ?_
    refine xr_is3 dX12_parts_34 (by decide) rfl ?_
    refine xr_ic1 dX12_parts_35 ?_
    refine xr_is4 dX12_parts_36 (by decide) rfl ?_
    have e : (paR σ rk rv (nI s)) = paE σ s rv (paN σ s (aN σ s) 1 (aAbs (wt σ s (hAll σ (nI s)) - 2 * wt σ s 0), 0)) := by
      unfold paR
      rw [if_pos (Decidable.not_not.mp (fun q => zc11 (in01.mpr q))), nI_clamp (by omega), paN_s, pa_0 iv ok hs]
    rw [e]
    have C : maC K B l Y (upd m 5 0) u v tn tf rk rv σ pn τ ks κ φ hn hf hg wn wf wg := ⟨T, Rw, ⟨R, ok, iv⟩, P, Kp, L, H, Sw⟩
    exact lp_mParts C rfl hs (aN σ s) 1 W (by omega)
  · skip
    refine xr_icm1 dX12_parts_14 ?_
    refine xr_iret dX12_parts_15 rfl ?_
    have e : (paR σ rk rv x) = _ := if_neg (in01.mp zc11)
    rw [e]
    exact ⟨_, rfl, rfl, ⟨_, _, _, _, W, T, Rw, ⟨R, ok, iv⟩, P, Kp, L, H, Sw, rfl⟩⟩
theorem sh_next (f step : Int32) (k : Nat) : (f + nI k * step) + step = f + nI (k + 1) * step := by
  rw [← nI_1 k, Int32.add_mul, Int32.one_mul, Int32.add_assoc]
theorem shV_in (kind x : Int32) : w19 (shV kind x) := by
  unfold shV
  generalize (if kind = 0 then x.toInt8.toInt32 else if kind = 1 then x.toInt16.toInt32 else x) = y
  unfold iMax iMin
  by_cases c2 : y < 9
  · rw [if_pos c2]
    by_cases c : 1 < y
    · rw [if_pos c]
      obtain ⟨j, hj, rfl⟩ := nI_of (x := y) (fun q => absurd (Int32.lt_trans c q) (by decide))
      have h1 := (nI_ltI (a := 1) (b := j) (by decide) hj).mp c
      have h2 := (nI_ltI (a := j) (b := 9) hj (by decide)).mp c2
      exact ⟨j, by omega, by omega, rfl⟩
    · rw [if_neg c]
      exact ⟨1, by omega, by omega, rfl⟩
  · rw [if_neg c2]
    exact ⟨9, by omega, by omega, rfl⟩
theorem shE_in (kind n f step : Int32) (k : Nat) : w19 (shE kind n f step k) := by
  unfold shE
  split
  · exact shV_in _ _
  · exact ⟨1, by omega, by omega, rfl⟩
theorem uu1 {K : xK} {h0 h : xH} {Y : Nat} {m : Nat → Int32} {rd : Value} {ru ot : Nat} {u : Nat → Nat → Int32} {v : Nat → Int64} {a b : xs} (W : xMw K h0 h Y m rd ru ot (uu (uu u 1 a) 1 b) v) : xMw K h0 h Y m rd ru ot (uu u 1 b) v := by
  rw [uu_uu] at W
  exact W
set_option maxRecDepth 20000 in
theorem lp_mSheet {K : xK} {B : Nat} {l : Launch} {h0 : xH} {Y : Nat} {m : xs} {u : Nat → Nat → Int32} {v : Nat → Int64} {tn : Nat} {tf : xs} {rk : Int32} {rv : Nat → Int64} {σ : xs} {pn : Nat} {τ : Nat → xs} {ks : Nat → Bool} {κ : Nat → xs} {φ : xs → Int32} {hn : Nat} {hf hg : xs} {wn : Nat} {wf wg : xs} (C : maC K B l Y m u v tn tf rk rv σ pn τ ks κ φ hn hf hg wn wf wg) (h5 : m 5 = 0) {rd : Value} {kd n f st : Int32} : ∀ (r k : Nat) {x7 : Option Value} {h : xH} {w γ : xs} (okt : hOk γ) (ivt : hIv γ) (Rt : rr γ w) (W : xMw K h0 h Y m rd (Y + 6) (Y + 7) (uu u 1 w) v), k + r = ln γ 0 → xT K B l 206 RX12 false cX12_sheet 8 (some .int) 0 0 0 0 (xPi (fun zr g => zr = (if kd = 3 then -3 else wt (shN kd n f st r k γ) 0 (hAll (shN kd n f st r k γ) 0)) ∧ xMa K B l h0 g Y 0 tn tf rk rv (shN kd n f st r k γ) pn τ ks κ φ hn hf hg wn wf wg)) 39 [some (.ref Y), some (.int kd), some (.int n), some (.int f), some (.int st), some (.int (f + nI k * st)), some (.int (nI k)), x7] [] h := by
  obtain ⟨T, Rw, ⟨R, ok, iv⟩, P, Kp, L, H, Sw⟩ := id C
  intro r
  induction r with
  | zero =>
    intro k x7 h w γ okt ivt Rt W hk
    have l5 := (okt.1 0 (by decide)).2
    refine xr_il6 dX12_sheet_39 ?_
    refine xr_al0 dX12_sheet_41 ?_
    refine xr_get W.o fX12_9 rfl dX12_sheet_42 ?_
    refine xr_bipush (v := 10) dX12_sheet_45 (by decide) ?_
    refine xr_iald W.a1 (xix_lit (j := 10) (by decide)) dX12_sheet_47 ?_
    refine xr_eqi (y := nI (ln γ 0)) ((Rt.1 10 (by omega) (by omega)).trans (okt.1 0 (by decide)).1) ?_
    refine xr_icmpge (tgt := 122) dX12_sheet_48 (by decide) (fun zc48 => ?_) (fun zc48 => ?_)
    · skip
      refine xr_il1 dX12_sheet_122 ?_
      refine xr_ic3 dX12_sheet_123 ?_
      refine xr_icmpne (tgt := 132) dX12_sheet_124 (by decide) (fun zc124 => ?_) (fun zc124 => ?_)
      · skip
        refine xr_al0 dX12_sheet_132 ?_
        refine xr_get W.o fX12_9 rfl dX12_sheet_133 ?_
        refine xr_ic0 dX12_sheet_136 ?_
        refine xr_al0 dX12_sheet_137 ?_
        refine xr_get W.o fX12_9 rfl dX12_sheet_138 ?_
        refine xr_ic0 dX12_sheet_141 ?_
        refine xr_Si2 (s_mAllOf W.a1 (rr_ok Rt okt) (s := 0) (by decide)) kX12_187 (by decide) (Nat.le_of_ble_eq_true rfl) (Nat.zero_add _) (Nat.zero_add _) dX12_sheet_142 ?_
        refine xr_eqi (y := hAll γ 0) (rr_all Rt _) ?_
        refine xr_Si3 (s_mWeightOf W.a1 (rr_ok Rt okt) (s := 0) (by decide) _) kX12_191 (by decide) (Nat.le_of_ble_eq_true rfl) (Nat.zero_add _) (Nat.zero_add _) dX12_sheet_145 ?_
        refine xr_eqi (y := wt γ 0 (hAll γ 0)) (rr_wt Rt (by decide) _) ?_
        refine xr_iret dX12_sheet_148 rfl ?_
        refine ⟨_, rfl, (if_neg zc124).symm, ?_⟩
        exact ⟨_, _, _, _, W, T, Rw, ⟨Rt, okt, ivt⟩, P, Kp, L, H, Sw, h5⟩
      · skip
        refine xr_bipush (v := (-3)) dX12_sheet_127 (by decide) ?_
        refine xr_goto (tgt := 148) dX12_sheet_129 (by decide) ?_
        refine xr_iret dX12_sheet_148 rfl ?_
        refine ⟨_, rfl, (if_pos zc124).symm, ?_⟩
        exact ⟨_, _, _, _, W, T, Rw, ⟨Rt, okt, ivt⟩, P, Kp, L, H, Sw, h5⟩
    · skip
      exact absurd (nI_le (by omega) (by omega)) zc48
  | succ r ih =>
    intro k x7 h w γ okt ivt Rt W hk
    have l5 := (okt.1 0 (by decide)).2
    refine xr_il6 dX12_sheet_39 ?_
    refine xr_al0 dX12_sheet_41 ?_
    refine xr_get W.o fX12_9 rfl dX12_sheet_42 ?_
    refine xr_bipush (v := 10) dX12_sheet_45 (by decide) ?_
    refine xr_iald W.a1 (xix_lit (j := 10) (by decide)) dX12_sheet_47 ?_
    refine xr_eqi (y := nI (ln γ 0)) ((Rt.1 10 (by omega) (by omega)).trans (okt.1 0 (by decide)).1) ?_
    refine xr_icmpge (tgt := 122) dX12_sheet_48 (by decide) (fun zc48 => ?_) (fun zc48 => ?_)
    · skip
      exact absurd zc48 (nI_ge (by omega) (by omega))
    · skip
      refine xr_il1 dX12_sheet_51 ?_
      refine xr_ifne (tgt := 61) dX12_sheet_52 (by decide) (fun zc52 => ?_) (fun zc52 => ?_)
      · skip
        refine xr_il1 dX12_sheet_61 ?_
        refine xr_ic1 dX12_sheet_62 ?_
        refine xr_icmpne (tgt := 72) dX12_sheet_63 (by decide) (fun zc63 => ?_) (fun zc63 => ?_)
        · skip
          refine xr_il5 dX12_sheet_72 ?_
          refine xr_is7 dX12_sheet_74 (by decide) rfl ?_
          refine xr_al0 dX12_sheet_76 ?_
          refine xr_get W.o fX12_9 rfl dX12_sheet_77 ?_
          refine xr_il6 dX12_sheet_80 ?_
          refine xr_il1 dX12_sheet_82 ?_
          refine xr_ic3 dX12_sheet_83 ?_
          refine xr_icmpeq (tgt := 93) dX12_sheet_84 (by decide) (fun zc84 => ?_) (fun zc84 => ?_)
          · skip
            refine xr_ic1 dX12_sheet_93 ?_
            refine xr_goto (tgt := 108) dX12_sheet_94 (by decide) ?_
            refine xr_iast W.a1 (xix_nI (n := 19) (j := k) (by omega) (by decide)) dX12_sheet_108 ?_
            refine xT.nm (fun zh1 zg1 => ?_)
            have W := W.p1 zg1
            refine xr_il5 dX12_sheet_109 ?_
            refine xr_il4 dX12_sheet_111 ?_
            refine xr_iadd dX12_sheet_113 ?_
            refine xr_is5 dX12_sheet_114 (by decide) rfl ?_
            refine xr_inc6 dX12_sheet_116 (nI_inc k) (by decide) rfl ?_
            refine xr_goto (tgt := 39) dX12_sheet_119 (by decide) ?_
            have e : shE kd n f st k = 1 := if_neg (fun q => q.1 zc84)
            rw [sh_next]
            have hw : hWeigh γ 0 (nI k) (shE kd n f st k) = upd γ k (shE kd n f st k) := (hWeigh_at okt (s := 0) (by decide) (by omega) _).trans (by rw [show 5 * 0 + k = k by omega])
            rw [shN_s, hw]
            have Rn : rr (upd γ k (shE kd n f st k)) (upd w k (shE kd n f st k)) := rr_up0 Rt (by omega) _
            have on : hOk (upd γ k (shE kd n f st k)) := hOk_up0 okt (by omega) _
            have ivn : hIv (upd γ k (shE kd n f st k)) := hIv_up0 ivt (by omega) (shE_in _ _ _ _ _)
            have ln' : ln (upd γ k (shE kd n f st k)) 0 = ln γ 0 := ln_upd _ (by omega)
            rw [e] at *
            exact ih (k + 1) on ivn Rn (uu1 W) (by omega)
          · skip
            refine xr_il6 dX12_sheet_87 ?_
            refine xr_il2 dX12_sheet_89 ?_
            refine xr_icmplt (tgt := 97) dX12_sheet_90 (by decide) (fun zc90 => ?_) (fun zc90 => ?_)
            · skip
              refine xr_ic1 dX12_sheet_97 ?_
              refine xr_bipush (v := 9) dX12_sheet_98 (by decide) ?_
              refine xr_il7 dX12_sheet_100 ?_
              refine xr_min kmX12_195 ms_min wz_J9 mc_min (by decide) (Nat.le_of_ble_eq_true rfl) dX12_sheet_102 ?_
              refine xr_max kmX12_201 ms_max wz_J9 mc_max (by decide) (Nat.le_of_ble_eq_true rfl) dX12_sheet_105 ?_
              refine xr_iast W.a1 (xix_nI (n := 19) (j := k) (by omega) (by decide)) dX12_sheet_108 ?_
              refine xT.nm (fun zh1 zg1 => ?_)
              have W := W.p1 zg1
              refine xr_il5 dX12_sheet_109 ?_
              refine xr_il4 dX12_sheet_111 ?_
              refine xr_iadd dX12_sheet_113 ?_
              refine xr_is5 dX12_sheet_114 (by decide) rfl ?_
              refine xr_inc6 dX12_sheet_116 (nI_inc k) (by decide) rfl ?_
              refine xr_goto (tgt := 39) dX12_sheet_119 (by decide) ?_
              have e : shE kd n f st k = _ := (if_pos ⟨zc84, zc90⟩).trans (show shV kd (f + nI k * st) = _ from congrArg (fun z => iMax 1 (iMin 9 z)) ((if_neg zc52).trans (if_neg zc63)))
              rw [sh_next]
              have hw : hWeigh γ 0 (nI k) (shE kd n f st k) = upd γ k (shE kd n f st k) := (hWeigh_at okt (s := 0) (by decide) (by omega) _).trans (by rw [show 5 * 0 + k = k by omega])
              rw [shN_s, hw]
              have Rn : rr (upd γ k (shE kd n f st k)) (upd w k (shE kd n f st k)) := rr_up0 Rt (by omega) _
              have on : hOk (upd γ k (shE kd n f st k)) := hOk_up0 okt (by omega) _
              have ivn : hIv (upd γ k (shE kd n f st k)) := hIv_up0 ivt (by omega) (shE_in _ _ _ _ _)
              have ln' : ln (upd γ k (shE kd n f st k)) 0 = ln γ 0 := ln_upd _ (by omega)
              rw [e] at *
              exact ih (k + 1) on ivn Rn (uu1 W) (by omega)
            · skip
              refine xr_ic1 dX12_sheet_93 ?_
              refine xr_goto (tgt := 108) dX12_sheet_94 (by decide) ?_
              refine xr_iast W.a1 (xix_nI (n := 19) (j := k) (by omega) (by decide)) dX12_sheet_108 ?_
              refine xT.nm (fun zh1 zg1 => ?_)
              have W := W.p1 zg1
              refine xr_il5 dX12_sheet_109 ?_
              refine xr_il4 dX12_sheet_111 ?_
              refine xr_iadd dX12_sheet_113 ?_
              refine xr_is5 dX12_sheet_114 (by decide) rfl ?_
              refine xr_inc6 dX12_sheet_116 (nI_inc k) (by decide) rfl ?_
              refine xr_goto (tgt := 39) dX12_sheet_119 (by decide) ?_
              have e : shE kd n f st k = 1 := if_neg (fun q => zc90 q.2)
              rw [sh_next]
              have hw : hWeigh γ 0 (nI k) (shE kd n f st k) = upd γ k (shE kd n f st k) := (hWeigh_at okt (s := 0) (by decide) (by omega) _).trans (by rw [show 5 * 0 + k = k by omega])
              rw [shN_s, hw]
              have Rn : rr (upd γ k (shE kd n f st k)) (upd w k (shE kd n f st k)) := rr_up0 Rt (by omega) _
              have on : hOk (upd γ k (shE kd n f st k)) := hOk_up0 okt (by omega) _
              have ivn : hIv (upd γ k (shE kd n f st k)) := hIv_up0 ivt (by omega) (shE_in _ _ _ _ _)
              have ln' : ln (upd γ k (shE kd n f st k)) 0 = ln γ 0 := ln_upd _ (by omega)
              rw [e] at *
              exact ih (k + 1) on ivn Rn (uu1 W) (by omega)
        · skip
          refine xr_il5 dX12_sheet_66 ?_
          refine xr_i2s dX12_sheet_68 ?_
          refine xr_goto (tgt := 74) dX12_sheet_69 (by decide) ?_
          refine xr_is7 dX12_sheet_74 (by decide) rfl ?_
          refine xr_al0 dX12_sheet_76 ?_
          refine xr_get W.o fX12_9 rfl dX12_sheet_77 ?_
          refine xr_il6 dX12_sheet_80 ?_
          refine xr_il1 dX12_sheet_82 ?_
          refine xr_ic3 dX12_sheet_83 ?_
          refine xr_icmpeq (tgt := 93) dX12_sheet_84 (by decide) (fun zc84 => ?_) (fun zc84 => ?_)
          · skip
            refine xr_ic1 dX12_sheet_93 ?_
            refine xr_goto (tgt := 108) dX12_sheet_94 (by decide) ?_
            refine xr_iast W.a1 (xix_nI (n := 19) (j := k) (by omega) (by decide)) dX12_sheet_108 ?_
            refine xT.nm (fun zh1 zg1 => ?_)
            have W := W.p1 zg1
            refine xr_il5 dX12_sheet_109 ?_
            refine xr_il4 dX12_sheet_111 ?_
            refine xr_iadd dX12_sheet_113 ?_
            refine xr_is5 dX12_sheet_114 (by decide) rfl ?_
            refine xr_inc6 dX12_sheet_116 (nI_inc k) (by decide) rfl ?_
            refine xr_goto (tgt := 39) dX12_sheet_119 (by decide) ?_
            have e : shE kd n f st k = 1 := if_neg (fun q => q.1 zc84)
            rw [sh_next]
            have hw : hWeigh γ 0 (nI k) (shE kd n f st k) = upd γ k (shE kd n f st k) := (hWeigh_at okt (s := 0) (by decide) (by omega) _).trans (by rw [show 5 * 0 + k = k by omega])
            rw [shN_s, hw]
            have Rn : rr (upd γ k (shE kd n f st k)) (upd w k (shE kd n f st k)) := rr_up0 Rt (by omega) _
            have on : hOk (upd γ k (shE kd n f st k)) := hOk_up0 okt (by omega) _
            have ivn : hIv (upd γ k (shE kd n f st k)) := hIv_up0 ivt (by omega) (shE_in _ _ _ _ _)
            have ln' : ln (upd γ k (shE kd n f st k)) 0 = ln γ 0 := ln_upd _ (by omega)
            rw [e] at *
            exact ih (k + 1) on ivn Rn (uu1 W) (by omega)
          · skip
            refine xr_il6 dX12_sheet_87 ?_
            refine xr_il2 dX12_sheet_89 ?_
            refine xr_icmplt (tgt := 97) dX12_sheet_90 (by decide) (fun zc90 => ?_) (fun zc90 => ?_)
            · skip
              refine xr_ic1 dX12_sheet_97 ?_
              refine xr_bipush (v := 9) dX12_sheet_98 (by decide) ?_
              refine xr_il7 dX12_sheet_100 ?_
              refine xr_min kmX12_195 ms_min wz_J9 mc_min (by decide) (Nat.le_of_ble_eq_true rfl) dX12_sheet_102 ?_
              refine xr_max kmX12_201 ms_max wz_J9 mc_max (by decide) (Nat.le_of_ble_eq_true rfl) dX12_sheet_105 ?_
              refine xr_iast W.a1 (xix_nI (n := 19) (j := k) (by omega) (by decide)) dX12_sheet_108 ?_
              refine xT.nm (fun zh1 zg1 => ?_)
              have W := W.p1 zg1
              refine xr_il5 dX12_sheet_109 ?_
              refine xr_il4 dX12_sheet_111 ?_
              refine xr_iadd dX12_sheet_113 ?_
              refine xr_is5 dX12_sheet_114 (by decide) rfl ?_
              refine xr_inc6 dX12_sheet_116 (nI_inc k) (by decide) rfl ?_
              refine xr_goto (tgt := 39) dX12_sheet_119 (by decide) ?_
              have e : shE kd n f st k = _ := (if_pos ⟨zc84, zc90⟩).trans (show shV kd (f + nI k * st) = _ from congrArg (fun z => iMax 1 (iMin 9 z)) ((if_neg zc52).trans (if_pos zc63)))
              rw [sh_next]
              have hw : hWeigh γ 0 (nI k) (shE kd n f st k) = upd γ k (shE kd n f st k) := (hWeigh_at okt (s := 0) (by decide) (by omega) _).trans (by rw [show 5 * 0 + k = k by omega])
              rw [shN_s, hw]
              have Rn : rr (upd γ k (shE kd n f st k)) (upd w k (shE kd n f st k)) := rr_up0 Rt (by omega) _
              have on : hOk (upd γ k (shE kd n f st k)) := hOk_up0 okt (by omega) _
              have ivn : hIv (upd γ k (shE kd n f st k)) := hIv_up0 ivt (by omega) (shE_in _ _ _ _ _)
              have ln' : ln (upd γ k (shE kd n f st k)) 0 = ln γ 0 := ln_upd _ (by omega)
              rw [e] at *
              exact ih (k + 1) on ivn Rn (uu1 W) (by omega)
            · skip
              refine xr_ic1 dX12_sheet_93 ?_
              refine xr_goto (tgt := 108) dX12_sheet_94 (by decide) ?_
              refine xr_iast W.a1 (xix_nI (n := 19) (j := k) (by omega) (by decide)) dX12_sheet_108 ?_
              refine xT.nm (fun zh1 zg1 => ?_)
              have W := W.p1 zg1
              refine xr_il5 dX12_sheet_109 ?_
              refine xr_il4 dX12_sheet_111 ?_
              refine xr_iadd dX12_sheet_113 ?_
              refine xr_is5 dX12_sheet_114 (by decide) rfl ?_
              refine xr_inc6 dX12_sheet_116 (nI_inc k) (by decide) rfl ?_
              refine xr_goto (tgt := 39) dX12_sheet_119 (by decide) ?_
              have e : shE kd n f st k = 1 := if_neg (fun q => zc90 q.2)
              rw [sh_next]
              have hw : hWeigh γ 0 (nI k) (shE kd n f st k) = upd γ k (shE kd n f st k) := (hWeigh_at okt (s := 0) (by decide) (by omega) _).trans (by rw [show 5 * 0 + k = k by omega])
              rw [shN_s, hw]
              have Rn : rr (upd γ k (shE kd n f st k)) (upd w k (shE kd n f st k)) := rr_up0 Rt (by omega) _
              have on : hOk (upd γ k (shE kd n f st k)) := hOk_up0 okt (by omega) _
              have ivn : hIv (upd γ k (shE kd n f st k)) := hIv_up0 ivt (by omega) (shE_in _ _ _ _ _)
              have ln' : ln (upd γ k (shE kd n f st k)) 0 = ln γ 0 := ln_upd _ (by omega)
              rw [e] at *
              exact ih (k + 1) on ivn Rn (uu1 W) (by omega)
      · skip
        refine xr_il5 dX12_sheet_55 ?_
        refine xr_i2b dX12_sheet_57 ?_
        refine xr_goto (tgt := 74) dX12_sheet_58 (by decide) ?_
        refine xr_is7 dX12_sheet_74 (by decide) rfl ?_
        refine xr_al0 dX12_sheet_76 ?_
        refine xr_get W.o fX12_9 rfl dX12_sheet_77 ?_
        refine xr_il6 dX12_sheet_80 ?_
        refine xr_il1 dX12_sheet_82 ?_
        refine xr_ic3 dX12_sheet_83 ?_
        refine xr_icmpeq (tgt := 93) dX12_sheet_84 (by decide) (fun zc84 => ?_) (fun zc84 => ?_)
        · skip
          refine xr_ic1 dX12_sheet_93 ?_
          refine xr_goto (tgt := 108) dX12_sheet_94 (by decide) ?_
          refine xr_iast W.a1 (xix_nI (n := 19) (j := k) (by omega) (by decide)) dX12_sheet_108 ?_
          refine xT.nm (fun zh1 zg1 => ?_)
          have W := W.p1 zg1
          refine xr_il5 dX12_sheet_109 ?_
          refine xr_il4 dX12_sheet_111 ?_
          refine xr_iadd dX12_sheet_113 ?_
          refine xr_is5 dX12_sheet_114 (by decide) rfl ?_
          refine xr_inc6 dX12_sheet_116 (nI_inc k) (by decide) rfl ?_
          refine xr_goto (tgt := 39) dX12_sheet_119 (by decide) ?_
          have e : shE kd n f st k = 1 := if_neg (fun q => q.1 zc84)
          rw [sh_next]
          have hw : hWeigh γ 0 (nI k) (shE kd n f st k) = upd γ k (shE kd n f st k) := (hWeigh_at okt (s := 0) (by decide) (by omega) _).trans (by rw [show 5 * 0 + k = k by omega])
          rw [shN_s, hw]
          have Rn : rr (upd γ k (shE kd n f st k)) (upd w k (shE kd n f st k)) := rr_up0 Rt (by omega) _
          have on : hOk (upd γ k (shE kd n f st k)) := hOk_up0 okt (by omega) _
          have ivn : hIv (upd γ k (shE kd n f st k)) := hIv_up0 ivt (by omega) (shE_in _ _ _ _ _)
          have ln' : ln (upd γ k (shE kd n f st k)) 0 = ln γ 0 := ln_upd _ (by omega)
          rw [e] at *
          exact ih (k + 1) on ivn Rn (uu1 W) (by omega)
        · skip
          refine xr_il6 dX12_sheet_87 ?_
          refine xr_il2 dX12_sheet_89 ?_
          refine xr_icmplt (tgt := 97) dX12_sheet_90 (by decide) (fun zc90 => ?_) (fun zc90 => ?_)
          · skip
            refine xr_ic1 dX12_sheet_97 ?_
            refine xr_bipush (v := 9) dX12_sheet_98 (by decide) ?_
            refine xr_il7 dX12_sheet_100 ?_
            refine xr_min kmX12_195 ms_min wz_J9 mc_min (by decide) (Nat.le_of_ble_eq_true rfl) dX12_sheet_102 ?_
            refine xr_max kmX12_201 ms_max wz_J9 mc_max (by decide) (Nat.le_of_ble_eq_true rfl) dX12_sheet_105 ?_
            refine xr_iast W.a1 (xix_nI (n := 19) (j := k) (by omega) (by decide)) dX12_sheet_108 ?_
            refine xT.nm (fun zh1 zg1 => ?_)
            have W := W.p1 zg1
            refine xr_il5 dX12_sheet_109 ?_
            refine xr_il4 dX12_sheet_111 ?_
            refine xr_iadd dX12_sheet_113 ?_
            refine xr_is5 dX12_sheet_114 (by decide) rfl ?_
            refine xr_inc6 dX12_sheet_116 (nI_inc k) (by decide) rfl ?_
            refine xr_goto (tgt := 39) dX12_sheet_119 (by decide) ?_
            have e : shE kd n f st k = _ := (if_pos ⟨zc84, zc90⟩).trans (show shV kd (f + nI k * st) = _ from congrArg (fun z => iMax 1 (iMin 9 z)) (if_pos zc52))
            rw [sh_next]
            have hw : hWeigh γ 0 (nI k) (shE kd n f st k) = upd γ k (shE kd n f st k) := (hWeigh_at okt (s := 0) (by decide) (by omega) _).trans (by rw [show 5 * 0 + k = k by omega])
            rw [shN_s, hw]
            have Rn : rr (upd γ k (shE kd n f st k)) (upd w k (shE kd n f st k)) := rr_up0 Rt (by omega) _
            have on : hOk (upd γ k (shE kd n f st k)) := hOk_up0 okt (by omega) _
            have ivn : hIv (upd γ k (shE kd n f st k)) := hIv_up0 ivt (by omega) (shE_in _ _ _ _ _)
            have ln' : ln (upd γ k (shE kd n f st k)) 0 = ln γ 0 := ln_upd _ (by omega)
            rw [e] at *
            exact ih (k + 1) on ivn Rn (uu1 W) (by omega)
          · skip
            refine xr_ic1 dX12_sheet_93 ?_
            refine xr_goto (tgt := 108) dX12_sheet_94 (by decide) ?_
            refine xr_iast W.a1 (xix_nI (n := 19) (j := k) (by omega) (by decide)) dX12_sheet_108 ?_
            refine xT.nm (fun zh1 zg1 => ?_)
            have W := W.p1 zg1
            refine xr_il5 dX12_sheet_109 ?_
            refine xr_il4 dX12_sheet_111 ?_
            refine xr_iadd dX12_sheet_113 ?_
            refine xr_is5 dX12_sheet_114 (by decide) rfl ?_
            refine xr_inc6 dX12_sheet_116 (nI_inc k) (by decide) rfl ?_
            refine xr_goto (tgt := 39) dX12_sheet_119 (by decide) ?_
            have e : shE kd n f st k = 1 := if_neg (fun q => zc90 q.2)
            rw [sh_next]
            have hw : hWeigh γ 0 (nI k) (shE kd n f st k) = upd γ k (shE kd n f st k) := (hWeigh_at okt (s := 0) (by decide) (by omega) _).trans (by rw [show 5 * 0 + k = k by omega])
            rw [shN_s, hw]
            have Rn : rr (upd γ k (shE kd n f st k)) (upd w k (shE kd n f st k)) := rr_up0 Rt (by omega) _
            have on : hOk (upd γ k (shE kd n f st k)) := hOk_up0 okt (by omega) _
            have ivn : hIv (upd γ k (shE kd n f st k)) := hIv_up0 ivt (by omega) (shE_in _ _ _ _ _)
            have ln' : ln (upd γ k (shE kd n f st k)) 0 = ln γ 0 := ln_upd _ (by omega)
            rw [e] at *
            exact ih (k + 1) on ivn Rn (uu1 W) (by omega)
theorem kd3 {kd : Int32} (h : ¬ mIn kd 0 3 = 0) (c : 3 ≤ kd) : kd = 3 := by
  obtain ⟨j, hj, rfl⟩ := in_at (N := 3) rfl (by decide) h
  have := (nI_leI (a := 3) (b := j) (by decide) (by omega)).mp c
  have e : j = 3 := by omega
  rw [e]
  rfl
set_option maxRecDepth 20000 in
theorem a_sheet {K : xK} {B : Nat} {l : Launch} {h0 h : xH} {Y : Nat} {th : Int32} {tn : Nat} {tf : xs} {rk : Int32} {rv : Nat → Int64} {σ : xs} {pn : Nat} {τ : Nat → xs} {ks : Nat → Bool} {κ : Nat → xs} {φ : xs → Int32} {hn : Nat} {hf hg : xs} {wn : Nat} {wf wg : xs} (A : xMa K B l h0 h Y th tn tf rk rv σ pn τ ks κ φ hn hf hg wn wf wg) (kd n f st : Int32) : xV K B l 206 mX12_sheet 0 0 (Y) [.int kd, .int n, .int f, .int st] h (xPi (fun zr g => zr = (shR σ kd n f st).1 ∧ xMa K B l h0 g Y 0 tn tf rk rv ((shR σ kd n f st).2) pn τ ks κ φ hn hf hg wn wf wg)) := by
  obtain ⟨m, rd, u, v, W, T, Rw, ⟨R, ok, iv⟩, P, Kp, L, H, Sw, hth⟩ := A
  refine ⟨⟨_, _, _, _, W.o, rfl⟩, qX12_sheet, ?_⟩
  refine xS.intro RX12 false ⟨rfl, rfl, by decide, by decide, Nat.le_of_ble_eq_true rfl⟩ (ls := [some (.ref Y), some (.int kd), some (.int n), some (.int f), some (.int st), none, none, none]) rfl ?_
  refine xr_al0 dX12_sheet_0 ?_
  refine xr_ic0 dX12_sheet_1 ?_
  refine xr_put W.o fX12_82 (Nat.le_of_ble_eq_true rfl) rfl rfl dX12_sheet_2 ?_
  refine xT.nm (fun zh1 zg1 => ?_)
  have W := W.f5 zg1
  refine xr_il1 dX12_sheet_5 ?_
  refine xr_ic0 dX12_sheet_6 ?_
  refine xr_ic3 dX12_sheet_7 ?_
  refine xr_Si3 (s_mIn _ _ _) kX12_89 (by decide) (Nat.le_of_ble_eq_true rfl) (Nat.zero_add _) (Nat.zero_add _) dX12_sheet_8 ?_
  refine xr_ifeq (tgt := 19) dX12_sheet_11 (by decide) (fun zc11 => ?_) (fun zc11 => ?_)
  · skip
    refine xr_icm1 dX12_sheet_19 ?_
    refine xr_iret dX12_sheet_20 rfl ?_
    have e : (shR σ kd n f st) = _ := if_pos (by rcases mIn_0.mp zc11 with z | z; exact Or.inl z; exact Or.inr (Or.inl z))
    rw [e]
    exact ⟨_, rfl, rfl, ⟨_, _, _, _, W, T, Rw, ⟨R, ok, iv⟩, P, Kp, L, H, Sw, rfl⟩⟩
  · skip
    refine xr_il2 dX12_sheet_14 ?_
    refine xr_ic5 dX12_sheet_15 ?_
    refine xr_icmple (tgt := 21) dX12_sheet_16 (by decide) (fun zc16 => ?_) (fun zc16 => ?_)
    · skip
      refine xr_il1 dX12_sheet_21 ?_
      refine xr_ic3 dX12_sheet_22 ?_
      refine xr_icmpge (tgt := 33) dX12_sheet_23 (by decide) (fun zc23 => ?_) (fun zc23 => ?_)
      · skip
        refine xr_il3 dX12_sheet_33 ?_
        refine xr_is5 dX12_sheet_34 (by decide) rfl ?_
        refine xr_ic0 dX12_sheet_36 ?_
        refine xr_is6 dX12_sheet_37 (by decide) rfl ?_
        have e : (shR σ kd n f st) = (if kd = 3 then -3 else wt (shN kd n f st (ln σ 0) 0 σ) 0 (hAll (shN kd n f st (ln σ 0) 0 σ) 0), shN kd n f st (ln σ 0) 0 σ) := (if_neg (fun q => by rcases q with z | z | z; exact zc11 (mIn_0.mpr (Or.inl z)); exact zc11 (mIn_0.mpr (Or.inr z)); exact absurd z (Int32.not_lt.mpr zc16))).trans (if_neg (fun q => q.1 (kd3 zc11 zc23)))
        rw [e]
        have C : maC K B l Y (upd m 5 0) u v tn tf rk rv σ pn τ ks κ φ hn hf hg wn wf wg := ⟨T, Rw, ⟨R, ok, iv⟩, P, Kp, L, H, Sw⟩
        have e0 : f = f + nI 0 * st := by
          rw [show nI 0 = 0 from rfl, Int32.zero_mul, Int32.add_zero]
        have z := lp_mSheet C rfl (kd := kd) (n := n) (f := f) (st := st) (ln σ 0) 0 (x7 := none) ok iv R (xMw_id1 W) (by omega)
        rw [← e0] at z
        exact z
      · skip
        refine xr_il2 dX12_sheet_26 ?_
        refine xr_ifge (tgt := 33) dX12_sheet_27 (by decide) (fun zc27 => ?_) (fun zc27 => ?_)
        · skip
          refine xr_il3 dX12_sheet_33 ?_
          refine xr_is5 dX12_sheet_34 (by decide) rfl ?_
          refine xr_ic0 dX12_sheet_36 ?_
          refine xr_is6 dX12_sheet_37 (by decide) rfl ?_
          have e : (shR σ kd n f st) = (if kd = 3 then -3 else wt (shN kd n f st (ln σ 0) 0 σ) 0 (hAll (shN kd n f st (ln σ 0) 0 σ) 0), shN kd n f st (ln σ 0) 0 σ) := (if_neg (fun q => by rcases q with z | z | z; exact zc11 (mIn_0.mpr (Or.inl z)); exact zc11 (mIn_0.mpr (Or.inr z)); exact absurd z (Int32.not_lt.mpr zc16))).trans (if_neg (fun q => absurd q.2 (Int32.not_lt.mpr zc27)))
          rw [e]
          have C : maC K B l Y (upd m 5 0) u v tn tf rk rv σ pn τ ks κ φ hn hf hg wn wf wg := ⟨T, Rw, ⟨R, ok, iv⟩, P, Kp, L, H, Sw⟩
          have e0 : f = f + nI 0 * st := by
            rw [show nI 0 = 0 from rfl, Int32.zero_mul, Int32.add_zero]
          have z := lp_mSheet C rfl (kd := kd) (n := n) (f := f) (st := st) (ln σ 0) 0 (x7 := none) ok iv R (xMw_id1 W) (by omega)
          rw [← e0] at z
          exact z
        · skip
          refine xr_bipush (v := (-2)) dX12_sheet_30 (by decide) ?_
          refine xr_iret dX12_sheet_32 rfl ?_
          have e : (shR σ kd n f st) = _ := (if_neg (fun q => by rcases q with z | z | z; exact zc11 (mIn_0.mpr (Or.inl z)); exact zc11 (mIn_0.mpr (Or.inr z)); exact absurd z (Int32.not_lt.mpr zc16))).trans (if_pos ⟨(fun q => absurd (by rw [q]; decide : (3 : Int32) ≤ kd) zc23), Int32.not_le.mp zc27⟩)
          rw [e]
          exact ⟨_, rfl, rfl, ⟨_, _, _, _, W, T, Rw, ⟨R, ok, iv⟩, P, Kp, L, H, Sw, rfl⟩⟩
    · skip
      refine xr_icm1 dX12_sheet_19 ?_
      refine xr_iret dX12_sheet_20 rfl ?_
      have e : (shR σ kd n f st) = _ := if_pos (Or.inr (Or.inr (Int32.not_le.mp zc16)))
      rw [e]
      exact ⟨_, rfl, rfl, ⟨_, _, _, _, W, T, Rw, ⟨R, ok, iv⟩, P, Kp, L, H, Sw, rfl⟩⟩
