/-! odds (written by wip/whole/car12.py) -/
def pcN (k : Nat) : Nat := (bc (nI k)).toNatClampNeg
theorem bc_n : ∀ k, k < 32 → bc (nI k) = nI (pcN k) ∧ pcN k ≤ 5 := by decide +kernel
def nN (σ : xs) (s : Nat) : Nat := 2 ^ min (sn σ) (ln σ s) - 1
theorem hNext_n {σ : xs} (ok : hOk σ) {s : Nat} (hs : s < 2) : hNext σ (nI s) = nI (nN σ s) ∧ nN σ s < 8 ∧ ∀ k, k ≤ nN σ s → pcN k ≤ pcN (nN σ s) := by
  unfold hNext nN
  rw [hWaits_s hs, (ok.1 s hs).1, ok.2.1]
  have h5 := (ok.1 s hs).2
  have s1 := ok.2.2.1
  have s3 := ok.2.2.2
  generalize ln σ s = n at *
  generalize sn σ = m at *
  rcases (show m = 1 ∨ m = 2 ∨ m = 3 by omega) with rfl | rfl | rfl <;> rcases (show n = 0 ∨ n = 1 ∨ n = 2 ∨ n = 3 ∨ n = 4 ∨ n = 5 by omega) with rfl | rfl | rfl | rfl | rfl | rfl <;> exact ⟨rfl, by decide, by decide +kernel⟩
def od1 (σ : xs) (p v : Int32) (n a b : Nat) (z : Int64) : Int64 := if v < hWater σ (nI a) (nI b) then z else z + pwN p (pcN a + pcN b) 1 * pwN (10 - p) (n - (pcN a + pcN b)) 1
def odI (σ : xs) (p v : Int32) (n a : Nat) : Nat → Nat → Int64 → Int64
  | 0, _, z => z
  | r + 1, k, z => odI σ p v n a r (k + 1) (od1 σ p v n a k z)
theorem odI_s (σ : xs) (p v : Int32) (n a r k : Nat) (z : Int64) : odI σ p v n a (r + 1) k z = odI σ p v n a r (k + 1) (od1 σ p v n a k z) := rfl
def odO (σ : xs) (p v : Int32) (n m : Nat) : Nat → Nat → Int64 → Int64
  | 0, _, z => z
  | r + 1, k, z => odO σ p v n m r (k + 1) (odI σ p v n k m 0 z)
theorem odO_s (σ : xs) (p v : Int32) (n m r k : Nat) (z : Int64) : odO σ p v n m (r + 1) k z = odO σ p v n m r (k + 1) (odI σ p v n k m 0 z) := rfl
def odn (σ : xs) : Nat := pcN (nN σ 0) + pcN (nN σ 1)
def odE (rv : Nat → Int64) (n : Nat) (z : Int64) : AR := (0, 2, tfV rv z (pwN 10 n 1))
def odR (σ : xs) (rk : Int32) (rv : Nat → Int64) (p v : Int32) : AR := if (p < 0 ∨ 10 < p) ∨ v < 0 ∨ 99 < v then (-1, rk, rv) else odE rv (odn σ) (odO σ p v (odn σ) (nN σ 1 + 1) (nN σ 0 + 1) 0 0)
set_option maxRecDepth 20000 in
theorem lp_oddsI {K : xK} {B : Nat} {l : Launch} {h0 h : xH} {X D : Nat} {tn : Nat} {tf : Nat → Int32} {rk : Int32} {rv : Nat → Int64} {σ : xs} {β : xs} {γ : xs} {pn : Nat} {τ : Nat → xs} {ks : Nat → Bool} {κ : Nat → xs} {φ : xs → Int32} {hn : Nat} {hf : Nat → Int32} {hg : Nat → Int32} {wn : Nat} {wf : Nat → Int32} {wg : Nat → Int32} (W : xCw K h0 h X D tn tf rk rv σ β γ pn τ ks κ φ hn hf hg wn wf wg) (p v : Int32) {a : Nat} (ha : a ≤ nN σ 0) {Q : Option Value → xH → Prop} : ∀ (r k : Nat) (z : Int64) (y10 : Option Value), k + r = nN σ 1 + 1 → (∀ y10 : Option Value, xT K B l 3 RX11 false cX11_odds 11 (some .int) 0 0 0 0 (Q) 133 [some (.ref X), some (.int p), some (.int v), some (.int (nI (nN σ 0))), some (.int (nI (nN σ 1))), some (.int (nI (odn σ))), some (.long (odI σ p v (odn σ) a r k z)), none, some (.int (nI a)), some (.int (nI (nN σ 1 + 1))), y10] [] h) → xT K B l 3 RX11 false cX11_odds 11 (some .int) 0 0 0 0 (Q) 68 [some (.ref X), some (.int p), some (.int v), some (.int (nI (nN σ 0))), some (.int (nI (nN σ 1))), some (.int (nI (odn σ))), some (.long z), none, some (.int (nI a)), some (.int (nI k)), y10] [] h := by
  have h0 := (hNext_n W.pok (s := 0) (by decide)).2
  have h1 := (hNext_n W.pok (s := 1) (by decide)).2
  have c0 := h0.2 a ha
  have l0 := h0.1
  have l1 := h1.1
  intro r
  induction r with
  | zero =>
    intro k z y10 hk kx
    refine xr_il9 dX11_odds_68 ?_
    refine xr_il4 dX11_odds_70 ?_
    refine xr_icmpgt (tgt := 133) dX11_odds_72 (by decide) (fun zc72 => ?_) (fun zc72 => ?_)
    · skip
      have hk' : k = nN σ 1 + 1 := hk
      subst hk'
      exact kx _
    · skip
      exact absurd (nI_lt (a := nN σ 1) (by omega) (by omega)) zc72
  | succ r ih =>
    intro k z y10 hk kx
    refine xr_il9 dX11_odds_68 ?_
    refine xr_il4 dX11_odds_70 ?_
    refine xr_icmpgt (tgt := 133) dX11_odds_72 (by decide) (fun zc72 => ?_) (fun zc72 => ?_)
    · skip
      exact absurd zc72 (Int32.not_lt.mpr (nI_le (by omega) (by omega)))
    · skip
      have c1 := h1.2 k (by omega)
      have c2 := (bc_n a (by omega)).2
      have c3 := (bc_n k (by omega)).2
      have c4 : odn σ ≤ 10 := by unfold odn; have := (bc_n (nN σ 0) (by omega)).2; have := (bc_n (nN σ 1) (by omega)).2; omega
      refine xr_al0 dX11_odds_75 ?_
      refine xr_get W.oX fX11_26 rfl dX11_odds_76 ?_
      refine xr_il8 dX11_odds_79 ?_
      refine xr_il9 dX11_odds_81 ?_
      refine xr_Vi2 (s_waterFor W.Hh W.pok _ _) kX11_218 (by decide) (Nat.le_of_ble_eq_true rfl) (Nat.zero_add _) (Nat.zero_add _) dX11_odds_83 ?_
      refine xr_il2 dX11_odds_86 ?_
      refine xr_icmpgt (tgt := 127) dX11_odds_87 (by decide) (fun zc87 => ?_) (fun zc87 => ?_)
      · skip
        refine xr_inc9 dX11_odds_127 (nI_inc k) (by decide) rfl ?_
        refine xr_goto (tgt := 68) dX11_odds_130 (by decide) ?_
        have e : od1 σ p v (odn σ) a k z = _ := if_pos zc87
        rw [odI_s, e] at kx
        exact ih (k + 1) _ _ (by omega) kx
      · skip
        refine xr_il8 dX11_odds_90 ?_
        refine xr_Si1 (s_bitCount _) kX11_240 (by decide) (Nat.le_of_ble_eq_true rfl) (Nat.zero_add _) (Nat.zero_add _) dX11_odds_92 ?_
        refine xr_eqi (y := nI (pcN a)) (bc_n a (by omega)).1 ?_
        refine xr_il9 dX11_odds_95 ?_
        refine xr_Si1 (s_bitCount _) kX11_240 (by decide) (Nat.le_of_ble_eq_true rfl) (Nat.zero_add _) (Nat.zero_add _) dX11_odds_97 ?_
        refine xr_eqi (y := nI (pcN k)) (bc_n k (by omega)).1 ?_
        refine xr_iadd dX11_odds_100 ?_
        refine xr_eqi (y := nI (pcN a + pcN k)) (nI_add _ _) ?_
        refine xr_is10 dX11_odds_101 (by decide) rfl ?_
        refine xr_ll6 dX11_odds_103 ?_
        refine xr_il1 dX11_odds_105 ?_
        refine xr_il10 dX11_odds_106 ?_
        refine xr_Sl2 (s_power _ (by omega)) kX11_363 (by decide) (Nat.le_of_ble_eq_true rfl) (Nat.zero_add _) (Nat.zero_add _) dX11_odds_108 ?_
        refine xr_bipush (v := 10) dX11_odds_111 (by decide) ?_
        refine xr_il1 dX11_odds_113 ?_
        refine xr_isub dX11_odds_114 ?_
        refine xr_il5 dX11_odds_115 ?_
        refine xr_il10 dX11_odds_117 ?_
        refine xr_isub dX11_odds_119 ?_
        refine xr_eqi (y := nI (odn σ - (pcN a + pcN k))) (nI_sub (by unfold odn; omega)) ?_
        refine xr_Sl2 (s_power _ (by omega)) kX11_363 (by decide) (Nat.le_of_ble_eq_true rfl) (Nat.zero_add _) (Nat.zero_add _) dX11_odds_120 ?_
        refine xr_lmul dX11_odds_123 ?_
        refine xr_ladd dX11_odds_124 ?_
        refine xr_ls6 dX11_odds_125 (by decide) rfl ?_
        refine xr_inc9 dX11_odds_127 (nI_inc k) (by decide) rfl ?_
        refine xr_goto (tgt := 68) dX11_odds_130 (by decide) ?_
        have e : od1 σ p v (odn σ) a k z = _ := if_neg zc87
        rw [odI_s, e] at kx
        exact ih (k + 1) _ _ (by omega) kx
set_option maxRecDepth 20000 in
theorem lp_oddsO {K : xK} {B : Nat} {l : Launch} {h0 h : xH} {X D : Nat} {tn : Nat} {tf : Nat → Int32} {rk : Int32} {rv : Nat → Int64} {σ : xs} {β : xs} {γ : xs} {pn : Nat} {τ : Nat → xs} {ks : Nat → Bool} {κ : Nat → xs} {φ : xs → Int32} {hn : Nat} {hf : Nat → Int32} {hg : Nat → Int32} {wn : Nat} {wf : Nat → Int32} {wg : Nat → Int32} (W : xCw K h0 h X D tn tf rk rv σ β γ pn τ ks κ φ hn hf hg wn wf wg) (p v : Int32) : ∀ (r k : Nat) (z : Int64) (y9 y10 : Option Value), k + r = nN σ 0 + 1 → xT K B l 3 RX11 false cX11_odds 11 (some .int) 0 0 0 0 (xPi (fun zr g => zr = (odE rv (odn σ) (odO σ p v (odn σ) (nN σ 1 + 1) r k z)).1 ∧ xCw K h0 g X D tn tf ((odE rv (odn σ) (odO σ p v (odn σ) (nN σ 1 + 1) r k z)).2.1) ((odE rv (odn σ) (odO σ p v (odn σ) (nN σ 1 + 1) r k z)).2.2) σ β γ pn τ ks κ φ hn hf hg wn wf wg)) 59 [some (.ref X), some (.int p), some (.int v), some (.int (nI (nN σ 0))), some (.int (nI (nN σ 1))), some (.int (nI (odn σ))), some (.long z), none, some (.int (nI k)), y9, y10] [] h := by
  have l0 := (hNext_n W.pok (s := 0) (by decide)).2.1
  have l1 := (hNext_n W.pok (s := 1) (by decide)).2.1
  have c4 : odn σ ≤ 10 := by unfold odn; have := (bc_n (nN σ 0) (by omega)).2; have := (bc_n (nN σ 1) (by omega)).2; omega
  intro r
  induction r with
  | zero =>
    intro k z y9 y10 hk
    refine xr_il8 dX11_odds_59 ?_
    refine xr_il3 dX11_odds_61 ?_
    refine xr_icmpgt (tgt := 139) dX11_odds_62 (by decide) (fun zc62 => ?_) (fun zc62 => ?_)
    · skip
      refine xr_al0 dX11_odds_139 ?_
      refine xr_ll6 dX11_odds_140 ?_
      refine xr_bipush (v := 10) dX11_odds_142 (by decide) ?_
      refine xr_il5 dX11_odds_144 ?_
      refine xr_Sl2 (s_power _ (N := odn σ) (by omega)) kX11_363 (by decide) (Nat.le_of_ble_eq_true rfl) (Nat.zero_add _) (Nat.zero_add _) dX11_odds_146 ?_
      refine xr_Vpv2 (s_tellFraction W _ _) kX11_367 (by decide) (Nat.le_of_ble_eq_true rfl) (Nat.zero_add _) (Nat.zero_add _) dX11_odds_149 (fun zh1 zq1 => ?_)
      have W := zq1
      refine xr_ic0 dX11_odds_152 ?_
      refine xr_iret dX11_odds_153 rfl ?_
      exact ⟨_, rfl, rfl, W⟩
    · skip
      exact absurd (nI_lt (a := nN σ 0) (by omega) (by omega)) zc62
  | succ r ih =>
    intro k z y9 y10 hk
    refine xr_il8 dX11_odds_59 ?_
    refine xr_il3 dX11_odds_61 ?_
    refine xr_icmpgt (tgt := 139) dX11_odds_62 (by decide) (fun zc62 => ?_) (fun zc62 => ?_)
    · skip
      exact absurd zc62 (Int32.not_lt.mpr (nI_le (by omega) (by omega)))
    · skip
      refine xr_ic0 dX11_odds_65 ?_
      refine xr_is9 dX11_odds_66 (by decide) rfl ?_
      refine lp_oddsI W p v (by omega) (nN σ 1 + 1) 0 z y10 (by omega) (fun y10 => ?_)
      rw [odO_s]
      refine xr_inc8 dX11_odds_133 (nI_inc k) (by decide) rfl ?_
      refine xr_goto (tgt := 59) dX11_odds_136 (by decide) ?_
      exact ih (k + 1) _ _ _ (by omega)
set_option maxRecDepth 20000 in
theorem s_odds {K : xK} {B : Nat} {l : Launch} {h0 h : xH} {X D : Nat} {tn : Nat} {tf : Nat → Int32} {rk : Int32} {rv : Nat → Int64} {σ : xs} {β : xs} {γ : xs} {pn : Nat} {τ : Nat → xs} {ks : Nat → Bool} {κ : Nat → xs} {φ : xs → Int32} {hn : Nat} {hf : Nat → Int32} {hg : Nat → Int32} {wn : Nat} {wf : Nat → Int32} {wg : Nat → Int32} (W : xCw K h0 h X D tn tf rk rv σ β γ pn τ ks κ φ hn hf hg wn wf wg) (x y : Int32) : xV K B l 3 mX11_odds 0 0 (X) [.int x, .int y] h (xPi (fun zr g => zr = (odR σ rk rv x y).1 ∧ xCw K h0 g X D tn tf ((odR σ rk rv x y).2.1) ((odR σ rk rv x y).2.2) σ β γ pn τ ks κ φ hn hf hg wn wf wg)) := by
  refine ⟨⟨_, _, _, _, W.oX, rfl⟩, qX11_odds, ?_⟩
  refine xS.intro RX11 false ⟨rfl, rfl, by decide, by decide, Nat.le_of_ble_eq_true rfl⟩ (ls := [some (.ref X), some (.int x), some (.int y), none, none, none, none, none, none, none, none]) rfl ?_
  refine xr_il1 dX11_odds_0 ?_
  refine xr_iflt (tgt := 20) dX11_odds_1 (by decide) (fun zc1 => ?_) (fun zc1 => ?_)
  · skip
    refine xr_icm1 dX11_odds_20 ?_
    refine xr_iret dX11_odds_21 rfl ?_
    have e : (odR σ rk rv x y) = _ := if_pos (Or.inl (Or.inl zc1))
    rw [e]
    exact ⟨_, rfl, rfl, W⟩
  · skip
    refine xr_il1 dX11_odds_4 ?_
    refine xr_bipush (v := 10) dX11_odds_5 (by decide) ?_
    refine xr_icmpgt (tgt := 20) dX11_odds_7 (by decide) (fun zc7 => ?_) (fun zc7 => ?_)
    · skip
      refine xr_icm1 dX11_odds_20 ?_
      refine xr_iret dX11_odds_21 rfl ?_
      have e : (odR σ rk rv x y) = _ := if_pos (Or.inl (Or.inr zc7))
      rw [e]
      exact ⟨_, rfl, rfl, W⟩
    · skip
      refine xr_il2 dX11_odds_10 ?_
      refine xr_iflt (tgt := 20) dX11_odds_11 (by decide) (fun zc11 => ?_) (fun zc11 => ?_)
      · skip
        refine xr_icm1 dX11_odds_20 ?_
        refine xr_iret dX11_odds_21 rfl ?_
        have e : (odR σ rk rv x y) = _ := if_pos (Or.inr (Or.inl zc11))
        rw [e]
        exact ⟨_, rfl, rfl, W⟩
      · skip
        refine xr_il2 dX11_odds_14 ?_
        refine xr_bipush (v := 99) dX11_odds_15 (by decide) ?_
        refine xr_icmple (tgt := 22) dX11_odds_17 (by decide) (fun zc17 => ?_) (fun zc17 => ?_)
        · skip
          have l0 := (hNext_n W.pok (s := 0) (by decide)).2.1
          have l1 := (hNext_n W.pok (s := 1) (by decide)).2.1
          refine xr_al0 dX11_odds_22 ?_
          refine xr_get W.oX fX11_26 rfl dX11_odds_23 ?_
          refine xr_ic0 dX11_odds_26 ?_
          refine xr_Vi1 (s_nextOf W.Hh _) kX11_215 (by decide) (Nat.le_of_ble_eq_true rfl) (Nat.zero_add _) (Nat.zero_add _) dX11_odds_27 ?_
          refine xr_eqi (y := nI (nN σ 0)) (hNext_n W.pok (s := 0) (by decide)).1 ?_
          refine xr_is3 dX11_odds_30 (by decide) rfl ?_
          refine xr_al0 dX11_odds_31 ?_
          refine xr_get W.oX fX11_26 rfl dX11_odds_32 ?_
          refine xr_ic1 dX11_odds_35 ?_
          refine xr_Vi1 (s_nextOf W.Hh _) kX11_215 (by decide) (Nat.le_of_ble_eq_true rfl) (Nat.zero_add _) (Nat.zero_add _) dX11_odds_36 ?_
          refine xr_eqi (y := nI (nN σ 1)) (hNext_n W.pok (s := 1) (by decide)).1 ?_
          refine xr_is4 dX11_odds_39 (by decide) rfl ?_
          refine xr_il3 dX11_odds_41 ?_
          refine xr_Si1 (s_bitCount _) kX11_240 (by decide) (Nat.le_of_ble_eq_true rfl) (Nat.zero_add _) (Nat.zero_add _) dX11_odds_42 ?_
          refine xr_eqi (y := nI (pcN (nN σ 0))) (bc_n _ (by omega)).1 ?_
          refine xr_il4 dX11_odds_45 ?_
          refine xr_Si1 (s_bitCount _) kX11_240 (by decide) (Nat.le_of_ble_eq_true rfl) (Nat.zero_add _) (Nat.zero_add _) dX11_odds_47 ?_
          refine xr_eqi (y := nI (pcN (nN σ 1))) (bc_n _ (by omega)).1 ?_
          refine xr_iadd dX11_odds_50 ?_
          refine xr_eqi (y := nI (odn σ)) (nI_add _ _) ?_
          refine xr_is5 dX11_odds_51 (by decide) rfl ?_
          refine xr_lc0 dX11_odds_53 ?_
          refine xr_ls6 dX11_odds_54 (by decide) rfl ?_
          refine xr_ic0 dX11_odds_56 ?_
          refine xr_is8 dX11_odds_57 (by decide) rfl ?_
          have e : (odR σ rk rv x y) = _ := if_neg (fun q => q.elim (fun q => q.elim zc1 zc7) (fun q => q.elim zc11 (Int32.not_lt.mpr zc17)))
          rw [e]
          exact lp_oddsO W x y (nN σ 0 + 1) 0 0 none none (by omega)
        · skip
          refine xr_icm1 dX11_odds_20 ?_
          refine xr_iret dX11_odds_21 rfl ?_
          have e : (odR σ rk rv x y) = _ := if_pos (Or.inr (Or.inr (Int32.not_le.mp zc17)))
          rw [e]
          exact ⟨_, rfl, rfl, W⟩
