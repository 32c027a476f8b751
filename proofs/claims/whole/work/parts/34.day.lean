/-! day (written by wip/whole/car13.py) -/
def dgb (c : Int32) : Int32 := if c = 42 then 0 else if c = 103 then 1 else if c = 108 then 2 else if c = 110 then 1 else if c = 111 then 2 else if c = 115 then 1 else if c = 120 then 2 else -1
set_option maxRecDepth 20000 in
theorem s_digitsBehind {K : xK} {B : Nat} {l : Launch} {h : xH} (c : Int32) : xU K B l 0 mX11_digitsBehind 0 0 [.int c] h (xQi (dgb c) h) := by
  refine ⟨qX11_digitsBehind, ?_⟩
  refine xS.intro RX11 false ⟨rfl, rfl, by decide, by decide, Nat.le_of_ble_eq_true rfl⟩ (ls := [some (.int c)]) rfl ?_
  refine xr_il0 dX11_digitsBehind_0 ?_
  by_cases e42 : c = 42
  · skip
    subst e42
    refine xr_lookup (tgt := 68) dX11_digitsBehind_1 (by decide) rfl (by decide) ?_
    refine xr_ic0 dX11_digitsBehind_68 ?_
    refine xr_iret dX11_digitsBehind_69 rfl ?_
    exact ⟨rfl, rfl⟩
  by_cases e103 : c = 103
  · skip
    subst e103
    refine xr_lookup (tgt := 70) dX11_digitsBehind_1 (by decide) rfl (by decide) ?_
    refine xr_ic1 dX11_digitsBehind_70 ?_
    refine xr_iret dX11_digitsBehind_71 rfl ?_
    exact ⟨rfl, rfl⟩
  by_cases e108 : c = 108
  · skip
    subst e108
    refine xr_lookup (tgt := 72) dX11_digitsBehind_1 (by decide) rfl (by decide) ?_
    refine xr_ic2 dX11_digitsBehind_72 ?_
    refine xr_iret dX11_digitsBehind_73 rfl ?_
    exact ⟨rfl, rfl⟩
  by_cases e110 : c = 110
  · skip
    subst e110
    refine xr_lookup (tgt := 70) dX11_digitsBehind_1 (by decide) rfl (by decide) ?_
    refine xr_ic1 dX11_digitsBehind_70 ?_
    refine xr_iret dX11_digitsBehind_71 rfl ?_
    exact ⟨rfl, rfl⟩
  by_cases e111 : c = 111
  · skip
    subst e111
    refine xr_lookup (tgt := 72) dX11_digitsBehind_1 (by decide) rfl (by decide) ?_
    refine xr_ic2 dX11_digitsBehind_72 ?_
    refine xr_iret dX11_digitsBehind_73 rfl ?_
    exact ⟨rfl, rfl⟩
  by_cases e115 : c = 115
  · skip
    subst e115
    refine xr_lookup (tgt := 70) dX11_digitsBehind_1 (by decide) rfl (by decide) ?_
    refine xr_ic1 dX11_digitsBehind_70 ?_
    refine xr_iret dX11_digitsBehind_71 rfl ?_
    exact ⟨rfl, rfl⟩
  by_cases e120 : c = 120
  · skip
    subst e120
    refine xr_lookup (tgt := 72) dX11_digitsBehind_1 (by decide) rfl (by decide) ?_
    refine xr_ic2 dX11_digitsBehind_72 ?_
    refine xr_iret dX11_digitsBehind_73 rfl ?_
    exact ⟨rfl, rfl⟩
  refine xr_lookup (off := 73) (tgt := 74) dX11_digitsBehind_1 (by decide) ((lv_osw e42 rfl).trans ((lv_osw e103 rfl).trans ((lv_osw e108 rfl).trans ((lv_osw e110 rfl).trans ((lv_osw e111 rfl).trans ((lv_osw e115 rfl).trans ((lv_osw e120 rfl).trans rfl))))))) (by decide) ?_
  refine xr_icm1 dX11_digitsBehind_74 ?_
  refine xr_iret dX11_digitsBehind_75 rfl ?_
  exact ⟨by unfold dgb; rw [if_neg e42, if_neg e103, if_neg e108, if_neg e110, if_neg e111, if_neg e115, if_neg e120], rfl⟩
def msb (c x : Int32) : Int32 := if c = 115 then bI (¬ x < 49 ∧ ¬ 51 < x) else bI (¬ x < 48 ∧ ¬ 57 < x)
def dn (c : Int32) : Nat := (dgb c).toNatClampNeg
theorem dgb_n {c : Int32} (h : ¬ dgb c = -1) : dgb c = nI (dn c) ∧ dn c ≤ 2 := by
  unfold dn dgb at *
  repeat' split at h
  all_goals first | exact absurd rfl h | skip
  all_goals (simp only [*, if_true, if_false]; decide)
set_option maxRecDepth 20000 in
theorem s_mayStand {K : xK} {B : Nat} {l : Launch} {h : xH} (c x : Int32) : xU K B l 1 mX11_mayStandBehind 0 0 [.int c, .int x] h (xQi (msb c x) h) := by
  refine ⟨qX11_mayStandBehind, ?_⟩
  refine xS.intro RX11 false ⟨rfl, rfl, by decide, by decide, Nat.le_of_ble_eq_true rfl⟩ (ls := [some (.int c), some (.int x)]) rfl ?_
  refine xr_il0 dX11_mayStandBehind_0 ?_
  refine xr_bipush (v := 115) dX11_mayStandBehind_1 (by decide) ?_
  refine xr_icmpne (tgt := 24) dX11_mayStandBehind_3 (by decide) (fun zc3 => ?_) (fun zc3 => ?_)
  · skip
    refine xr_il1 dX11_mayStandBehind_24 ?_
    refine xr_Si1 (s_isDigit _) kX11_277 (by decide) (Nat.le_of_ble_eq_true rfl) (Nat.zero_add _) (Nat.zero_add _) dX11_mayStandBehind_25 ?_
    refine xr_zret dX11_mayStandBehind_28 rfl (by first | rfl | exact bI_n _) ?_
    exact ⟨by unfold msb; rw [if_neg zc3], rfl⟩
  · skip
    refine xr_il1 dX11_mayStandBehind_6 ?_
    refine xr_bipush (v := 49) dX11_mayStandBehind_7 (by decide) ?_
    refine xr_icmplt (tgt := 22) dX11_mayStandBehind_9 (by decide) (fun zc9 => ?_) (fun zc9 => ?_)
    · skip
      refine xr_ic0 dX11_mayStandBehind_22 ?_
      refine xr_zret dX11_mayStandBehind_23 rfl (by first | rfl | exact bI_n _) ?_
      exact ⟨by unfold msb; rw [if_pos zc3, bI_f (fun q => q.1 zc9)], rfl⟩
    · skip
      refine xr_il1 dX11_mayStandBehind_12 ?_
      refine xr_bipush (v := 51) dX11_mayStandBehind_13 (by decide) ?_
      refine xr_icmpgt (tgt := 22) dX11_mayStandBehind_15 (by decide) (fun zc15 => ?_) (fun zc15 => ?_)
      · skip
        refine xr_ic0 dX11_mayStandBehind_22 ?_
        refine xr_zret dX11_mayStandBehind_23 rfl (by first | rfl | exact bI_n _) ?_
        exact ⟨by unfold msb; rw [if_pos zc3, bI_f (fun q => q.2 zc15)], rfl⟩
      · skip
        refine xr_ic1 dX11_mayStandBehind_18 ?_
        refine xr_goto (tgt := 23) dX11_mayStandBehind_19 (by decide) ?_
        refine xr_zret dX11_mayStandBehind_23 rfl (by first | rfl | exact bI_n _) ?_
        exact ⟨by unfold msb; rw [if_pos zc3, bI_t ⟨zc9, zc15⟩], rfl⟩
def fdI (tf : Nat → Int32) (tn lim p : Nat) (c : Int32) : Nat → Nat → Option Nat
  | 0, _ => none
  | r + 1, d => if lim ≤ p + d ∨ msb c (slAt tf (nI tn) (nI (p + d))) = 0 then some (p + d) else fdI tf tn lim p c r (d + 1)
theorem fdI_s (tf : Nat → Int32) (tn lim p : Nat) (c : Int32) (r d : Nat) : fdI tf tn lim p c (r + 1) d = if lim ≤ p + d ∨ msb c (slAt tf (nI tn) (nI (p + d))) = 0 then some (p + d) else fdI tf tn lim p c r (d + 1) := rfl
def fdE (tn : Nat) : Int32 := if 60 < tn then 60 else -1
def fdO (tf : Nat → Int32) (tn : Nat) : Nat → Nat → Int32
  | 0, _ => fdE tn
  | r + 1, p => if min tn 60 ≤ p then fdE tn else if dgb (slAt tf (nI tn) (nI p)) = -1 then nI p else match fdI tf tn (min tn 60) p (slAt tf (nI tn) (nI p)) (dn (slAt tf (nI tn) (nI p))) 1 with
    | some v => nI v
    | none => fdO tf tn r (p + (1 + dn (slAt tf (nI tn) (nI p))))
theorem fdO_s (tf : Nat → Int32) (tn r p : Nat) : fdO tf tn (r + 1) p = if min tn 60 ≤ p then fdE tn else if dgb (slAt tf (nI tn) (nI p)) = -1 then nI p else match fdI tf tn (min tn 60) p (slAt tf (nI tn) (nI p)) (dn (slAt tf (nI tn) (nI p))) 1 with
    | some v => nI v
    | none => fdO tf tn r (p + (1 + dn (slAt tf (nI tn) (nI p)))) := rfl
set_option maxRecDepth 20000 in
theorem lp_dayI {K : xK} {B : Nat} {l : Launch} {h0 h : xH} {X D : Nat} {tn : Nat} {tf : Nat → Int32} {rk : Int32} {rv : Nat → Int64} {σ : xs} {β : xs} {γ : xs} {pn : Nat} {τ : Nat → xs} {ks : Nat → Bool} {κ : Nat → xs} {φ : xs → Int32} {hn : Nat} {hf : Nat → Int32} {hg : Nat → Int32} {wn : Nat} {wf : Nat → Int32} {wg : Nat → Int32} (W : xCw K h0 h X D tn tf rk rv σ β γ pn τ ks κ φ hn hf hg wn wf wg) {lim p i n : Nat} {c : Int32} (hl : lim ≤ 60) (hp : p ≤ 240) (hn3 : n ≤ 2) {Q : Option Value → xH → Prop} : ∀ (r d : Nat), d + r = n + 1 → (∀ v, fdI tf tn lim p c r d = some v → Q (some (.int (nI v))) h) → (fdI tf tn lim p c r d = none → xT K B l 2 RX11 false cX11_firstBadOfDay 7 (some .int) 0 0 0 0 (Q) 101 [some (.ref X), some (.int (nI lim)), some (.int (nI p)), some (.int (nI i)), some (.int c), some (.int (nI n)), some (.int (nI (n + 1)))] [] h) → xT K B l 2 RX11 false cX11_firstBadOfDay 7 (some .int) 0 0 0 0 (Q) 56 [some (.ref X), some (.int (nI lim)), some (.int (nI p)), some (.int (nI i)), some (.int c), some (.int (nI n)), some (.int (nI d))] [] h := by
  intro r
  induction r with
  | zero =>
    intro d hk kx kn
    refine xr_il6 dX11_firstBadOfDay_56 ?_
    refine xr_il5 dX11_firstBadOfDay_58 ?_
    refine xr_icmpgt (tgt := 101) dX11_firstBadOfDay_60 (by decide) (fun zc60 => ?_) (fun zc60 => ?_)
    · skip
      have hk' : d = n + 1 := hk
      subst hk'
      exact kn rfl
    · skip
      exact absurd (nI_lt (a := n) (by omega) (by omega)) zc60
  | succ r ih =>
    intro d hk kx kn
    refine xr_il6 dX11_firstBadOfDay_56 ?_
    refine xr_il5 dX11_firstBadOfDay_58 ?_
    refine xr_icmpgt (tgt := 101) dX11_firstBadOfDay_60 (by decide) (fun zc60 => ?_) (fun zc60 => ?_)
    · skip
      exact absurd zc60 (Int32.not_lt.mpr (nI_le (by omega) (by omega)))
    · skip
      refine xr_il2 dX11_firstBadOfDay_63 ?_
      refine xr_il6 dX11_firstBadOfDay_64 ?_
      refine xr_iadd dX11_firstBadOfDay_66 ?_
      refine xr_eqi (y := nI (p + d)) (nI_add p d) ?_
      refine xr_il1 dX11_firstBadOfDay_67 ?_
      refine xr_icmpge (tgt := 90) dX11_firstBadOfDay_68 (by decide) (fun zc68 => ?_) (fun zc68 => ?_)
      · skip
        refine xr_il2 dX11_firstBadOfDay_90 ?_
        refine xr_il6 dX11_firstBadOfDay_91 ?_
        refine xr_iadd dX11_firstBadOfDay_93 ?_
        refine xr_eqi (y := nI (p + d)) (nI_add p d) ?_
        refine xr_iret dX11_firstBadOfDay_94 rfl ?_
        exact kx (p + d) (by rw [fdI_s, if_pos (Or.inl ((nI_leI (by omega) (by omega)).mp zc68))])
      · skip
        refine xr_il4 dX11_firstBadOfDay_71 ?_
        refine xr_al0 dX11_firstBadOfDay_73 ?_
        refine xr_get W.oX fX11_12 rfl dX11_firstBadOfDay_74 ?_
        refine xr_il2 dX11_firstBadOfDay_77 ?_
        refine xr_il6 dX11_firstBadOfDay_78 ?_
        refine xr_iadd dX11_firstBadOfDay_80 ?_
        refine xr_eqi (y := nI (p + d)) (nI_add p d) ?_
        refine xr_Vi1 (s_slAt W.Ht _) kX11_135 (by decide) (Nat.le_of_ble_eq_true rfl) (Nat.zero_add _) (Nat.zero_add _) dX11_firstBadOfDay_81 ?_
        refine xr_Si2 (s_mayStand _ _) kX11_274 (by decide) (Nat.le_of_ble_eq_true rfl) (Nat.zero_add _) (Nat.zero_add _) dX11_firstBadOfDay_84 ?_
        refine xr_ifne (tgt := 95) dX11_firstBadOfDay_87 (by decide) (fun zc87 => ?_) (fun zc87 => ?_)
        · skip
          refine xr_inc6 dX11_firstBadOfDay_95 (nI_inc d) (by decide) rfl ?_
          refine xr_goto (tgt := 56) dX11_firstBadOfDay_98 (by decide) ?_
          have e : fdI tf tn lim p c (r + 1) d = fdI tf tn lim p c r (d + 1) := by rw [fdI_s, if_neg (fun q => q.elim (fun q => zc68 (nI_le q (by omega))) zc87)]
          rw [e] at kx kn
          exact ih (d + 1) (by omega) kx kn
        · skip
          refine xr_il2 dX11_firstBadOfDay_90 ?_
          refine xr_il6 dX11_firstBadOfDay_91 ?_
          refine xr_iadd dX11_firstBadOfDay_93 ?_
          refine xr_eqi (y := nI (p + d)) (nI_add p d) ?_
          refine xr_iret dX11_firstBadOfDay_94 rfl ?_
          exact kx (p + d) (by rw [fdI_s, if_pos (Or.inr zc87)])
set_option maxRecDepth 20000 in
theorem lp_firstBadDay {K : xK} {B : Nat} {l : Launch} {h0 : xH} {X D : Nat} {tn : Nat} {tf : Nat → Int32} {rk : Int32} {rv : Nat → Int64} {σ : xs} {β : xs} {γ : xs} {pn : Nat} {τ : Nat → xs} {ks : Nat → Bool} {κ : Nat → xs} {φ : xs → Int32} {hn : Nat} {hf : Nat → Int32} {hg : Nat → Int32} {wn : Nat} {wf : Nat → Int32} {wg : Nat → Int32}  : ∀ (r : Nat) (p i : Nat) (y4 y5 y6 : Option Value) {h : xH}  (W : xCw K h0 h X D tn tf rk rv σ β γ pn τ ks κ φ hn hf hg wn wf wg), i + r = 60 → p ≤ 3 * i → xT K B l 2 RX11 false cX11_firstBadOfDay 7 (some .int) 0 0 0 0 (xPi (fun zr g => zr = fdO tf tn r p ∧ xCw K h0 g X D tn tf rk rv σ β γ pn τ ks κ φ hn hf hg wn wf wg)) 17 [some (.ref X), some (.int (nI (min tn 60))), some (.int (nI p)), some (.int (nI i)), y4, y5, y6] [] h := by
  intro r
  induction r with
  | zero =>
    intro p i y4 y5 y6 h  W hk hp
    have pt := W.pt
    refine xr_il3 dX11_firstBadOfDay_17 ?_
    refine xr_bipush (v := 60) dX11_firstBadOfDay_18 (by decide) ?_
    refine xr_icmpge (tgt := 114) dX11_firstBadOfDay_20 (by decide) (fun zc20 => ?_) (fun zc20 => ?_)
    · skip
      refine xr_al0 dX11_firstBadOfDay_114 ?_
      refine xr_get W.oX fX11_12 rfl dX11_firstBadOfDay_115 ?_
      refine xr_Vi0 (s_slLength W.Ht) kX11_107 (by decide) (Nat.le_of_ble_eq_true rfl) (Nat.zero_add _) (Nat.zero_add _) dX11_firstBadOfDay_118 ?_
      refine xr_bipush (v := 60) dX11_firstBadOfDay_121 (by decide) ?_
      refine xr_icmple (tgt := 131) dX11_firstBadOfDay_123 (by decide) (fun zc123 => ?_) (fun zc123 => ?_)
      · skip
        refine xr_icm1 dX11_firstBadOfDay_131 ?_
        refine xr_iret dX11_firstBadOfDay_132 rfl ?_
        exact ⟨_, rfl, (if_neg (fun q => absurd zc123 (Int32.not_le.mpr (nI_lt (a := 60) q (by omega))))).symm, W⟩
      · skip
        refine xr_bipush (v := 60) dX11_firstBadOfDay_126 (by decide) ?_
        refine xr_goto (tgt := 132) dX11_firstBadOfDay_128 (by decide) ?_
        refine xr_iret dX11_firstBadOfDay_132 rfl ?_
        exact ⟨_, rfl, (if_pos (Nat.lt_of_not_le (fun q => zc123 (nI_le (b := 60) q (by decide))))).symm, W⟩
    · skip
      exact absurd (nI_le (a := 60) (by omega) (by omega)) zc20
  | succ r ih =>
    intro p i y4 y5 y6 h  W hk hp
    have pt := W.pt
    refine xr_il3 dX11_firstBadOfDay_17 ?_
    refine xr_bipush (v := 60) dX11_firstBadOfDay_18 (by decide) ?_
    refine xr_icmpge (tgt := 114) dX11_firstBadOfDay_20 (by decide) (fun zc20 => ?_) (fun zc20 => ?_)
    · skip
      exact absurd zc20 (nI_ge (b := 60) (by omega) (by decide))
    · skip
      refine xr_il2 dX11_firstBadOfDay_23 ?_
      refine xr_il1 dX11_firstBadOfDay_24 ?_
      refine xr_icmpge (tgt := 114) dX11_firstBadOfDay_25 (by decide) (fun zc25 => ?_) (fun zc25 => ?_)
      · skip
        refine xr_al0 dX11_firstBadOfDay_114 ?_
        refine xr_get W.oX fX11_12 rfl dX11_firstBadOfDay_115 ?_
        refine xr_Vi0 (s_slLength W.Ht) kX11_107 (by decide) (Nat.le_of_ble_eq_true rfl) (Nat.zero_add _) (Nat.zero_add _) dX11_firstBadOfDay_118 ?_
        refine xr_bipush (v := 60) dX11_firstBadOfDay_121 (by decide) ?_
        refine xr_icmple (tgt := 131) dX11_firstBadOfDay_123 (by decide) (fun zc123 => ?_) (fun zc123 => ?_)
        · skip
          refine xr_icm1 dX11_firstBadOfDay_131 ?_
          refine xr_iret dX11_firstBadOfDay_132 rfl ?_
          rw [fdO_s, if_pos ((nI_leI (by omega) (by omega)).mp zc25)]
          exact ⟨_, rfl, (if_neg (fun q => absurd zc123 (Int32.not_le.mpr (nI_lt (a := 60) q (by omega))))).symm, W⟩
        · skip
          refine xr_bipush (v := 60) dX11_firstBadOfDay_126 (by decide) ?_
          refine xr_goto (tgt := 132) dX11_firstBadOfDay_128 (by decide) ?_
          refine xr_iret dX11_firstBadOfDay_132 rfl ?_
          rw [fdO_s, if_pos ((nI_leI (by omega) (by omega)).mp zc25)]
          exact ⟨_, rfl, (if_pos (Nat.lt_of_not_le (fun q => zc123 (nI_le (b := 60) q (by decide))))).symm, W⟩
      · skip
        have zp : ¬ min tn 60 ≤ p := fun q => zc25 (nI_le q (by omega))
        refine xr_al0 dX11_firstBadOfDay_28 ?_
        refine xr_get W.oX fX11_12 rfl dX11_firstBadOfDay_29 ?_
        refine xr_il2 dX11_firstBadOfDay_32 ?_
        refine xr_Vi1 (s_slAt W.Ht _) kX11_135 (by decide) (Nat.le_of_ble_eq_true rfl) (Nat.zero_add _) (Nat.zero_add _) dX11_firstBadOfDay_33 ?_
        refine xr_is4 dX11_firstBadOfDay_36 (by decide) rfl ?_
        refine xr_il4 dX11_firstBadOfDay_38 ?_
        refine xr_Si1 (s_digitsBehind _) kX11_271 (by decide) (Nat.le_of_ble_eq_true rfl) (Nat.zero_add _) (Nat.zero_add _) dX11_firstBadOfDay_40 ?_
        refine xr_is5 dX11_firstBadOfDay_43 (by decide) rfl ?_
        refine xr_il5 dX11_firstBadOfDay_45 ?_
        refine xr_icm1 dX11_firstBadOfDay_47 ?_
        refine xr_icmpne (tgt := 53) dX11_firstBadOfDay_48 (by decide) (fun zc48 => ?_) (fun zc48 => ?_)
        · skip
          refine xr_ic1 dX11_firstBadOfDay_53 ?_
          refine xr_is6 dX11_firstBadOfDay_54 (by decide) rfl ?_
          have d2 := dgb_n zc48
          rw [d2.1]
          refine lp_dayI W (by omega) (by omega) d2.2 (dn (slAt tf (nI tn) (nI p))) 1 (by omega) (fun v z => ?_) (fun z => ?_)
          · refine ⟨_, rfl, ?_, W⟩
            rw [fdO_s, if_neg zp, if_neg zc48, z]
          · skip
            refine xr_il2 dX11_firstBadOfDay_101 ?_
            refine xr_ic1 dX11_firstBadOfDay_102 ?_
            refine xr_il5 dX11_firstBadOfDay_103 ?_
            refine xr_iadd dX11_firstBadOfDay_105 ?_
            refine xr_eqi (y := nI (1 + dn (slAt tf (nI tn) (nI p)))) (nI_add 1 _) ?_
            refine xr_iadd dX11_firstBadOfDay_106 ?_
            refine xr_eqi (y := nI (p + (1 + dn (slAt tf (nI tn) (nI p))))) (nI_add _ _) ?_
            refine xr_is2 dX11_firstBadOfDay_107 (by decide) rfl ?_
            refine xr_inc3 dX11_firstBadOfDay_108 (nI_inc i) (by decide) rfl ?_
            refine xr_goto (tgt := 17) dX11_firstBadOfDay_111 (by decide) ?_
            rw [fdO_s, if_neg zp, if_neg zc48, z]
            exact ih (p + (1 + dn (slAt tf (nI tn) (nI p)))) (i + 1) _ _ _ W (by omega) (by omega)
        · skip
          refine xr_il2 dX11_firstBadOfDay_51 ?_
          refine xr_iret dX11_firstBadOfDay_52 rfl ?_
          refine ⟨_, rfl, ?_, W⟩
          rw [fdO_s, if_neg zp, if_pos zc48]
theorem iMin_60 {tn : Nat} (h : tn ≤ 80) : iMin (nI tn) 60 = nI (min tn 60) := by
  unfold iMin
  by_cases q : 60 < tn
  · rw [if_pos (show (60 : Int32) < nI tn from nI_lt (a := 60) q (by omega)), Nat.min_eq_right (by omega)]
    rfl
  · rw [if_neg (show ¬ (60 : Int32) < nI tn from Int32.not_lt.mpr (nI_le (b := 60) (by omega) (by decide))), Nat.min_eq_left (by omega)]
set_option maxRecDepth 20000 in
theorem s_firstBadDay {K : xK} {B : Nat} {l : Launch} {h0 h : xH} {X D : Nat} {tn : Nat} {tf : Nat → Int32} {rk : Int32} {rv : Nat → Int64} {σ : xs} {β : xs} {γ : xs} {pn : Nat} {τ : Nat → xs} {ks : Nat → Bool} {κ : Nat → xs} {φ : xs → Int32} {hn : Nat} {hf : Nat → Int32} {hg : Nat → Int32} {wn : Nat} {wf : Nat → Int32} {wg : Nat → Int32} (W : xCw K h0 h X D tn tf rk rv σ β γ pn τ ks κ φ hn hf hg wn wf wg) : xV K B l 2 mX11_firstBadOfDay 0 0 (X) [] h (xPi (fun zr g => zr = fdO tf tn 60 0 ∧ xCw K h0 g X D tn tf rk rv σ β γ pn τ ks κ φ hn hf hg wn wf wg)) := by
  refine ⟨⟨_, _, _, _, W.oX, rfl⟩, qX11_firstBadOfDay, ?_⟩
  refine xS.intro RX11 false ⟨rfl, rfl, by decide, by decide, Nat.le_of_ble_eq_true rfl⟩ (ls := [some (.ref X), none, none, none, none, none, none]) rfl ?_
  refine xr_al0 dX11_firstBadOfDay_0 ?_
  refine xr_get W.oX fX11_12 rfl dX11_firstBadOfDay_1 ?_
  refine xr_Vi0 (s_slLength W.Ht) kX11_107 (by decide) (Nat.le_of_ble_eq_true rfl) (Nat.zero_add _) (Nat.zero_add _) dX11_firstBadOfDay_4 ?_
  refine xr_bipush (v := 60) dX11_firstBadOfDay_7 (by decide) ?_
  refine xr_min kmX11_171 ms_min wz_J9 mc_min (by decide) (Nat.le_of_ble_eq_true rfl) dX11_firstBadOfDay_9 ?_
  refine xr_eqi (y := nI (min tn 60)) (iMin_60 W.pt) ?_
  refine xr_is1 dX11_firstBadOfDay_12 (by decide) rfl ?_
  refine xr_ic0 dX11_firstBadOfDay_13 ?_
  refine xr_is2 dX11_firstBadOfDay_14 (by decide) rfl ?_
  refine xr_ic0 dX11_firstBadOfDay_15 ?_
  refine xr_is3 dX11_firstBadOfDay_16 (by decide) rfl ?_
  exact lp_firstBadDay 60 0 0 none none none W (by omega) (by omega)
def acF (φ : xs → Int32) (σ : xs) (rk : Int32) (rv : Nat → Int64) (c a b : Int32) : AC := if c = 42 then gw φ σ rk rv (hNext σ 0) (hNext σ 1) else if c = 103 then aGrip σ rk rv a else if c = 108 then aAway σ rk rv a b else if c = 110 then aRuns φ σ rk rv a else if c = 111 then aOut σ rk rv (10 * a + b) else if c = 115 then aSeats σ rk rv a else if c = 120 then aSwap σ rk rv a b else (-1, σ, rk, rv)
def acP (φ : xs → Int32) (tf : Nat → Int32) (tn : Nat) (p : Int32) (z : xs × Int32 × (Nat → Int64)) : AC := acF φ z.1 z.2.1 z.2.2 (slAt tf (nI tn) p) (slAt tf (nI tn) (p + 1) - 48) (slAt tf (nI tn) (p + 2) - 48)
set_option maxRecDepth 20000 in
theorem lp_act {K : xK} {B : Nat} {l : Launch} {h0 h : xH} {X D : Nat} {tn : Nat} {tf : Nat → Int32} {rk : Int32} {rv : Nat → Int64} {σ : xs} {β : xs} {γ : xs} {pn : Nat} {τ : Nat → xs} {ks : Nat → Bool} {κ : Nat → xs} {φ : xs → Int32} {hn : Nat} {hf : Nat → Int32} {hg : Nat → Int32} {wn : Nat} {wf : Nat → Int32} {wg : Nat → Int32} (W : xCw K h0 h X D tn tf rk rv σ β γ pn τ ks κ φ hn hf hg wn wf wg) (p c a b : Int32) : xT K B l 5 RX11 false cX11_act 4 (some .int) 0 0 0 0 (xPi (fun zr g => zr = (acF φ σ rk rv c a b).1 ∧ xCw K h0 g X D tn tf ((acF φ σ rk rv c a b).2.2.1) ((acF φ σ rk rv c a b).2.2.2) ((acF φ σ rk rv c a b).2.1) β γ pn τ ks κ φ hn hf hg wn wf wg)) 36 [some (.ref X), some (.int p), some (.int a), some (.int b)] [.int c] h := by
  by_cases e42 : c = 42
  · skip
    subst e42
    refine xr_lookup (tgt := 104) dX11_act_36 (by decide) rfl (by decide) ?_
    refine xr_al0 dX11_act_104 ?_
    refine xr_Vpi0 (s_goNext W) kX11_182 (by decide) (Nat.le_of_ble_eq_true rfl) (Nat.zero_add _) (Nat.zero_add _) dX11_act_105 (fun zv105 zh1 zq1 => ?_)
    obtain ⟨rfl, W⟩ := zq1
    refine xr_iret dX11_act_108 rfl ?_
    have e : (acF φ σ rk rv 42 a b) = _ := if_pos rfl
    rw [e]
    exact ⟨_, rfl, rfl, W⟩
  by_cases e103 : c = 103
  · skip
    subst e103
    refine xr_lookup (tgt := 115) dX11_act_36 (by decide) rfl (by decide) ?_
    refine xr_al0 dX11_act_115 ?_
    refine xr_il2 dX11_act_116 ?_
    refine xr_Vpi1 (s_setGrip W _) kX11_197 (by decide) (Nat.le_of_ble_eq_true rfl) (Nat.zero_add _) (Nat.zero_add _) dX11_act_117 (fun zv117 zh1 zq1 => ?_)
    obtain ⟨rfl, W⟩ := zq1
    refine xr_iret dX11_act_120 rfl ?_
    have e : (acF φ σ rk rv 103 a b) = _ := (if_neg (by decide)).trans (if_pos rfl)
    rw [e]
    exact ⟨_, rfl, rfl, W⟩
  by_cases e108 : c = 108
  · skip
    subst e108
    refine xr_lookup (tgt := 127) dX11_act_36 (by decide) rfl (by decide) ?_
    refine xr_al0 dX11_act_127 ?_
    refine xr_il2 dX11_act_128 ?_
    refine xr_il3 dX11_act_129 ?_
    refine xr_Vpi2 (s_goAway W _ _) kX11_203 (by decide) (Nat.le_of_ble_eq_true rfl) (Nat.zero_add _) (Nat.zero_add _) dX11_act_130 (fun zv130 zh1 zq1 => ?_)
    obtain ⟨rfl, W⟩ := zq1
    refine xr_iret dX11_act_133 rfl ?_
    have e : (acF φ σ rk rv 108 a b) = _ := (if_neg (by decide)).trans ((if_neg (by decide)).trans (if_pos rfl))
    rw [e]
    exact ⟨_, rfl, rfl, W⟩
  by_cases e110 : c = 110
  · skip
    subst e110
    refine xr_lookup (tgt := 109) dX11_act_36 (by decide) rfl (by decide) ?_
    refine xr_al0 dX11_act_109 ?_
    refine xr_il2 dX11_act_110 ?_
    refine xr_Vpi1 (s_runFor W _) kX11_194 (by decide) (Nat.le_of_ble_eq_true rfl) (Nat.zero_add _) (Nat.zero_add _) dX11_act_111 (fun zv111 zh1 zq1 => ?_)
    obtain ⟨rfl, W⟩ := zq1
    refine xr_iret dX11_act_114 rfl ?_
    have e : (acF φ σ rk rv 110 a b) = _ := (if_neg (by decide)).trans ((if_neg (by decide)).trans ((if_neg (by decide)).trans (if_pos rfl)))
    rw [e]
    exact ⟨_, rfl, rfl, W⟩
  by_cases e111 : c = 111
  · skip
    subst e111
    refine xr_lookup (tgt := 141) dX11_act_36 (by decide) rfl (by decide) ?_
    refine xr_al0 dX11_act_141 ?_
    refine xr_bipush (v := 10) dX11_act_142 (by decide) ?_
    refine xr_il2 dX11_act_144 ?_
    refine xr_imul dX11_act_145 ?_
    refine xr_il3 dX11_act_146 ?_
    refine xr_iadd dX11_act_147 ?_
    refine xr_Vpi1 (s_letOut W _) kX11_209 (by decide) (Nat.le_of_ble_eq_true rfl) (Nat.zero_add _) (Nat.zero_add _) dX11_act_148 (fun zv148 zh1 zq1 => ?_)
    obtain ⟨rfl, W⟩ := zq1
    refine xr_iret dX11_act_151 rfl ?_
    have e : (acF φ σ rk rv 111 a b) = _ := (if_neg (by decide)).trans ((if_neg (by decide)).trans ((if_neg (by decide)).trans ((if_neg (by decide)).trans (if_pos rfl))))
    rw [e]
    exact ⟨_, rfl, rfl, W⟩
  by_cases e115 : c = 115
  · skip
    subst e115
    refine xr_lookup (tgt := 121) dX11_act_36 (by decide) rfl (by decide) ?_
    refine xr_al0 dX11_act_121 ?_
    refine xr_il2 dX11_act_122 ?_
    refine xr_Vpi1 (s_setSeats W _) kX11_200 (by decide) (Nat.le_of_ble_eq_true rfl) (Nat.zero_add _) (Nat.zero_add _) dX11_act_123 (fun zv123 zh1 zq1 => ?_)
    obtain ⟨rfl, W⟩ := zq1
    refine xr_iret dX11_act_126 rfl ?_
    have e : (acF φ σ rk rv 115 a b) = _ := (if_neg (by decide)).trans ((if_neg (by decide)).trans ((if_neg (by decide)).trans ((if_neg (by decide)).trans ((if_neg (by decide)).trans (if_pos rfl)))))
    rw [e]
    exact ⟨_, rfl, rfl, W⟩
  by_cases e120 : c = 120
  · skip
    subst e120
    refine xr_lookup (tgt := 134) dX11_act_36 (by decide) rfl (by decide) ?_
    refine xr_al0 dX11_act_134 ?_
    refine xr_il2 dX11_act_135 ?_
    refine xr_il3 dX11_act_136 ?_
    refine xr_Vpi2 (s_swapNext W _ _) kX11_206 (by decide) (Nat.le_of_ble_eq_true rfl) (Nat.zero_add _) (Nat.zero_add _) dX11_act_137 (fun zv137 zh1 zq1 => ?_)
    obtain ⟨rfl, W⟩ := zq1
    refine xr_iret dX11_act_140 rfl ?_
    have e : (acF φ σ rk rv 120 a b) = _ := (if_neg (by decide)).trans ((if_neg (by decide)).trans ((if_neg (by decide)).trans ((if_neg (by decide)).trans ((if_neg (by decide)).trans ((if_neg (by decide)).trans (if_pos rfl))))))
    rw [e]
    exact ⟨_, rfl, rfl, W⟩
  refine xr_lookup (off := 116) (tgt := 152) dX11_act_36 (by decide) ((lv_osw e42 rfl).trans ((lv_osw e103 rfl).trans ((lv_osw e108 rfl).trans ((lv_osw e110 rfl).trans ((lv_osw e111 rfl).trans ((lv_osw e115 rfl).trans ((lv_osw e120 rfl).trans rfl))))))) (by decide) ?_
  refine xr_icm1 dX11_act_152 ?_
  refine xr_iret dX11_act_153 rfl ?_
  have e : (acF φ σ rk rv c a b) = _ := (if_neg e42).trans ((if_neg e103).trans ((if_neg e108).trans ((if_neg e110).trans ((if_neg e111).trans ((if_neg e115).trans (if_neg e120))))))
  rw [e]
  exact ⟨_, rfl, rfl, W⟩
set_option maxRecDepth 20000 in
theorem s_act {K : xK} {B : Nat} {l : Launch} {h0 h : xH} {X D : Nat} {tn : Nat} {tf : Nat → Int32} {rk : Int32} {rv : Nat → Int64} {σ : xs} {β : xs} {γ : xs} {pn : Nat} {τ : Nat → xs} {ks : Nat → Bool} {κ : Nat → xs} {φ : xs → Int32} {hn : Nat} {hf : Nat → Int32} {hg : Nat → Int32} {wn : Nat} {wf : Nat → Int32} {wg : Nat → Int32} (W : xCw K h0 h X D tn tf rk rv σ β γ pn τ ks κ φ hn hf hg wn wf wg) (p : Int32) : xV K B l 5 mX11_act 0 0 (X) [.int p] h (xPi (fun zr g => zr = (acP φ tf tn p (σ, rk, rv)).1 ∧ xCw K h0 g X D tn tf ((acP φ tf tn p (σ, rk, rv)).2.2.1) ((acP φ tf tn p (σ, rk, rv)).2.2.2) ((acP φ tf tn p (σ, rk, rv)).2.1) β γ pn τ ks κ φ hn hf hg wn wf wg)) := by
  refine ⟨⟨_, _, _, _, W.oX, rfl⟩, qX11_act, ?_⟩
  refine xS.intro RX11 false ⟨rfl, rfl, by decide, by decide, Nat.le_of_ble_eq_true rfl⟩ (ls := [some (.ref X), some (.int p), none, none]) rfl ?_
  refine xr_al0 dX11_act_0 ?_
  refine xr_get W.oX fX11_12 rfl dX11_act_1 ?_
  refine xr_il1 dX11_act_4 ?_
  refine xr_ic1 dX11_act_5 ?_
  refine xr_iadd dX11_act_6 ?_
  refine xr_Vi1 (s_slAt W.Ht _) kX11_135 (by decide) (Nat.le_of_ble_eq_true rfl) (Nat.zero_add _) (Nat.zero_add _) dX11_act_7 ?_
  refine xr_bipush (v := 48) dX11_act_10 (by decide) ?_
  refine xr_isub dX11_act_12 ?_
  refine xr_is2 dX11_act_13 (by decide) rfl ?_
  refine xr_al0 dX11_act_14 ?_
  refine xr_get W.oX fX11_12 rfl dX11_act_15 ?_
  refine xr_il1 dX11_act_18 ?_
  refine xr_ic2 dX11_act_19 ?_
  refine xr_iadd dX11_act_20 ?_
  refine xr_Vi1 (s_slAt W.Ht _) kX11_135 (by decide) (Nat.le_of_ble_eq_true rfl) (Nat.zero_add _) (Nat.zero_add _) dX11_act_21 ?_
  refine xr_bipush (v := 48) dX11_act_24 (by decide) ?_
  refine xr_isub dX11_act_26 ?_
  refine xr_is3 dX11_act_27 (by decide) rfl ?_
  refine xr_al0 dX11_act_28 ?_
  refine xr_get W.oX fX11_12 rfl dX11_act_29 ?_
  refine xr_il1 dX11_act_32 ?_
  refine xr_Vi1 (s_slAt W.Ht _) kX11_135 (by decide) (Nat.le_of_ble_eq_true rfl) (Nat.zero_add _) (Nat.zero_add _) dX11_act_33 ?_
  exact lp_act W p _ _ _
abbrev DS : Type := Int32 × xs × Int32 × (Nat → Int64)
def daN (φ : xs → Int32) (tf : Nat → Int32) (tn : Nat) : Nat → Int32 → Int32 → xs × Int32 × (Nat → Int64) → Int32 × Int32 × xs
  | 0, _, a, z => (a, 0, z.1)
  | r + 1, p, a, z => if nI tn ≤ p then (a, 0, z.1) else if (acP φ tf tn p z).1 < 0 then (a, 1, (acP φ tf tn p z).2.1) else daN φ tf tn r (p + (1 + dgb (slAt tf (nI tn) p))) (a + 1) (acP φ tf tn p z).2
theorem daN_s (φ : xs → Int32) (tf : Nat → Int32) (tn r : Nat) (p a : Int32) (z : xs × Int32 × (Nat → Int64)) : daN φ tf tn (r + 1) p a z = if nI tn ≤ p then (a, 0, z.1) else if (acP φ tf tn p z).1 < 0 then (a, 1, (acP φ tf tn p z).2.1) else daN φ tf tn r (p + (1 + dgb (slAt tf (nI tn) p))) (a + 1) (acP φ tf tn p z).2 := by rw [daN]
def daV (rv : Nat → Int64) (s x : Int32) : Nat → Int64 := vp_updL (vp_updL rv 0 (if s = 0 then 0 else 1)) 1 x.toInt64
set_option maxRecDepth 20000 in
theorem lp_dayE {K : xK} {B : Nat} {l : Launch} {h0 h : xH} {X D : Nat} {tn : Nat} {tf : Nat → Int32} {rk : Int32} {rv : Nat → Int64} {σ : xs} {β : xs} {γ : xs} {pn : Nat} {τ : Nat → xs} {ks : Nat → Bool} {κ : Nat → xs} {φ : xs → Int32} {hn : Nat} {hf : Nat → Int32} {hg : Nat → Int32} {wn : Nat} {wf : Nat → Int32} {wg : Nat → Int32} (W : xCw K h0 h X D tn tf rk rv σ β γ pn τ ks κ φ hn hf hg wn wf wg) (okb : hOk β) (bd a s : Int32) (y4 y5 : Option Value) : xT K B l 6 RX11 false cX11_day 6 (some .int) 3 21 3 21 (xPi (fun zr g => zr = (a, s, σ).1 ∧ ∃ rw', xCw K h0 g X D 0 tf 2 (daV rw' (a, s, σ).2.1 ((a, s, σ).2.2 14)) ((a, s, σ).2.2) β γ (if (a, s, σ).1 ≤ 0 then pn else psn pn) (if (a, s, σ).1 ≤ 0 then τ else psh pn τ β) ks κ φ hn hf hg wn wf wg)) 117 [some (.ref X), some (.int bd), some (.int a), some (.int s), y4, y5] [] h := by
  refine xr_al0 dX11_day_117 ?_
  refine xr_get W.oX fX11_12 rfl dX11_day_118 ?_
  refine xr_Vv0 (s_slClear W.Ht) kX11_128 (by decide) (Nat.le_of_ble_eq_true rfl) (Nat.zero_add _) (Nat.zero_add _) dX11_day_121 ?_
  refine xT.nm (fun zh1 zg1 => ?_)
  have W := W.ut (tn' := 0) (fB2 zg1) (by decide)
  refine xr_il2 dX11_day_124 ?_
  refine xr_ifle (tgt := 139) dX11_day_125 (by decide) (fun zc125 => ?_) (fun zc125 => ?_)
  · skip
    refine xr_al0 dX11_day_139 ?_
    refine xr_get W.oX fX11_19 rfl dX11_day_140 ?_
    refine xr_il3 dX11_day_143 ?_
    refine xr_ifeq (tgt := 151) dX11_day_144 (by decide) (fun zc144 => ?_) (fun zc144 => ?_)
    · skip
      refine xr_lc0 dX11_day_151 ?_
      refine xr_al0 dX11_day_152 ?_
      refine xr_get W.oX fX11_26 rfl dX11_day_153 ?_
      refine xr_get W.Hh.1 fX11_221 rfl dX11_day_156 ?_
      refine xr_i2l dX11_day_159 ?_
      refine xr_Vv2 (s_tell2 W.Hr _ _) kX11_236 (by decide) (Nat.le_of_ble_eq_true rfl) (Nat.zero_add _) (Nat.zero_add _) dX11_day_160 ?_
      refine xT.nm (fun zh2 zg2 => ?_)
      have W := W.ur (fB2 zg2)
      refine xr_il2 dX11_day_163 ?_
      refine xr_iret dX11_day_164 rfl ?_
      refine ⟨_, rfl, rfl, rv, ?_⟩
      dsimp only
      unfold daV
      rw [if_pos zc125, if_pos zc125, if_pos zc144]
      exact W
    · skip
      refine xr_lc1 dX11_day_147 ?_
      refine xr_goto (tgt := 152) dX11_day_148 (by decide) ?_
      refine xr_al0 dX11_day_152 ?_
      refine xr_get W.oX fX11_26 rfl dX11_day_153 ?_
      refine xr_get W.Hh.1 fX11_221 rfl dX11_day_156 ?_
      refine xr_i2l dX11_day_159 ?_
      refine xr_Vv2 (s_tell2 W.Hr _ _) kX11_236 (by decide) (Nat.le_of_ble_eq_true rfl) (Nat.zero_add _) (Nat.zero_add _) dX11_day_160 ?_
      refine xT.nm (fun zh2 zg2 => ?_)
      have W := W.ur (fB2 zg2)
      refine xr_il2 dX11_day_163 ?_
      refine xr_iret dX11_day_164 rfl ?_
      refine ⟨_, rfl, rfl, rv, ?_⟩
      dsimp only
      unfold daV
      rw [if_pos zc125, if_pos zc125, if_neg zc144]
      exact W
  · skip
    refine xr_al0 dX11_day_128 ?_
    refine xr_get W.oX fX11_39 rfl dX11_day_129 ?_
    refine xr_al0 dX11_day_132 ?_
    refine xr_get W.oX fX11_30 rfl dX11_day_133 ?_
    refine xr_Vpv1 (wRem W okb) kX11_212 (by decide) (Nat.le_of_ble_eq_true rfl) (rc' := 0) (rs' := 0) rfl rfl dX11_day_136 (fun zh2 zq2 => ?_)
    have W := zq2
    refine xr_al0 dX11_day_139 ?_
    refine xr_get W.oX fX11_19 rfl dX11_day_140 ?_
    refine xr_il3 dX11_day_143 ?_
    refine xr_ifeq (tgt := 151) dX11_day_144 (by decide) (fun zc144 => ?_) (fun zc144 => ?_)
    · skip
      refine xr_lc0 dX11_day_151 ?_
      refine xr_al0 dX11_day_152 ?_
      refine xr_get W.oX fX11_26 rfl dX11_day_153 ?_
      refine xr_get W.Hh.1 fX11_221 rfl dX11_day_156 ?_
      refine xr_i2l dX11_day_159 ?_
      refine xr_Vv2 (s_tell2 W.Hr _ _) kX11_236 (by decide) (Nat.le_of_ble_eq_true rfl) (Nat.zero_add _) (Nat.zero_add _) dX11_day_160 ?_
      refine xT.nm (fun zh3 zg3 => ?_)
      have W := W.ur (fB2 zg3)
      refine xr_il2 dX11_day_163 ?_
      refine xr_iret dX11_day_164 rfl ?_
      refine ⟨_, rfl, rfl, rv, ?_⟩
      dsimp only
      unfold daV
      rw [if_neg zc125, if_neg zc125, if_pos zc144]
      exact W
    · skip
      refine xr_lc1 dX11_day_147 ?_
      refine xr_goto (tgt := 152) dX11_day_148 (by decide) ?_
      refine xr_al0 dX11_day_152 ?_
      refine xr_get W.oX fX11_26 rfl dX11_day_153 ?_
      refine xr_get W.Hh.1 fX11_221 rfl dX11_day_156 ?_
      refine xr_i2l dX11_day_159 ?_
      refine xr_Vv2 (s_tell2 W.Hr _ _) kX11_236 (by decide) (Nat.le_of_ble_eq_true rfl) (Nat.zero_add _) (Nat.zero_add _) dX11_day_160 ?_
      refine xT.nm (fun zh3 zg3 => ?_)
      have W := W.ur (fB2 zg3)
      refine xr_il2 dX11_day_163 ?_
      refine xr_iret dX11_day_164 rfl ?_
      refine ⟨_, rfl, rfl, rv, ?_⟩
      dsimp only
      unfold daV
      rw [if_neg zc125, if_neg zc125, if_neg zc144]
      exact W
