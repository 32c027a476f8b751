/-! laws, looks, pails, rests, law, years, count (written by wip/whole/car9.py) -/
theorem lcmp0 (x : Int64) : lg_cmp x 0 = 0 ↔ x = 0 := by
  unfold lg_cmp
  constructor
  · intro h
    split at h
    · exact absurd h (by decide)
    · split at h
      · assumption
      · exact absurd h (by decide)
  · intro h
    subst h
    decide
def lwR (f : Int64) (rv : Nat → Int64) : AR := if f = 0 then (0, 0, rv) else (lbc f, 2, tl2 rv (lntz f / 8) (5 + remI (lntz f) 8))
set_option maxRecDepth 20000 in
theorem s_laws {K : xK} {B : Nat} {l : Launch} {h0 h : xH} {X D : Nat} {tn : Nat} {tf : Nat → Int32} {rk : Int32} {rv : Nat → Int64} {σ : xs} {β : xs} {γ : xs} {pn : Nat} {τ : Nat → xs} {ks : Nat → Bool} {κ : Nat → xs} {φ : xs → Int32} {hn : Nat} {hf : Nat → Int32} {hg : Nat → Int32} {wn : Nat} {wf : Nat → Int32} {wg : Nat → Int32} (W : xCw K h0 h X D tn tf rk rv σ β γ pn τ ks κ φ hn hf hg wn wf wg) : xV K B l 3 mX11_laws 0 0 (X) [] h (xPi (fun zr g => zr = (lwR (flN wf wg wn) rv).1 ∧ xCw K h0 g X D tn tf ((lwR (flN wf wg wn) rv).2.1) ((lwR (flN wf wg wn) rv).2.2) σ β γ pn τ ks κ φ hn hf hg wn wf wg)) := by
  refine ⟨⟨_, _, _, _, W.oX, rfl⟩, qX11_laws, ?_⟩
  refine xS.intro RX11 false ⟨rfl, rfl, by decide, by decide, Nat.le_of_ble_eq_true rfl⟩ (ls := [some (.ref X), none, none, none]) rfl ?_
  refine xr_al0 dX11_laws_0 ?_
  refine xr_get W.oX fX11_76 rfl dX11_laws_1 ?_
  refine xr_Vl0 (s_fittingLaws W.Hi W.pw) kX11_394 (by decide) (Nat.le_of_ble_eq_true rfl) (Nat.zero_add _) (Nat.zero_add _) dX11_laws_4 ?_
  refine xr_ls1 dX11_laws_7 (by decide) rfl ?_
  refine xr_ll1 dX11_laws_8 ?_
  refine xr_lc0 dX11_laws_9 ?_
  refine xr_lcmp dX11_laws_10 ?_
  refine xr_ifne (tgt := 23) dX11_laws_11 (by decide) (fun zc11 => ?_) (fun zc11 => ?_)
  · skip
    refine xr_ll1 dX11_laws_23 ?_
    refine xr_Si1 (s_lntz _) kX11_398 (by decide) (Nat.le_of_ble_eq_true rfl) (Nat.zero_add _) (Nat.zero_add _) dX11_laws_24 ?_
    refine xr_is3 dX11_laws_27 (by decide) rfl ?_
    refine xr_al0 dX11_laws_28 ?_
    refine xr_get W.oX fX11_19 rfl dX11_laws_29 ?_
    refine xr_il3 dX11_laws_32 ?_
    refine xr_Si1 (s_leastOf _) kX11_404 (by decide) (Nat.le_of_ble_eq_true rfl) (Nat.zero_add _) (Nat.zero_add _) dX11_laws_33 ?_
    refine xr_i2l dX11_laws_36 ?_
    refine xr_il3 dX11_laws_37 ?_
    refine xr_Si1 (s_greatestOf _) kX11_407 (by decide) (Nat.le_of_ble_eq_true rfl) (Nat.zero_add _) (Nat.zero_add _) dX11_laws_38 ?_
    refine xr_i2l dX11_laws_41 ?_
    refine xr_Vv2 (s_tell2 W.Hr _ _) kX11_236 (by decide) (Nat.le_of_ble_eq_true rfl) (Nat.zero_add _) (Nat.zero_add _) dX11_laws_42 ?_
    refine xT.nm (fun zh1 zg1 => ?_)
    have W := W.ur (fB2 zg1)
    refine xr_ll1 dX11_laws_45 ?_
    refine xr_Si1 (s_lbc _) kX11_410 (by decide) (Nat.le_of_ble_eq_true rfl) (Nat.zero_add _) (Nat.zero_add _) dX11_laws_46 ?_
    refine xr_iret dX11_laws_49 rfl ?_
    have e : (lwR (flN wf wg wn) rv) = _ := if_neg (fun q => zc11 ((lcmp0 _).mpr q))
    rw [e]
    exact ⟨_, rfl, rfl, W⟩
  · skip
    refine xr_al0 dX11_laws_14 ?_
    refine xr_get W.oX fX11_19 rfl dX11_laws_15 ?_
    refine xr_Vv0 (s_tell0 W.Hr) kX11_346 (by decide) (Nat.le_of_ble_eq_true rfl) (Nat.zero_add _) (Nat.zero_add _) dX11_laws_18 ?_
    refine xT.nm (fun zh1 zg1 => ?_)
    have W := W.ur (fB2 zg1)
    refine xr_ic0 dX11_laws_21 ?_
    refine xr_iret dX11_laws_22 rfl ?_
    have e : (lwR (flN wf wg wn) rv) = _ := if_pos ((lcmp0 _).mp zc11)
    rw [e]
    exact ⟨_, rfl, rfl, W⟩
def lk1 (f : Int64) (k : Nat) (z : Int32 × Int32) : Int32 × Int32 := if iMax (lbc (f &&& ltr (nI k))) (lbc f - lbc (f &&& ltr (nI k))) < z.1 then (iMax (lbc (f &&& ltr (nI k))) (lbc f - lbc (f &&& ltr (nI k))), nI k) else z
def lkN (f : Int64) : Nat → Nat → Int32 × Int32 → Int32 × Int32
  | 0, _, z => z
  | r + 1, k, z => lkN f r (k + 1) (lk1 f k z)
theorem lkN_s (f : Int64) (r k : Nat) (z : Int32 × Int32) : lkN f (r + 1) k z = lkN f r (k + 1) (lk1 f k z) := rfl
def lkR (f : Int64) (rk : Int32) (rv : Nat → Int64) : AR := if f = 0 then (-2, rk, rv) else aqE rv (lkN f 31 0 (1048576, 0))
set_option maxRecDepth 20000 in
theorem lp_looks {K : xK} {B : Nat} {l : Launch} {h0 : xH} {X D : Nat} {tn : Nat} {tf : Nat → Int32} {rk : Int32} {rv : Nat → Int64} {σ : xs} {β : xs} {γ : xs} {pn : Nat} {τ : Nat → xs} {ks : Nat → Bool} {κ : Nat → xs} {φ : xs → Int32} {hn : Nat} {hf : Nat → Int32} {hg : Nat → Int32} {wn : Nat} {wf : Nat → Int32} {wg : Nat → Int32} (f : Int64) : ∀ (r : Nat) (k : Nat) (z : Int32 × Int32) (y7 y8 : Option Value) {h : xH}  (W : xCw K h0 h X D tn tf rk rv σ β γ pn τ ks κ φ hn hf hg wn wf wg), k + r = 31 → xT K B l 3 RX11 false cX11_looks 9 (some .int) 0 0 0 0 (xPi (fun zr g => zr = (aqE rv (lkN f r k z)).1 ∧ xCw K h0 g X D tn tf ((aqE rv (lkN f r k z)).2.1) ((aqE rv (lkN f r k z)).2.2) σ β γ pn τ ks κ φ hn hf hg wn wf wg)) 33 [some (.ref X), some (.long f), none, some (.int (lbc f)), some (.int z.1), some (.int z.2), some (.int (nI k)), y7, y8] [] h := by
  intro r
  induction r with
  | zero =>
    intro k z y7 y8 h  W hk
    refine xr_il6 dX11_looks_33 ?_
    refine xr_bipush (v := 30) dX11_looks_35 (by decide) ?_
    refine xr_icmpgt (tgt := 84) dX11_looks_37 (by decide) (fun zc37 => ?_) (fun zc37 => ?_)
    · skip
      refine xr_al0 dX11_looks_84 ?_
      refine xr_get W.oX fX11_19 rfl dX11_looks_85 ?_
      refine xr_il4 dX11_looks_88 ?_
      refine xr_i2l dX11_looks_90 ?_
      refine xr_Vv1 (s_tell1 W.Hr _) kX11_302 (by decide) (Nat.le_of_ble_eq_true rfl) (Nat.zero_add _) (Nat.zero_add _) dX11_looks_91 ?_
      refine xT.nm (fun zh1 zg1 => ?_)
      have W := W.ur (fB2 zg1)
      refine xr_il5 dX11_looks_94 ?_
      refine xr_iret dX11_looks_96 rfl ?_
      exact ⟨_, rfl, rfl, W⟩
    · skip
      exact absurd (nI_lt (a := 30) (by omega) (by omega)) zc37
  | succ r ih =>
    intro k z y7 y8 h  W hk
    refine xr_il6 dX11_looks_33 ?_
    refine xr_bipush (v := 30) dX11_looks_35 (by decide) ?_
    refine xr_icmpgt (tgt := 84) dX11_looks_37 (by decide) (fun zc37 => ?_) (fun zc37 => ?_)
    · skip
      exact absurd zc37 (Int32.not_lt.mpr (nI_le (b := 30) (by omega) (by decide)))
    · skip
      refine xr_ll1 dX11_looks_40 ?_
      refine xr_il6 dX11_looks_41 ?_
      refine xr_Sl1 (s_lawsThatRun _) kX11_412 (by decide) (Nat.le_of_ble_eq_true rfl) (Nat.zero_add _) (Nat.zero_add _) dX11_looks_43 ?_
      refine xr_land dX11_looks_46 ?_
      refine xr_Si1 (s_lbc _) kX11_410 (by decide) (Nat.le_of_ble_eq_true rfl) (Nat.zero_add _) (Nat.zero_add _) dX11_looks_47 ?_
      refine xr_is7 dX11_looks_50 (by decide) rfl ?_
      refine xr_il7 dX11_looks_52 ?_
      refine xr_il3 dX11_looks_54 ?_
      refine xr_il7 dX11_looks_55 ?_
      refine xr_isub dX11_looks_57 ?_
      refine xr_max kmX11_176 ms_max wz_J9 mc_max (by decide) (Nat.le_of_ble_eq_true rfl) dX11_looks_58 ?_
      refine xr_is8 dX11_looks_61 (by decide) rfl ?_
      refine xr_il8 dX11_looks_63 ?_
      refine xr_il4 dX11_looks_65 ?_
      refine xr_icmpge (tgt := 78) dX11_looks_67 (by decide) (fun zc67 => ?_) (fun zc67 => ?_)
      · skip
        refine xr_inc6 dX11_looks_78 (nI_inc k) (by decide) rfl ?_
        refine xr_goto (tgt := 33) dX11_looks_81 (by decide) ?_
        have e : lk1 f k z = _ := if_neg (Int32.not_lt.mpr zc67)
        rw [lkN_s, e]
        exact ih (k + 1) _ _ _ W (by omega)
      · skip
        refine xr_il8 dX11_looks_70 ?_
        refine xr_is4 dX11_looks_72 (by decide) rfl ?_
        refine xr_il6 dX11_looks_74 ?_
        refine xr_is5 dX11_looks_76 (by decide) rfl ?_
        refine xr_inc6 dX11_looks_78 (nI_inc k) (by decide) rfl ?_
        refine xr_goto (tgt := 33) dX11_looks_81 (by decide) ?_
        have e : lk1 f k z = _ := if_pos (Int32.not_le.mp zc67)
        rw [lkN_s, e]
        exact ih (k + 1) _ _ _ W (by omega)
set_option maxRecDepth 20000 in
theorem s_looks {K : xK} {B : Nat} {l : Launch} {h0 h : xH} {X D : Nat} {tn : Nat} {tf : Nat → Int32} {rk : Int32} {rv : Nat → Int64} {σ : xs} {β : xs} {γ : xs} {pn : Nat} {τ : Nat → xs} {ks : Nat → Bool} {κ : Nat → xs} {φ : xs → Int32} {hn : Nat} {hf : Nat → Int32} {hg : Nat → Int32} {wn : Nat} {wf : Nat → Int32} {wg : Nat → Int32} (W : xCw K h0 h X D tn tf rk rv σ β γ pn τ ks κ φ hn hf hg wn wf wg) : xV K B l 3 mX11_looks 0 0 (X) [] h (xPi (fun zr g => zr = (lkR (flN wf wg wn) rk rv).1 ∧ xCw K h0 g X D tn tf ((lkR (flN wf wg wn) rk rv).2.1) ((lkR (flN wf wg wn) rk rv).2.2) σ β γ pn τ ks κ φ hn hf hg wn wf wg)) := by
  refine ⟨⟨_, _, _, _, W.oX, rfl⟩, qX11_looks, ?_⟩
  refine xS.intro RX11 false ⟨rfl, rfl, by decide, by decide, Nat.le_of_ble_eq_true rfl⟩ (ls := [some (.ref X), none, none, none, none, none, none, none, none]) rfl ?_
  refine xr_al0 dX11_looks_0 ?_
  refine xr_get W.oX fX11_76 rfl dX11_looks_1 ?_
  refine xr_Vl0 (s_fittingLaws W.Hi W.pw) kX11_394 (by decide) (Nat.le_of_ble_eq_true rfl) (Nat.zero_add _) (Nat.zero_add _) dX11_looks_4 ?_
  refine xr_ls1 dX11_looks_7 (by decide) rfl ?_
  refine xr_ll1 dX11_looks_8 ?_
  refine xr_lc0 dX11_looks_9 ?_
  refine xr_lcmp dX11_looks_10 ?_
  refine xr_ifne (tgt := 17) dX11_looks_11 (by decide) (fun zc11 => ?_) (fun zc11 => ?_)
  · skip
    refine xr_ll1 dX11_looks_17 ?_
    refine xr_Si1 (s_lbc _) kX11_410 (by decide) (Nat.le_of_ble_eq_true rfl) (Nat.zero_add _) (Nat.zero_add _) dX11_looks_18 ?_
    refine xr_is3 dX11_looks_21 (by decide) rfl ?_
    refine xr_ldcw nX11_339 dX11_looks_22 ?_
    refine xr_is4 dX11_looks_25 (by decide) rfl ?_
    refine xr_ic0 dX11_looks_27 ?_
    refine xr_is5 dX11_looks_28 (by decide) rfl ?_
    refine xr_ic0 dX11_looks_30 ?_
    refine xr_is6 dX11_looks_31 (by decide) rfl ?_
    have e : (lkR (flN wf wg wn) rk rv) = _ := if_neg (fun q => zc11 ((lcmp0 _).mpr q))
    rw [e]
    exact lp_looks (flN wf wg wn) 31 0 (1048576, 0) none none W (by omega)
  · skip
    refine xr_bipush (v := (-2)) dX11_looks_14 (by decide) ?_
    refine xr_iret dX11_looks_16 rfl ?_
    have e : (lkR (flN wf wg wn) rk rv) = _ := if_pos ((lcmp0 _).mp zc11)
    rw [e]
    exact ⟨_, rfl, rfl, W⟩
def lwT (f : Nat → Int32) (n : Nat) : Int32 := if n = 0 then 0 else if f (n - 1) = 0 then 1 else if nI (n % 2) = 0 ∧ f (n / 2) = 0 then nI (n / 2) else 0
set_option maxRecDepth 20000 in
theorem s_leastTake {K : xK} {B : Nat} {l : Launch} {h0 h : xH} {X D : Nat} {tn : Nat} {tf : Nat → Int32} {rk : Int32} {rv : Nat → Int64} {σ : xs} {β : xs} {γ : xs} {pn : Nat} {τ : Nat → xs} {ks : Nat → Bool} {κ : Nat → xs} {φ : xs → Int32} {hn : Nat} {hf : Nat → Int32} {hg : Nat → Int32} {wn : Nat} {wf : Nat → Int32} {wg : Nat → Int32} (W : xCw K h0 h X D tn tf rk rv σ β γ pn τ ks κ φ hn hf hg wn wf wg) {f : Nat → Int32} (Hw : h.2 (X + 38) = some (zA K 201 f)) {n : Nat} (hn2 : n ≤ 200) : xV K B l 0 mX11_leastWinningTake 0 0 (X) [.int (nI n)] h (xQi (lwT f n) h) := by
  refine ⟨⟨_, _, _, _, W.oX, rfl⟩, qX11_leastWinningTake, ?_⟩
  refine xS.intro RX11 false ⟨rfl, rfl, by decide, by decide, Nat.le_of_ble_eq_true rfl⟩ (ls := [some (.ref X), some (.int (nI n))]) rfl ?_
  refine xr_il1 dX11_leastWinningTake_0 ?_
  refine xr_ic1 dX11_leastWinningTake_1 ?_
  refine xr_icmplt (tgt := 12) dX11_leastWinningTake_2 (by decide) (fun zc2 => ?_) (fun zc2 => ?_)
  · skip
    refine xr_ic0 dX11_leastWinningTake_12 ?_
    refine xr_iret dX11_leastWinningTake_13 rfl ?_
    exact ⟨by unfold lwT; rw [if_pos (Nat.eq_zero_of_not_pos (fun q => absurd zc2 (Int32.not_lt.mpr (nI_le (a := 1) q (by omega)))))], rfl⟩
  · skip
    have n0 : ¬ n = 0 := fun q => zc2 (by subst q; decide)
    refine xr_il1 dX11_leastWinningTake_5 ?_
    refine xr_sipush (v := 200) dX11_leastWinningTake_6 (by decide) ?_
    refine xr_icmple (tgt := 14) dX11_leastWinningTake_9 (by decide) (fun zc9 => ?_) (fun zc9 => ?_)
    · skip
      refine xr_al0 dX11_leastWinningTake_14 ?_
      refine xr_get W.oX fX11_103 rfl dX11_leastWinningTake_15 ?_
      refine xr_il1 dX11_leastWinningTake_18 ?_
      refine xr_ic1 dX11_leastWinningTake_19 ?_
      refine xr_isub dX11_leastWinningTake_20 ?_
      refine xr_eqi (y := nI (n - 1)) (nI_sub (a := n) (b := 1) (by omega)) ?_
      refine xr_zald Hw (xix_nI (n := 201) (j := n - 1) (by omega) (by decide)) dX11_leastWinningTake_21 ?_
      refine xr_ifne (tgt := 27) dX11_leastWinningTake_22 (by decide) (fun zc22 => ?_) (fun zc22 => ?_)
      · skip
        refine xr_il1 dX11_leastWinningTake_27 ?_
        refine xr_ic2 dX11_leastWinningTake_28 ?_
        refine xr_irem dX11_leastWinningTake_29 (by decide) ?_
        refine xr_eqi (y := nI (n % 2)) (pk_rem (d := 2) (by omega) (by decide) (by decide)) ?_
        refine xr_ifne (tgt := 50) dX11_leastWinningTake_30 (by decide) (fun zc30 => ?_) (fun zc30 => ?_)
        · skip
          refine xr_ic0 dX11_leastWinningTake_50 ?_
          refine xr_iret dX11_leastWinningTake_51 rfl ?_
          exact ⟨by unfold lwT; rw [if_neg n0, if_neg zc22, if_neg (fun q => zc30 q.1)], rfl⟩
        · skip
          refine xr_al0 dX11_leastWinningTake_33 ?_
          refine xr_get W.oX fX11_103 rfl dX11_leastWinningTake_34 ?_
          refine xr_il1 dX11_leastWinningTake_37 ?_
          refine xr_ic2 dX11_leastWinningTake_38 ?_
          refine xr_idiv dX11_leastWinningTake_39 (by decide) ?_
          refine xr_eqi (y := nI (n / 2)) (pk_div (d := 2) (by omega) (by decide) (by decide)) ?_
          refine xr_zald Hw (xix_nI (n := 201) (j := n / 2) (by omega) (by decide)) dX11_leastWinningTake_40 ?_
          refine xr_ifne (tgt := 50) dX11_leastWinningTake_41 (by decide) (fun zc41 => ?_) (fun zc41 => ?_)
          · skip
            refine xr_ic0 dX11_leastWinningTake_50 ?_
            refine xr_iret dX11_leastWinningTake_51 rfl ?_
            exact ⟨by unfold lwT; rw [if_neg n0, if_neg zc22, if_neg (fun q => zc41 q.2)], rfl⟩
          · skip
            refine xr_il1 dX11_leastWinningTake_44 ?_
            refine xr_ic2 dX11_leastWinningTake_45 ?_
            refine xr_idiv dX11_leastWinningTake_46 (by decide) ?_
            refine xr_eqi (y := nI (n / 2)) (pk_div (d := 2) (by omega) (by decide) (by decide)) ?_
            refine xr_goto (tgt := 51) dX11_leastWinningTake_47 (by decide) ?_
            refine xr_iret dX11_leastWinningTake_51 rfl ?_
            exact ⟨by unfold lwT; rw [if_neg n0, if_neg zc22, if_pos ⟨zc30, zc41⟩], rfl⟩
      · skip
        refine xr_ic1 dX11_leastWinningTake_25 ?_
        refine xr_iret dX11_leastWinningTake_26 rfl ?_
        exact ⟨by unfold lwT; rw [if_neg n0, if_pos zc22], rfl⟩
    · skip
      exact absurd (nI_le (b := 200) hn2 (by decide)) zc9
def plN : Nat → Nat → (Nat → Int32) → Nat → Int32
  | 0, _, f => f
  | r + 1, k, f => plN r (k + 1) (upd f k (vp_nar .boolean (if lwT f k ≤ 0 then 0 else 1)))
theorem plN_s (r k : Nat) (f : Nat → Int32) : plN (r + 1) k f = plN r (k + 1) (upd f k (vp_nar .boolean (if lwT f k ≤ 0 then 0 else 1))) := rfl
def plE (rv : Nat → Int64) (t : Int32) : AR := if t = 0 then (0, 0, rv) else (1, 1, tl1 rv t)
def plR (f : Nat → Int32) (rk : Int32) (rv : Nat → Int64) (x : Int32) : AR := if x < 0 ∨ 200 < x then (-1, rk, rv) else plE rv (lwT (plN x.toNatClampNeg 1 (upd f 0 (vp_nar .boolean 0))) x.toNatClampNeg)
set_option maxRecDepth 20000 in
theorem lp_pails {K : xK} {B : Nat} {l : Launch} {h0 : xH} {X D : Nat} {tn : Nat} {tf : Nat → Int32} {rk : Int32} {rv : Nat → Int64} {σ : xs} {β : xs} {γ : xs} {pn : Nat} {τ : Nat → xs} {ks : Nat → Bool} {κ : Nat → xs} {φ : xs → Int32} {hn : Nat} {hf : Nat → Int32} {hg : Nat → Int32} {wn : Nat} {wf : Nat → Int32} {wg : Nat → Int32} (N : Nat) (hN : N ≤ 200) : ∀ (r : Nat) (k : Nat) {h : xH} {f : Nat → Int32} (W : xCw K h0 h X D tn tf rk rv σ β γ pn τ ks κ φ hn hf hg wn wf wg) (Hw : h.2 (X + 38) = some (zA K 201 f)), k + r = N + 1 → xT K B l 1 RX11 false cX11_pails 3 (some .int) 0 0 0 0 (xPi (fun zr g => zr = (plE rv (lwT (plN r k f) N)).1 ∧ xCw K h0 g X D tn tf ((plE rv (lwT (plN r k f) N)).2.1) ((plE rv (lwT (plN r k f) N)).2.2) σ β γ pn τ ks κ φ hn hf hg wn wf wg)) 22 [some (.ref X), some (.int (nI N)), some (.int (nI k))] [] h := by
  intro r
  induction r with
  | zero =>
    intro k h f W Hw hk
    refine xr_il2 dX11_pails_22 ?_
    refine xr_il1 dX11_pails_23 ?_
    refine xr_icmpgt (tgt := 52) dX11_pails_24 (by decide) (fun zc24 => ?_) (fun zc24 => ?_)
    · skip
      refine xr_al0 dX11_pails_52 ?_
      refine xr_il1 dX11_pails_53 ?_
      refine xr_Vi1 (s_leastTake W Hw (n := N) (by omega)) kX11_416 (by decide) (Nat.le_of_ble_eq_true rfl) (Nat.zero_add _) (Nat.zero_add _) dX11_pails_54 ?_
      refine xr_is2 dX11_pails_57 (by decide) rfl ?_
      refine xr_il2 dX11_pails_58 ?_
      refine xr_ifne (tgt := 71) dX11_pails_59 (by decide) (fun zc59 => ?_) (fun zc59 => ?_)
      · skip
        refine xr_al0 dX11_pails_71 ?_
        refine xr_get W.oX fX11_19 rfl dX11_pails_72 ?_
        refine xr_il2 dX11_pails_75 ?_
        refine xr_i2l dX11_pails_76 ?_
        refine xr_Vv1 (s_tell1 W.Hr _) kX11_302 (by decide) (Nat.le_of_ble_eq_true rfl) (Nat.zero_add _) (Nat.zero_add _) dX11_pails_77 ?_
        refine xT.nm (fun zh1 zg1 => ?_)
        have W := W.ur (fB2 zg1)
        refine xr_ic1 dX11_pails_80 ?_
        refine xr_iret dX11_pails_81 rfl ?_
        have e : (plE rv (lwT (plN 0 k f) N)) = _ := if_neg zc59
        rw [e]
        exact ⟨_, rfl, rfl, W⟩
      · skip
        refine xr_al0 dX11_pails_62 ?_
        refine xr_get W.oX fX11_19 rfl dX11_pails_63 ?_
        refine xr_Vv0 (s_tell0 W.Hr) kX11_346 (by decide) (Nat.le_of_ble_eq_true rfl) (Nat.zero_add _) (Nat.zero_add _) dX11_pails_66 ?_
        refine xT.nm (fun zh1 zg1 => ?_)
        have W := W.ur (fB2 zg1)
        refine xr_ic0 dX11_pails_69 ?_
        refine xr_iret dX11_pails_70 rfl ?_
        have e : (plE rv (lwT (plN 0 k f) N)) = _ := if_pos zc59
        rw [e]
        exact ⟨_, rfl, rfl, W⟩
    · skip
      exact absurd (nI_lt (a := N) (by omega) (by omega)) zc24
  | succ r ih =>
    intro k h f W Hw hk
    refine xr_il2 dX11_pails_22 ?_
    refine xr_il1 dX11_pails_23 ?_
    refine xr_icmpgt (tgt := 52) dX11_pails_24 (by decide) (fun zc24 => ?_) (fun zc24 => ?_)
    · skip
      exact absurd zc24 (Int32.not_lt.mpr (nI_le (by omega) (by omega)))
    · skip
      refine xr_al0 dX11_pails_27 ?_
      refine xr_get W.oX fX11_103 rfl dX11_pails_28 ?_
      refine xr_il2 dX11_pails_31 ?_
      refine xr_al0 dX11_pails_32 ?_
      refine xr_il2 dX11_pails_33 ?_
      refine xr_Vi1 (s_leastTake W Hw (n := k) (by omega)) kX11_416 (by decide) (Nat.le_of_ble_eq_true rfl) (Nat.zero_add _) (Nat.zero_add _) dX11_pails_34 ?_
      refine xr_ifle (tgt := 44) dX11_pails_37 (by decide) (fun zc37 => ?_) (fun zc37 => ?_)
      · skip
        refine xr_ic0 dX11_pails_44 ?_
        refine xr_zast Hw (xix_nI (n := 201) (j := k) (by omega) (by decide)) dX11_pails_45 ?_
        refine xT.nm (fun zh1 zg1 => ?_)
        have Hw := (fB1 zg1).2.2
        have W := W.uw ⟨(fB1 zg1).1, (fB1 zg1).2.1, ⟨_, (fB1 zg1).2.2⟩⟩
        refine xr_inc2 dX11_pails_46 (nI_inc k) (by decide) rfl ?_
        refine xr_goto (tgt := 22) dX11_pails_49 (by decide) ?_
        rw [plN_s, if_pos zc37]
        exact ih (k + 1) W Hw (by omega)
      · skip
        refine xr_ic1 dX11_pails_40 ?_
        refine xr_goto (tgt := 45) dX11_pails_41 (by decide) ?_
        refine xr_zast Hw (xix_nI (n := 201) (j := k) (by omega) (by decide)) dX11_pails_45 ?_
        refine xT.nm (fun zh1 zg1 => ?_)
        have Hw := (fB1 zg1).2.2
        have W := W.uw ⟨(fB1 zg1).1, (fB1 zg1).2.1, ⟨_, (fB1 zg1).2.2⟩⟩
        refine xr_inc2 dX11_pails_46 (nI_inc k) (by decide) rfl ?_
        refine xr_goto (tgt := 22) dX11_pails_49 (by decide) ?_
        rw [plN_s, if_neg zc37]
        exact ih (k + 1) W Hw (by omega)
set_option maxRecDepth 20000 in
theorem s_pails {K : xK} {B : Nat} {l : Launch} {h0 h : xH} {X D : Nat} {tn : Nat} {tf : Nat → Int32} {rk : Int32} {rv : Nat → Int64} {σ : xs} {β : xs} {γ : xs} {pn : Nat} {τ : Nat → xs} {ks : Nat → Bool} {κ : Nat → xs} {φ : xs → Int32} {hn : Nat} {hf : Nat → Int32} {hg : Nat → Int32} {wn : Nat} {wf : Nat → Int32} {wg : Nat → Int32} (W : xCw K h0 h X D tn tf rk rv σ β γ pn τ ks κ φ hn hf hg wn wf wg) (x : Int32) : xV K B l 1 mX11_pails 0 0 (X) [.int x] h (xPi (fun zr g => ∃ f : Nat → Int32, zr = (plR f rk rv x).1 ∧ xCw K h0 g X D tn tf ((plR f rk rv x).2.1) ((plR f rk rv x).2.2) σ β γ pn τ ks κ φ hn hf hg wn wf wg)) := by
  refine ⟨⟨_, _, _, _, W.oX, rfl⟩, qX11_pails, ?_⟩
  refine xS.intro RX11 false ⟨rfl, rfl, by decide, by decide, Nat.le_of_ble_eq_true rfl⟩ (ls := [some (.ref X), some (.int x), none]) rfl ?_
  refine xr_il1 dX11_pails_0 ?_
  refine xr_iflt (tgt := 11) dX11_pails_1 (by decide) (fun zc1 => ?_) (fun zc1 => ?_)
  · skip
    refine xr_icm1 dX11_pails_11 ?_
    refine xr_iret dX11_pails_12 rfl ?_
    have e : (plR (fun _ => 0) rk rv x) = _ := if_pos (Or.inl zc1)
    refine ⟨_, rfl, fun _ => 0, ?_⟩
    rw [e]
    exact ⟨rfl, W⟩
  · skip
    refine xr_il1 dX11_pails_4 ?_
    refine xr_sipush (v := 200) dX11_pails_5 (by decide) ?_
    refine xr_icmple (tgt := 13) dX11_pails_8 (by decide) (fun zc8 => ?_) (fun zc8 => ?_)
    · skip
      obtain ⟨f, Hw⟩ := W.Hw
      refine xr_al0 dX11_pails_13 ?_
      refine xr_get W.oX fX11_103 rfl dX11_pails_14 ?_
      refine xr_ic0 dX11_pails_17 ?_
      refine xr_ic0 dX11_pails_18 ?_
      refine xr_zast Hw (xix_lit (j := 0) (by decide)) dX11_pails_19 ?_
      refine xT.nm (fun zh1 zg1 => ?_)
      have Hw := (fB1 zg1).2.2
      have W := W.uw ⟨(fB1 zg1).1, (fB1 zg1).2.1, ⟨_, (fB1 zg1).2.2⟩⟩
      refine xr_ic1 dX11_pails_20 ?_
      refine xr_is2 dX11_pails_21 (by decide) rfl ?_
      rcases pk_ix x (n := 201) (by decide) with z | z | ⟨N, hN, rfl⟩
      · exact absurd z zc1
      · exact absurd (Int32.le_trans z zc8) (by decide)
      · have e : (plR f rk rv (nI N)) = _ := if_neg (fun q => q.elim zc1 (Int32.not_lt.mpr zc8))
        rw [nI_clamp (by omega)] at e
        refine xT.post (fun r g q => ?_) (lp_pails N (by omega) N 1 W Hw (by omega))
        obtain ⟨v, q1, q2⟩ := q
        exact ⟨v, q1, f, by rw [e]; exact q2⟩
    · skip
      refine xr_icm1 dX11_pails_11 ?_
      refine xr_iret dX11_pails_12 rfl ?_
      have e : (plR (fun _ => 0) rk rv x) = _ := if_pos (Or.inr (Int32.not_le.mp zc8))
      refine ⟨_, rfl, fun _ => 0, ?_⟩
      rw [e]
      exact ⟨rfl, W⟩
def skd (a b v : Int32) : Int32 := if v - a - b < 0 then a / 2 - 1 else a + (v - a - b) / 4
def ibN (a b v : Int32) : Nat → Nat → Int32
  | 0, _ => 1
  | r + 1, k => if skd (nI k) b v ≤ skd a b v then ibN a b v r (k + 1) else 0
theorem ibN_s (a b v : Int32) (r k : Nat) : ibN a b v (r + 1) k = if skd (nI k) b v ≤ skd a b v then ibN a b v r (k + 1) else 0 := rfl
theorem ibN_n (a b v : Int32) : ∀ r k, narrow .boolean (.int (ibN a b v r k)) = .int (ibN a b v r k) := by
  intro r
  induction r with
  | zero =>
    intro k
    show narrow .boolean (.int 1) = .int 1
    rfl
  | succ r ih =>
    intro k
    rw [ibN_s]
    split
    · exact ih (k + 1)
    · rfl
set_option maxRecDepth 20000 in
theorem s_soaked {K : xK} {B : Nat} {l : Launch} {h : xH} (a b v : Int32) : xU K B l 0 mX11_soaked 0 0 [.int a, .int b, .int v] h (xQi (skd a b v) h) := by
  refine ⟨qX11_soaked, ?_⟩
  refine xS.intro RX11 false ⟨rfl, rfl, by decide, by decide, Nat.le_of_ble_eq_true rfl⟩ (ls := [some (.int a), some (.int b), some (.int v), none]) rfl ?_
  refine xr_il2 dX11_soaked_0 ?_
  refine xr_il0 dX11_soaked_1 ?_
  refine xr_isub dX11_soaked_2 ?_
  refine xr_il1 dX11_soaked_3 ?_
  refine xr_isub dX11_soaked_4 ?_
  refine xr_is3 dX11_soaked_5 (by decide) rfl ?_
  refine xr_il3 dX11_soaked_6 ?_
  refine xr_iflt (tgt := 18) dX11_soaked_7 (by decide) (fun zc7 => ?_) (fun zc7 => ?_)
  · skip
    refine xr_il0 dX11_soaked_18 ?_
    refine xr_ic2 dX11_soaked_19 ?_
    refine xr_idiv dX11_soaked_20 (by decide) ?_
    refine xr_ic1 dX11_soaked_21 ?_
    refine xr_isub dX11_soaked_22 ?_
    refine xr_iret dX11_soaked_23 rfl ?_
    exact ⟨by unfold skd; rw [if_pos zc7], rfl⟩
  · skip
    refine xr_il0 dX11_soaked_10 ?_
    refine xr_il3 dX11_soaked_11 ?_
    refine xr_ic4 dX11_soaked_12 ?_
    refine xr_idiv dX11_soaked_13 (by decide) ?_
    refine xr_iadd dX11_soaked_14 ?_
    refine xr_goto (tgt := 23) dX11_soaked_15 (by decide) ?_
    refine xr_iret dX11_soaked_23 rfl ?_
    exact ⟨by unfold skd; rw [if_neg zc7], rfl⟩
set_option maxRecDepth 20000 in
theorem lp_isBest {K : xK} {B : Nat} {l : Launch} {h : xH} (a b v : Int32) : ∀ (r k : Nat), k + r = 10 → xT K B l 1 RX11 false cX11_isBestAgainst 5 (some .boolean) 0 0 0 0 (xQi (ibN a b v r k) h) 10 [some (.int a), some (.int b), some (.int v), some (.int (skd a b v)), some (.int (nI k))] [] h := by
  intro r
  induction r with
  | zero =>
    intro k hk
    refine xr_il4 dX11_isBestAgainst_10 ?_
    refine xr_bipush (v := 9) dX11_isBestAgainst_12 (by decide) ?_
    refine xr_icmpgt (tgt := 36) dX11_isBestAgainst_14 (by decide) (fun zc14 => ?_) (fun zc14 => ?_)
    · skip
      refine xr_ic1 dX11_isBestAgainst_36 ?_
      refine xr_zret dX11_isBestAgainst_37 rfl (by first | rfl | decide | assumption) ?_
      exact ⟨rfl, rfl⟩
    · skip
      exact absurd (nI_lt (a := 9) (by omega) (by omega)) zc14
  | succ r ih =>
    intro k hk
    refine xr_il4 dX11_isBestAgainst_10 ?_
    refine xr_bipush (v := 9) dX11_isBestAgainst_12 (by decide) ?_
    refine xr_icmpgt (tgt := 36) dX11_isBestAgainst_14 (by decide) (fun zc14 => ?_) (fun zc14 => ?_)
    · skip
      exact absurd zc14 (Int32.not_lt.mpr (nI_le (b := 9) (by omega) (by decide)))
    · skip
      refine xr_il4 dX11_isBestAgainst_17 ?_
      refine xr_il1 dX11_isBestAgainst_19 ?_
      refine xr_il2 dX11_isBestAgainst_20 ?_
      refine xr_Si3 (s_soaked _ _ _) kX11_423 (by decide) (Nat.le_of_ble_eq_true rfl) (Nat.zero_add _) (Nat.zero_add _) dX11_isBestAgainst_21 ?_
      refine xr_il3 dX11_isBestAgainst_24 ?_
      refine xr_icmple (tgt := 30) dX11_isBestAgainst_25 (by decide) (fun zc25 => ?_) (fun zc25 => ?_)
      · skip
        refine xr_inc4 dX11_isBestAgainst_30 (nI_inc k) (by decide) rfl ?_
        refine xr_goto (tgt := 10) dX11_isBestAgainst_33 (by decide) ?_
        rw [ibN_s, if_pos zc25]
        exact ih (k + 1) (by omega)
      · skip
        refine xr_ic0 dX11_isBestAgainst_28 ?_
        refine xr_zret dX11_isBestAgainst_29 rfl (by first | rfl | decide | assumption) ?_
        exact ⟨by rw [ibN_s, if_neg zc25], rfl⟩
set_option maxRecDepth 20000 in
theorem s_isBest {K : xK} {B : Nat} {l : Launch} {h : xH} (a b v : Int32) : xU K B l 1 mX11_isBestAgainst 0 0 [.int a, .int b, .int v] h (xQi (ibN a b v 10 0) h) := by
  refine ⟨qX11_isBestAgainst, ?_⟩
  refine xS.intro RX11 false ⟨rfl, rfl, by decide, by decide, Nat.le_of_ble_eq_true rfl⟩ (ls := [some (.int a), some (.int b), some (.int v), none, none]) rfl ?_
  refine xr_il0 dX11_isBestAgainst_0 ?_
  refine xr_il1 dX11_isBestAgainst_1 ?_
  refine xr_il2 dX11_isBestAgainst_2 ?_
  refine xr_Si3 (s_soaked _ _ _) kX11_423 (by decide) (Nat.le_of_ble_eq_true rfl) (Nat.zero_add _) (Nat.zero_add _) dX11_isBestAgainst_3 ?_
  refine xr_is3 dX11_isBestAgainst_6 (by decide) rfl ?_
  refine xr_ic0 dX11_isBestAgainst_7 ?_
  refine xr_is4 dX11_isBestAgainst_8 (by decide) rfl ?_
  exact lp_isBest a b v 10 0 (by omega)
def re1 (v : Int32) (k : Nat) (z : Int32 × Int32) : Int32 × Int32 := if ibN (nI k / 10) (remI (nI k) 10) v 10 0 = 0 then z else if ibN (remI (nI k) 10) (nI k / 10) v 10 0 = 0 then z else (z.1 + 1, nI k)
def reN (v : Int32) : Nat → Int32 × Int32 → Int32 × Int32
  | 0, z => z
  | r + 1, z => reN v r (re1 v r z)
theorem reN_s (v : Int32) (r : Nat) (z : Int32 × Int32) : reN v (r + 1) z = reN v r (re1 v r z) := rfl
def reE (rv : Nat → Int64) (z : Int32 × Int32) : AR := if z.1 = 0 then (z.1, 0, rv) else (z.1, 2, tl2 rv (z.2 / 10) (remI z.2 10))
def reR (rk : Int32) (rv : Nat → Int64) (v : Int32) : AR := if v < 0 ∨ 20 < v then (-1, rk, rv) else reE rv (reN v 100 (0, 0))
set_option maxRecDepth 20000 in
theorem lp_rests {K : xK} {B : Nat} {l : Launch} {h0 : xH} {X D : Nat} {tn : Nat} {tf : Nat → Int32} {rk : Int32} {rv : Nat → Int64} {σ : xs} {β : xs} {γ : xs} {pn : Nat} {τ : Nat → xs} {ks : Nat → Bool} {κ : Nat → xs} {φ : xs → Int32} {hn : Nat} {hf : Nat → Int32} {hg : Nat → Int32} {wn : Nat} {wf : Nat → Int32} {wg : Nat → Int32} (v : Int32) : ∀ (r : Nat) (z : Int32 × Int32) (y5 y6 : Option Value) {h : xH}  (W : xCw K h0 h X D tn tf rk rv σ β γ pn τ ks κ φ hn hf hg wn wf wg), r ≤ 100 → xT K B l 2 RX11 false cX11_rests 7 (some .int) 0 0 0 0 (xPi (fun zr g => zr = (reE rv (reN v r z)).1 ∧ xCw K h0 g X D tn tf ((reE rv (reN v r z)).2.1) ((reE rv (reN v r z)).2.2) σ β γ pn τ ks κ φ hn hf hg wn wf wg)) 20 [some (.ref X), some (.int v), some (.int z.1), some (.int z.2), some (.int (nI r + Int32.ofInt (-1))), y5, y6] [] h := by
  intro r
  induction r with
  | zero =>
    intro z y5 y6 h  W hk
    refine xr_il4 dX11_rests_20 ?_
    refine xr_iflt (tgt := 73) dX11_rests_22 (by decide) (fun zc22 => ?_) (fun zc22 => ?_)
    · skip
      refine xr_il2 dX11_rests_73 ?_
      refine xr_ifne (tgt := 87) dX11_rests_74 (by decide) (fun zc74 => ?_) (fun zc74 => ?_)
      · skip
        refine xr_al0 dX11_rests_87 ?_
        refine xr_get W.oX fX11_19 rfl dX11_rests_88 ?_
        refine xr_il3 dX11_rests_91 ?_
        refine xr_bipush (v := 10) dX11_rests_92 (by decide) ?_
        refine xr_idiv dX11_rests_94 (by decide) ?_
        refine xr_i2l dX11_rests_95 ?_
        refine xr_il3 dX11_rests_96 ?_
        refine xr_bipush (v := 10) dX11_rests_97 (by decide) ?_
        refine xr_irem dX11_rests_99 (by decide) ?_
        refine xr_i2l dX11_rests_100 ?_
        refine xr_Vv2 (s_tell2 W.Hr _ _) kX11_236 (by decide) (Nat.le_of_ble_eq_true rfl) (Nat.zero_add _) (Nat.zero_add _) dX11_rests_101 ?_
        refine xT.nm (fun zh1 zg1 => ?_)
        have W := W.ur (fB2 zg1)
        refine xr_il2 dX11_rests_104 ?_
        refine xr_iret dX11_rests_105 rfl ?_
        have e : (reE rv (reN v 0 z)) = _ := if_neg zc74
        rw [e]
        exact ⟨_, rfl, rfl, W⟩
      · skip
        refine xr_al0 dX11_rests_77 ?_
        refine xr_get W.oX fX11_19 rfl dX11_rests_78 ?_
        refine xr_Vv0 (s_tell0 W.Hr) kX11_346 (by decide) (Nat.le_of_ble_eq_true rfl) (Nat.zero_add _) (Nat.zero_add _) dX11_rests_81 ?_
        refine xT.nm (fun zh1 zg1 => ?_)
        have W := W.ur (fB2 zg1)
        refine xr_goto (tgt := 104) dX11_rests_84 (by decide) ?_
        refine xr_il2 dX11_rests_104 ?_
        refine xr_iret dX11_rests_105 rfl ?_
        have e : (reE rv (reN v 0 z)) = _ := if_pos zc74
        rw [e]
        exact ⟨_, rfl, rfl, W⟩
    · skip
      exact absurd (by decide) zc22
  | succ r ih =>
    intro z y5 y6 h  W hk
    have hgo : xT K B l 2 RX11 false cX11_rests 7 (some .int) 0 0 0 0 (xPi (fun zr g => zr = (reE rv (reN v (r + 1) z)).1 ∧ xCw K h0 g X D tn tf ((reE rv (reN v (r + 1) z)).2.1) ((reE rv (reN v (r + 1) z)).2.2) σ β γ pn τ ks κ φ hn hf hg wn wf wg)) 20 [some (.ref X), some (.int v), some (.int z.1), some (.int z.2), some (.int (nI r)), y5, y6] [] h := by
      refine xr_il4 dX11_rests_20 ?_
      refine xr_iflt (tgt := 73) dX11_rests_22 (by decide) (fun zc22 => ?_) (fun zc22 => ?_)
      · skip
        exact absurd zc22 (nI_pos (by omega))
      · skip
        refine xr_il4 dX11_rests_25 ?_
        refine xr_bipush (v := 10) dX11_rests_27 (by decide) ?_
        refine xr_idiv dX11_rests_29 (by decide) ?_
        refine xr_is5 dX11_rests_30 (by decide) rfl ?_
        refine xr_il4 dX11_rests_32 ?_
        refine xr_bipush (v := 10) dX11_rests_34 (by decide) ?_
        refine xr_irem dX11_rests_36 (by decide) ?_
        refine xr_is6 dX11_rests_37 (by decide) rfl ?_
        refine xr_il5 dX11_rests_39 ?_
        refine xr_il6 dX11_rests_41 ?_
        refine xr_il1 dX11_rests_43 ?_
        refine xr_Si3 (s_isBest _ _ _) kX11_419 (by decide) (Nat.le_of_ble_eq_true rfl) (Nat.zero_add _) (Nat.zero_add _) dX11_rests_44 ?_
        refine xr_ifeq (tgt := 67) dX11_rests_47 (by decide) (fun zc47 => ?_) (fun zc47 => ?_)
        · skip
          refine xr_inc4 dX11_rests_67 rfl (by decide) rfl ?_
          refine xr_goto (tgt := 20) dX11_rests_70 (by decide) ?_
          have e : re1 v r z = _ := if_pos zc47
          rw [reN_s, e]
          exact ih _ _ _ W (by omega)
        · skip
          refine xr_il6 dX11_rests_50 ?_
          refine xr_il5 dX11_rests_52 ?_
          refine xr_il1 dX11_rests_54 ?_
          refine xr_Si3 (s_isBest _ _ _) kX11_419 (by decide) (Nat.le_of_ble_eq_true rfl) (Nat.zero_add _) (Nat.zero_add _) dX11_rests_55 ?_
          refine xr_ifeq (tgt := 67) dX11_rests_58 (by decide) (fun zc58 => ?_) (fun zc58 => ?_)
          · skip
            refine xr_inc4 dX11_rests_67 rfl (by decide) rfl ?_
            refine xr_goto (tgt := 20) dX11_rests_70 (by decide) ?_
            have e : re1 v r z = _ := (if_neg zc47).trans (if_pos zc58)
            rw [reN_s, e]
            exact ih _ _ _ W (by omega)
          · skip
            refine xr_inc2 dX11_rests_61 (show z.1 + Int32.ofInt 1 = z.1 + 1 from rfl) (by decide) rfl ?_
            refine xr_il4 dX11_rests_64 ?_
            refine xr_is3 dX11_rests_66 (by decide) rfl ?_
            refine xr_inc4 dX11_rests_67 rfl (by decide) rfl ?_
            refine xr_goto (tgt := 20) dX11_rests_70 (by decide) ?_
            have e : re1 v r z = _ := (if_neg zc47).trans (if_neg zc58)
            rw [reN_s, e]
            exact ih _ _ _ W (by omega)
    have e0 := nI_dec (t := r + 1) (by omega)
    rw [Nat.add_sub_cancel] at e0
    rw [e0]
    exact hgo
set_option maxRecDepth 20000 in
theorem s_rests {K : xK} {B : Nat} {l : Launch} {h0 h : xH} {X D : Nat} {tn : Nat} {tf : Nat → Int32} {rk : Int32} {rv : Nat → Int64} {σ : xs} {β : xs} {γ : xs} {pn : Nat} {τ : Nat → xs} {ks : Nat → Bool} {κ : Nat → xs} {φ : xs → Int32} {hn : Nat} {hf : Nat → Int32} {hg : Nat → Int32} {wn : Nat} {wf : Nat → Int32} {wg : Nat → Int32} (W : xCw K h0 h X D tn tf rk rv σ β γ pn τ ks κ φ hn hf hg wn wf wg) (x : Int32) : xV K B l 2 mX11_rests 0 0 (X) [.int x] h (xPi (fun zr g => zr = (reR rk rv x).1 ∧ xCw K h0 g X D tn tf ((reR rk rv x).2.1) ((reR rk rv x).2.2) σ β γ pn τ ks κ φ hn hf hg wn wf wg)) := by
  refine ⟨⟨_, _, _, _, W.oX, rfl⟩, qX11_rests, ?_⟩
  refine xS.intro RX11 false ⟨rfl, rfl, by decide, by decide, Nat.le_of_ble_eq_true rfl⟩ (ls := [some (.ref X), some (.int x), none, none, none, none, none]) rfl ?_
  refine xr_il1 dX11_rests_0 ?_
  refine xr_iflt (tgt := 10) dX11_rests_1 (by decide) (fun zc1 => ?_) (fun zc1 => ?_)
  · skip
    refine xr_icm1 dX11_rests_10 ?_
    refine xr_iret dX11_rests_11 rfl ?_
    have e : (reR rk rv x) = _ := if_pos (Or.inl zc1)
    rw [e]
    exact ⟨_, rfl, rfl, W⟩
  · skip
    refine xr_il1 dX11_rests_4 ?_
    refine xr_bipush (v := 20) dX11_rests_5 (by decide) ?_
    refine xr_icmple (tgt := 12) dX11_rests_7 (by decide) (fun zc7 => ?_) (fun zc7 => ?_)
    · skip
      refine xr_ic0 dX11_rests_12 ?_
      refine xr_is2 dX11_rests_13 (by decide) rfl ?_
      refine xr_ic0 dX11_rests_14 ?_
      refine xr_is3 dX11_rests_15 (by decide) rfl ?_
      refine xr_bipush (v := 99) dX11_rests_16 (by decide) ?_
      refine xr_is4 dX11_rests_18 (by decide) rfl ?_
      have e : (reR rk rv x) = _ := if_neg (fun q => q.elim zc1 (Int32.not_lt.mpr zc7))
      rw [e]
      exact lp_rests x 100 (0, 0) none none W (by omega)
    · skip
      refine xr_icm1 dX11_rests_10 ?_
      refine xr_iret dX11_rests_11 rfl ?_
      have e : (reR rk rv x) = _ := if_pos (Or.inr (Int32.not_le.mp zc7))
      rw [e]
      exact ⟨_, rfl, rfl, W⟩
