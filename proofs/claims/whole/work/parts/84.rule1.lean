/-! The model's reader of rules beside the class's (written by wip/whole/mod42.py) -/
def alM (m : xs) (u : Nat → Nat → Int32) (c : Int32) : Int32 := if m 16 = 0 then 0 else u 8 (mLet c).toNatClampNeg
def rOut (K : xK) (h0 : xH) (Y : Nat) (m : xs) (ru ot q tn : Nat) (u : Nat → Nat → Int32) (v : Nat → Int64) (tf : xs) (n e : Nat) (sc : Nat → Nat → Prop) (sh ou : List Int32) (p d C : Nat) (zr : Int32) (g : xH) : Prop :=
  (∃ (sh' ou' : List Int32) (p' C' : Nat), p < p' ∧ p' ≤ min tn 40 ∧ C' < 32 ∧ (∀ j, j < e → C'.testBit j = C.testBit j) ∧ Rn tf tn (sh, ou, p, d, nI C, 1) = Rn tf tn (sh', ou', p', d, nI C', 0) ∧ Rel n (alM m u) sh ou sh' ou' zr ∧ sc p' C' ∧ xMw K h0 g Y (rdm m p' (-1)) (.ref (Y + q)) ru ot u v) ∨ (∃ b p' : Nat, b ≤ 80 ∧ p' ≤ 80 ∧ (rdF tn (Rn tf tn (sh, ou, p, d, nI C, 1))).1 = nI b ∧ xMw K h0 g Y (rdm m p' (nI b)) (.ref (Y + q)) ru ot u v)
def rMet (K : xK) (B : Nat) (l : Launch) (h0 : xH) (Y : Nat) (m : xs) (ru ot q tn : Nat) (u : Nat → Nat → Int32) (v : Nat → Int64) (tf : xs) (M : xM) (n : Nat) (ex : Nat → Nat) (pre : List Int32 → Nat → Nat → Prop) (sc : Nat → Nat → Nat → Prop) (N F : Nat) : Prop :=
  ∀ (h : xH) (sh ou : List Int32) (p d C : Nat), p ≤ min tn 40 → min tn 40 - p ≤ N → d ≤ 4 → C < 32 → pre sh d C → xMw K h0 h Y (rdm m p (-1)) (.ref (Y + q)) ru ot u v → xV K B l F M 0 0 Y [.int (nI d)] h (xPi (fun zr g => rOut K h0 Y m ru ot q tn u v tf n (ex d) (sc d) sh ou p d C zr g))
def scP (x : xs) (tn : Nat) (_ p _ : Nat) : Prop := ¬ hrV x p tn 40 = 42 ∧ ¬ hrV x p tn 40 = 47
def scS (x : xs) (tn : Nat) (_ p _ : Nat) : Prop := (¬ hrV x p tn 40 = 42 ∧ ¬ hrV x p tn 40 = 47) ∧ ¬ hrV x p tn 40 = 43 ∧ ¬ hrV x p tn 40 = 45
def scH (x : xs) (tn : Nat) (d p C : Nat) : Prop := jn (hrV x p tn 40) = 0 ∨ (C.testBit d = true ∧ tg (0 - hrV x p tn 40) = 1)
theorem gs_sl {x tf : xs} {tn p : Nat} (h80 : tn ≤ 80) (T0 : ∀ j, j < tn → x j &&& 255 = tf j ∧ byt (x j)) (h : p < min tn 40) : slAt tf (nI tn) (nI p) = hrV x p tn 40 := by
  rw [sg_n h80 (by omega), hr_in T0 (by omega) (by omega)]
theorem gs_lt {x : xs} {tn p : Nat} (h : ¬ hrV x p tn 40 = -1) : p < min tn 40 := by
  have q : p < tn ∧ p < 40 := Decidable.not_not.mp (fun z => h (hr_out z))
  omega
/-- a join is taken -/
theorem stp_join {x tf : xs} {tn : Nat} (h80 : tn ≤ 80) (T0 : ∀ j, j < tn → x j &&& 255 = tf j ∧ byt (x j)) {sh1 ou1 sh o1 : List Int32} {p d C : Nat} {y : Int32} {k : Nat} (hy : hrV x p tn 40 = y) (hj : y = 42 ∨ y = 43 ∨ y = 45 ∨ y = 47) (hk : tg (0 - y) = nI k) (k1 : ¬ nI k = 1) (hb : bbk (nI k) sh1 ou1 = (sh, o1)) : Rn tf tn (sh1, ou1, p, d, nI C, 0) = Rn tf tn ((0 - y) :: sh, o1, p + 1, d, nI C, 1) := by
  have pl : p < min tn 40 := gs_lt (x := x) (by rw [hy]; rcases hj with rfl | rfl | rfl | rfl <;> decide)
  refine Rn_step pl ?_
  unfold stp
  rw [if_pos (show ((sh1, ou1, p, d, nI C, (0 : Int32)) : RS).2.2.2.2.2 = 0 from rfl)]
  show tkJ (slAt tf (nI tn) (nI p)) (sh1, ou1, p, d, nI C, 0) = _
  rw [gs_sl h80 T0 pl, hy]
  unfold tkJ
  dsimp only
  rw [if_neg (by rcases hj with rfl | rfl | rfl | rfl <;> exact fun q => absurd q.1 (by decide)), hk, if_pos ⟨by rcases hj with rfl | rfl | rfl | rfl <;> decide, fun q => k1 q.1⟩, hb, if_neg k1, Int32.or_zero]
theorem dg_in {x : Int32} : (¬ mIn x (nI 48) (nI 48 + nI 10 - 1) = 0) ↔ dg x := by
  have e : nI 48 + nI 10 - 1 = 57 := by decide
  rw [e]
  exact ⟨mIn_y, fun h q => (mIn_0.mp q).elim h.1 h.2⟩
theorem dg_n {x : Int32} (h : dg x) : ∃ a : Nat, a ≤ 9 ∧ x = nI (48 + a) := by
  obtain ⟨j, hj, rfl⟩ := nI_of (x := x) (fun q => h.1 (Int32.lt_trans q (by decide)))
  have h1 : ¬ j < 48 := fun q => h.1 (nI_lt (b := 48) q (by decide))
  have h2 : ¬ 57 < j := fun q => h.2 (nI_lt (a := 57) q hj)
  exact ⟨j - 48, by omega, by congr 1; omega⟩
theorem nb_n {x tf : xs} {tn p : Nat} (h80 : tn ≤ 80) (T0 : ∀ j, j < tn → x j &&& 255 = tf j ∧ byt (x j)) (r : Nat) (v : Int32) (h : ¬ dg (hrV x p tn 40)) : nb tf tn r p v = (p, v) := by
  cases r with
  | zero => rfl
  | succ r =>
    show (if p < 40 ∧ dg (slAt tf (nI tn) (nI p)) then _ else _) = _
    rw [if_neg]
    rintro ⟨h1, h2⟩
    by_cases c : p < tn
    · rw [gs_sl h80 T0 (by omega)] at h2
      exact h h2
    · unfold slAt at h2
      rw [if_neg (fun q => q.2.1 (nI_le (by omega) (by omega)))] at h2
      exact absurd h2.1 (by decide)
theorem nb_y {x tf : xs} {tn p : Nat} (h80 : tn ≤ 80) (T0 : ∀ j, j < tn → x j &&& 255 = tf j ∧ byt (x j)) (r A : Nat) {a : Nat} (e : hrV x p tn 40 = nI (48 + a)) (h : dg (hrV x p tn 40)) : p < min tn 40 ∧ nb tf tn (r + 1) p (nI A) = nb tf tn r (p + 1) (nI (10 * A + a)) := by
  have pl : p < min tn 40 := gs_lt (x := x) (fun q => by rw [q] at h; exact absurd h.1 (by decide))
  refine ⟨pl, ?_⟩
  show (if p < 40 ∧ dg (slAt tf (nI tn) (nI p)) then nb tf tn r (p + 1) (10 * nI A + slAt tf (nI tn) (nI p) - 48) else _) = _
  rw [gs_sl h80 T0 pl, if_pos ⟨by omega, h⟩, e, show (10 : Int32) * nI A = nI (10 * A) from pk_mul 10 A, nI_add, show nI (10 * A + (48 + a)) - 48 = nI (10 * A + (48 + a) - 48) from nI_sub (b := 48) (by omega)]
  congr 2
  omega
set_option maxRecDepth 20000 in
theorem lp_num {K : xK} {B : Nat} {l : Launch} {h0 : xH} {Y : Nat} {m : Nat → Int32} {ru ot q tn : Nat} {u : Nat → Nat → Int32} {v : Nat → Int64} {tf : xs} (Z : rQ m q tn 40) (T0 : ∀ j, j < tn → u q j &&& 255 = tf j ∧ byt (u q j)) {p0 : Nat} : ∀ (r k : Nat) {h : xH} {p a : Nat} (k1 : 1 ≤ k) (hp : p0 < p) (hpl : p ≤ min tn 40) (ha : a < 10 ^ k) (hN : nb tf tn r p (nI a) = nb tf tn 3 p0 0) (W : xMw K h0 h Y (rdm m p (-1)) (.ref (Y + q)) ru ot u v), k + r = 3 → xT K B l 5 RX12 false cX12_number 4 (some .int) 0 0 0 0 (xPi (fun zr g => ∃ p' : Nat, p0 < p' ∧ p' ≤ min tn 40 ∧ nb tf tn 3 p0 0 = (p', zr) ∧ ¬ zr < 0 ∧ xMw K h0 g Y (rdm m p' (-1)) (.ref (Y + q)) ru ot u v)) 11 [some (.ref Y), some (.int (nI 3)), some (.int (nI a)), some (.int (nI k))] [] h := by
  have h80 : tn ≤ 80 := Z.2.2.1
  intro r
  induction r with
  | zero =>
    intro k h p a k1 hp hpl ha hN W hk
    have k3 : k = 3 := by omega
    rw [k3] at ha
    refine xr_il3 dX12_number_11 ?_
    refine xr_il1 dX12_number_12 ?_
    refine xr_icmpge (tgt := 57) dX12_number_13 (by decide) (fun zc13 => ?_) (fun zc13 => ?_)
    · skip
      refine xr_il2 dX12_number_57 ?_
      refine xr_iret dX12_number_58 rfl ?_
      exact ⟨_, rfl, p, hp, hpl, by rw [← hN]; rfl, nI_pos (by omega), W⟩
    · skip
      exact absurd (nI_le (by omega) (by omega)) zc13
  | succ r ih =>
    intro k h p a k1 hp hpl ha hN W hk
    have pw : 10 ^ (k + 1) = 10 * 10 ^ k := by rw [Nat.pow_succ, Nat.mul_comm]
    have pk3 : 10 ^ k ≤ 10 ^ 2 := Nat.pow_le_pow_right (by decide) (by omega)
    refine xr_il3 dX12_number_11 ?_
    refine xr_il1 dX12_number_12 ?_
    refine xr_icmpge (tgt := 57) dX12_number_13 (by decide) (fun zc13 => ?_) (fun zc13 => ?_)
    · skip
      exact absurd zc13 (nI_ge (by omega) (by omega))
    · skip
      refine xr_al0 dX12_number_16 ?_
      refine xr_Vpi0 (r_fine W) kX12_115 (by decide) (Nat.le_of_ble_eq_true rfl) (Nat.zero_add _) (Nat.zero_add _) dX12_number_17 (fun zv17 zh1 zq1 => ?_)
      obtain ⟨rfl, W⟩ := zq1
      refine xr_ifeq (tgt := 57) dX12_number_20 (by decide) (fun zc20 => ?_) (fun zc20 => ?_)
      · skip
        exact absurd (bI_t rfl) (fun q => absurd (q.symm.trans zc20) (by decide))
      · skip
        refine xr_al0 dX12_number_23 ?_
        refine xr_Vpi0 (r_here Z (by omega) W) kX12_119 (by decide) (Nat.le_of_ble_eq_true rfl) (Nat.zero_add _) (Nat.zero_add _) dX12_number_24 (fun zv24 zh2 zq2 => ?_)
        obtain ⟨rfl, W⟩ := zq2
        refine xr_bipush (v := 48) dX12_number_27 (by decide) ?_
        refine xr_bipush (v := 57) dX12_number_29 (by decide) ?_
        refine xr_Si3 (s_mIn _ _ _) kX12_89 (by decide) (Nat.le_of_ble_eq_true rfl) (Nat.zero_add _) (Nat.zero_add _) dX12_number_31 ?_
        refine xr_ifeq (tgt := 57) dX12_number_34 (by decide) (fun zc34 => ?_) (fun zc34 => ?_)
        · skip
          refine xr_il2 dX12_number_57 ?_
          refine xr_iret dX12_number_58 rfl ?_
          exact ⟨_, rfl, p, hp, hpl, by rw [← hN]; exact nb_n h80 T0 _ _ (fun q => (dg_in.mpr q) zc34), nI_pos (by omega), W⟩
        · skip
          refine xr_bipush (v := 10) dX12_number_37 (by decide) ?_
          refine xr_il2 dX12_number_39 ?_
          refine xr_imul dX12_number_40 ?_
          refine xr_eqi (y := nI (10 * a)) (pk_mul 10 a) ?_
          refine xr_al0 dX12_number_41 ?_
          refine xr_bipush (v := 48) dX12_number_42 (by decide) ?_
          refine xr_bipush (v := 10) dX12_number_44 (by decide) ?_
          refine xr_Vpi2 (r_one Z (by omega) W (fun j hj => (T0 j hj).2) (a := 48) (b := 10) (by decide) (by decide)) kX12_131 (by decide) (Nat.le_of_ble_eq_true rfl) (Nat.zero_add _) (Nat.zero_add _) dX12_number_46 (fun zv46 zh3 zq3 => ?_)
          rcases zq3 with ⟨y, -⟩ | ⟨-, y, -⟩ | ⟨-, y, rfl, W⟩
          · exact absurd rfl y
          · exact absurd (dg_in.mpr (mIn_y zc34)) y
          obtain ⟨b, hb, eb⟩ := dg_n (dg_in.mp y)
          refine xr_eqi (y := nI b) (by rw [eb]; exact nI_sub (a := 48 + b) (b := 48) (by omega) |>.trans (by congr 1; omega)) ?_
          refine xr_iadd dX12_number_49 ?_
          refine xr_eqi (y := nI (10 * a + b)) (nI_add _ _) ?_
          refine xr_is2 dX12_number_50 (by decide) rfl ?_
          refine xr_inc3 dX12_number_51 (nI_inc k) (by decide) rfl ?_
          refine xr_goto (tgt := 11) dX12_number_54 (by decide) ?_
          have z := nb_y h80 T0 r a eb (dg_in.mp y)
          exact ih (k + 1) (by omega) (by omega) (by omega) (by omega) (by rw [← hN, z.2]) W (by omega)
set_option maxRecDepth 20000 in
theorem r_num {K : xK} {B : Nat} {l : Launch} {h0 h : xH} {Y : Nat} {m : Nat → Int32} {ru ot q tn : Nat} {u : Nat → Nat → Int32} {v : Nat → Int64} {tf : xs} (Z : rQ m q tn 40) (T0 : ∀ j, j < tn → u q j &&& 255 = tf j ∧ byt (u q j)) {p : Nat} (W : xMw K h0 h Y (rdm m p (-1)) (.ref (Y + q)) ru ot u v) (d0 : dg (hrV (u q) p tn 40)) : xV K B l 5 mX12_number 0 0 (Y) [.int (nI 3)] h (xPi (fun zr g => ∃ p' : Nat, p < p' ∧ p' ≤ min tn 40 ∧ nb tf tn 3 p 0 = (p', zr) ∧ ¬ zr < 0 ∧ xMw K h0 g Y (rdm m p' (-1)) (.ref (Y + q)) ru ot u v)) := by
  refine ⟨⟨_, _, _, _, W.o, rfl⟩, qX12_number, ?_⟩
  refine xS.intro RX12 false ⟨rfl, rfl, by decide, by decide, Nat.le_of_ble_eq_true rfl⟩ (ls := [some (.ref Y), some (.int (nI 3)), none, none]) rfl ?_
  have h80 : tn ≤ 80 := Z.2.2.1
  obtain ⟨b, hb, eb⟩ := dg_n d0
  have z := nb_y h80 T0 2 0 eb d0
  have z1 := z.1
  refine xr_al0 dX12_number_0 ?_
  refine xr_bipush (v := 48) dX12_number_1 (by decide) ?_
  refine xr_bipush (v := 10) dX12_number_3 (by decide) ?_
  refine xr_Vpi2 (r_one Z (by omega) W (fun j hj => (T0 j hj).2) (a := 48) (b := 10) (by decide) (by decide)) kX12_131 (by decide) (Nat.le_of_ble_eq_true rfl) (Nat.zero_add _) (Nat.zero_add _) dX12_number_5 (fun zv5 zh1 zq1 => ?_)
  rcases zq1 with ⟨y, -⟩ | ⟨-, y, -⟩ | ⟨-, y, rfl, W⟩
  · exact absurd rfl y
  · exact absurd (dg_in.mpr d0) y
  refine xr_eqi (y := nI b) (by rw [eb]; exact nI_sub (a := 48 + b) (b := 48) (by omega) |>.trans (by congr 1; omega)) ?_
  refine xr_is2 dX12_number_8 (by decide) rfl ?_
  refine xr_ic1 dX12_number_9 ?_
  refine xr_is3 dX12_number_10 (by decide) rfl ?_
  exact lp_num Z T0 2 1 (by omega) (by omega) (by omega) (by omega) (by rw [show (0 : Int32) = nI 0 from rfl, z.2]; congr 2; omega) W rfl
