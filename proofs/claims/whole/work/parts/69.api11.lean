/-! The model in the class's words: rests, fits, asks (written by wip/whole/mod28.py) -/
def cnP (p : Nat → Bool) : Nat → Nat
  | 0 => 0
  | k + 1 => cnP p k + (if p k = true then 1 else 0)
theorem cnP_s (p : Nat → Bool) (k : Nat) : cnP p (k + 1) = cnP p k + (if p k = true then 1 else 0) := rfl
theorem cnP_le (p : Nat → Bool) : ∀ k, cnP p k ≤ k := by
  intro k
  induction k with
  | zero => exact Nat.le_refl _
  | succ k ih =>
    rw [cnP_s]
    split <;> omega
theorem cnP_cg {p q : Nat → Bool} : ∀ k, (∀ i, i < k → p i = q i) → cnP p k = cnP q k := by
  intro k
  induction k with
  | zero => intro _; rfl
  | succ k ih =>
    intro h
    rw [cnP_s, cnP_s, ih (fun i hi => h i (by omega)), h k (by omega)]
theorem cnP_0 {p : Nat → Bool} : ∀ k, cnP p k = 0 → ∀ j, j < k → p j = false := by
  intro k
  induction k with
  | zero => intro _ j hj; omega
  | succ k ih =>
    intro h j hj
    rw [cnP_s] at h
    by_cases e : j = k
    · subst e
      by_cases c : p j = true
      · rw [if_pos c] at h
        omega
      · exact Bool.eq_false_iff.mpr c
    · exact ih (by omega) j (by omega)
def rp (v : Int32) (k : Nat) : Bool := decide (¬ ibN (nI k / 10) (remI (nI k) 10) v 10 0 = 0 ∧ ¬ ibN (remI (nI k) 10) (nI k / 10) v 10 0 = 0)
def fsP (p : Nat → Bool) : Nat → Int32 → Int32
  | 0, d => d
  | k + 1, d => fsP p k (if p k = true then nI k else d)
theorem fsP_n {p : Nat → Bool} : ∀ (k : Nat) (d : Int32), (∀ j, j < k → p j = false) → fsP p k d = d := by
  intro k
  induction k with
  | zero => intro d _; rfl
  | succ k ih =>
    intro d h
    show fsP p k (if p k = true then nI k else d) = d
    rw [if_neg (by rw [h k (by omega)]; decide)]
    exact ih d (fun j hj => h j (by omega))
theorem fsP_y {p : Nat → Bool} {f : Nat} (hp : p f = true) (hf : ∀ j, j < f → p j = false) : ∀ (k : Nat) (d : Int32), f < k → fsP p k d = nI f := by
  intro k
  induction k with
  | zero => intro d h; omega
  | succ k ih =>
    intro d h
    show fsP p k (if p k = true then nI k else d) = nI f
    by_cases e : f = k
    · subst e
      rw [if_pos hp]
      exact fsP_n f _ hf
    · exact ih _ (by omega)
theorem reN_e (v : Int32) : ∀ (r c : Nat) (l : Int32), reN v r (nI c, l) = (nI (c + cnP (rp v) r), fsP (rp v) r l) := by
  intro r
  induction r with
  | zero => intro c l; rfl
  | succ r ih =>
    intro c l
    rw [reN_s]
    have e : re1 v r (nI c, l) = (nI (c + (if rp v r = true then 1 else 0)), if rp v r = true then nI r else l) := by
      unfold re1
      by_cases c1 : ibN (nI r / 10) (remI (nI r) 10) v 10 0 = 0
      · have z : ¬ rp v r = true := by
          unfold rp
          rw [decide_eq_true_eq]
          exact fun q => q.1 c1
        rw [if_pos c1, if_neg z, if_neg z]
        rfl
      · by_cases c2 : ibN (remI (nI r) 10) (nI r / 10) v 10 0 = 0
        · have z : ¬ rp v r = true := by
            unfold rp
            rw [decide_eq_true_eq]
            exact fun q => q.2 c2
          rw [if_neg c1, if_pos c2, if_neg z, if_neg z]
          rfl
        · have z : rp v r = true := by
            unfold rp
            rw [decide_eq_true_eq]
            exact ⟨c1, c2⟩
          rw [if_neg c1, if_neg c2, if_pos z, if_pos z]
          show (nI c + 1, nI r) = (nI (c + 1), nI r)
          rw [nI_1]
    rw [e, ih]
    refine Prod.ext ?_ rfl
    show nI (c + (if rp v r = true then 1 else 0) + cnP (rp v) r) = nI (c + cnP (rp v) (r + 1))
    rw [cnP_s]
    congr 1
    omega
theorem mg_sk (i : Nat) (hi : i < 10) (j : Nat) (hj : j < 10) (V : Nat) (hV : V < 21) : mGet (nI i) (nI j) (nI V) = skd (nI i) (nI j) (nI V) := by
  unfold mGet skd
  have e : nI V - nI i - nI j = nI V - nI (i + j) := by
    rw [← nI_add, Int32.sub_eq_add_neg (nI V) (nI i + nI j), Int32.neg_add, Int32.sub_eq_add_neg (-nI i) (nI j), Int32.sub_eq_add_neg (nI V) (nI i), Int32.sub_eq_add_neg _ (nI j), Int32.add_assoc]
  by_cases c : V < i + j
  · rw [if_pos (by rw [nI_add]; exact nI_lt c (by omega)), e, if_pos (pk_sneg (by omega) c)]
  · rw [if_neg (by rw [nI_add]; exact nI_nlt (by omega) (by omega)), if_neg (by rw [e, nI_sub (by omega)]; exact nI_pos (by omega))]
theorem mb_ib {i j V : Nat} (hi : i < 10) (hj : j < 10) (hV : V < 21) : ∀ (r k : Nat), k + r = 10 → mbN (nI i) (nI j) (nI V) r k = ibN (nI i) (nI j) (nI V) r k := by
  intro r
  induction r with
  | zero => intro k _; rfl
  | succ r ih =>
    intro k hk
    rw [mbN_s, ibN_s, mg_sk k (by omega) j hj V hV, mg_sk i hi j hj V hV, ih (k + 1) (by omega)]
def rq (p : Nat → Bool) (k : Nat) (x : Int32) (v : Nat → Int64) : Prop := (cnP p k = 0 ∧ x = 0) ∨ (¬ cnP p k = 0 ∧ ∃ f, f < k ∧ p f = true ∧ (∀ j, j < f → p j = false) ∧ x = 2 ∧ v 0 = (nI (f / 10)).toInt64 ∧ v 1 = (nI (f % 10)).toInt64)
theorem rq_n {p : Nat → Bool} {k : Nat} {x : Int32} {v : Nat → Int64} (h : rq p k x v) (c : ¬ p k = true) : rq p (k + 1) x v := by
  unfold rq
  rw [cnP_s, if_neg c, Nat.add_zero]
  rcases h with h | ⟨h1, f, hf, h⟩
  · exact Or.inl h
  · exact Or.inr ⟨h1, f, by omega, h⟩
theorem rq_y {p : Nat → Bool} {k : Nat} {x : Int32} {v : Nat → Int64} (h : rq p k x v) (c : p k = true) (c0 : ¬ cnP p k = 0) : rq p (k + 1) x v := by
  unfold rq
  rw [cnP_s, if_pos c]
  rcases h with ⟨h, -⟩ | ⟨h1, f, hf, h⟩
  · exact absurd h c0
  · exact Or.inr ⟨by omega, f, by omega, h⟩
theorem rq_f {p : Nat → Bool} {k : Nat} {v : Nat → Int64} (c : p k = true) (c0 : cnP p k = 0) (e0 : v 0 = (nI (k / 10)).toInt64) (e1 : v 1 = (nI (k % 10)).toInt64) : rq p (k + 1) 2 v := by
  unfold rq
  rw [cnP_s, if_pos c]
  exact Or.inr ⟨by omega, k, by omega, c, cnP_0 k c0, rfl, e0, e1⟩
theorem re_end {V : Nat} {x : Int32} {v rv : Nat → Int64} (h : rq (rp (nI V)) 100 x v) : (reE rv (reN (nI V) 100 (0, 0))).1 = nI (cnP (rp (nI V)) 100) ∧ maR x v (reE rv (reN (nI V) 100 (0, 0))).2.1 (reE rv (reN (nI V) 100 (0, 0))).2.2 := by
  have e := reN_e (nI V) 100 0 0
  have l := cnP_le (rp (nI V)) 100
  rw [Nat.zero_add] at e
  have e : reN (nI V) 100 (0, 0) = (nI (cnP (rp (nI V)) 100), fsP (rp (nI V)) 100 0) := e
  rw [e]
  unfold reE
  rcases h with ⟨h1, rfl⟩ | ⟨h1, f, hf, hp, hj, rfl, e0, e1⟩
  · rw [h1, if_pos (show (nI 0, fsP (rp (nI V)) 100 0).1 = 0 from rfl)]
    exact ⟨rfl, maR0⟩
  · rw [if_neg (show ¬ (nI (cnP (rp (nI V)) 100), fsP (rp (nI V)) 100 0).1 = 0 from nI_ne0 (by omega) (by omega))]
    refine ⟨rfl, 2, by decide, rfl, rfl, fun j hj2 => ?_⟩
    have ef : fsP (rp (nI V)) 100 0 = nI f := fsP_y hp hj 100 0 hf
    show v j = tl2 rv (fsP (rp (nI V)) 100 0 / 10) (remI (fsP (rp (nI V)) 100 0) 10) j
    rw [ef, show nI f / 10 = nI (f / 10) from pk_div (d := 10) (by omega) (by decide) (by decide), show remI (nI f) 10 = nI (f % 10) from pk_rem (d := 10) (by omega) (by decide) (by decide)]
    rcases (show j = 0 ∨ j = 1 by omega) with rfl | rfl
    · exact e0
    · exact e1
theorem rp_ij {V i j : Nat} (hi : i < 10) (hj : j < 10) (hV : V < 21) : rp (nI V) (10 * i + j) = true ↔ (¬ mbN (nI i) (nI j) (nI V) 10 0 = 0 ∧ ¬ mbN (nI j) (nI i) (nI V) 10 0 = 0) := by
  unfold rp
  rw [decide_eq_true_eq, show nI (10 * i + j) / 10 = nI ((10 * i + j) / 10) from pk_div (d := 10) (by omega) (by decide) (by decide), show remI (nI (10 * i + j)) 10 = nI ((10 * i + j) % 10) from pk_rem (d := 10) (by omega) (by decide) (by decide), show (10 * i + j) / 10 = i by omega, show (10 * i + j) % 10 = j by omega, mb_ib hi hj hV 10 0 rfl, mb_ib hj hi hV 10 0 rfl]
set_option maxRecDepth 20000 in
theorem lp_mRestI {K : xK} {B : Nat} {l : Launch} {h0 : xH} {Y : Nat} {m : xs} {u : Nat → Nat → Int32} {v : Nat → Int64} {tn : Nat} {tf : xs} {rk : Int32} {rv : Nat → Int64} {σ : xs} {pn : Nat} {τ : Nat → xs} {ks : Nat → Bool} {κ : Nat → xs} {φ : xs → Int32} {hn : Nat} {hf hg : xs} {wn : Nat} {wf wg : xs} (C : maC K B l Y m u v tn tf rk rv σ pn τ ks κ φ hn hf hg wn wf wg) (h5 : m 5 = 0) {rd : Value} {Q : Option Value → xH → Prop} {V : Nat} (hV : V < 21) {i : Nat} (hi : i < 10) : ∀ (r j : Nat) {x : Int32} {v' : Nat → Int64} {h : xH} (hq : rq (rp (nI V)) (10 * i + j) x v') (hc : ∀ {h : xH} {x : Int32} {v' : Nat → Int64} {x4 : Option Value}, rq (rp (nI V)) (10 * i + 10) x v' → xMw K h0 h Y (upd m 4 x) rd (Y + 6) (Y + 7) u v' → xT K B l 206 RX12 false cX12_rests 5 (some .int) 0 0 0 0 (Q) 91 [some (.ref Y), some (.int (nI V)), some (.int (nI (cnP (rp (nI V)) (10 * i + 10)))), some (.int (nI i)), x4] [] h) (W : xMw K h0 h Y (upd m 4 x) rd (Y + 6) (Y + 7) u v'), j + r = 10 → xT K B l 206 RX12 false cX12_rests 5 (some .int) 0 0 0 0 (Q) 35 [some (.ref Y), some (.int (nI V)), some (.int (nI (cnP (rp (nI V)) (10 * i + j)))), some (.int (nI i)), some (.int (nI j))] [] h := by
  obtain ⟨T, Rw, ⟨R, ok, iv⟩, P, Kp, L, H, Sw⟩ := id C
  intro r
  induction r with
  | zero =>
    intro j x v' h hq hc W hk
    refine xr_il4 dX12_rests_35 ?_
    refine xr_bipush (v := 9) dX12_rests_37 (by decide) ?_
    refine xr_icmpgt (tgt := 91) dX12_rests_39 (by decide) (fun zc39 => ?_) (fun zc39 => ?_)
    · skip
      have e10 : j = 10 := by omega
      subst e10
      exact hc hq W
    · skip
      exact absurd (nI_lt (a := 9) (by omega) (by omega)) zc39
  | succ r ih =>
    intro j x v' h hq hc W hk
    have lc := cnP_le (rp (nI V)) (10 * i + j)
    refine xr_il4 dX12_rests_35 ?_
    refine xr_bipush (v := 9) dX12_rests_37 (by decide) ?_
    refine xr_icmpgt (tgt := 91) dX12_rests_39 (by decide) (fun zc39 => ?_) (fun zc39 => ?_)
    · skip
      exact absurd zc39 (nI_nlt (a := 9) (by omega) (by decide))
    · skip
      refine xr_il3 dX12_rests_42 ?_
      refine xr_il4 dX12_rests_43 ?_
      refine xr_il1 dX12_rests_45 ?_
      refine xr_Si3 (s_mBest _ _ _) kX12_371 (by decide) (Nat.le_of_ble_eq_true rfl) (Nat.zero_add _) (Nat.zero_add _) dX12_rests_46 ?_
      refine xr_ifeq (tgt := 85) dX12_rests_49 (by decide) (fun zc49 => ?_) (fun zc49 => ?_)
      · skip
        refine xr_inc4 dX12_rests_85 (nI_inc j) (by decide) rfl ?_
        refine xr_goto (tgt := 35) dX12_rests_88 (by decide) ?_
        have pn : ¬ rp (nI V) (10 * i + j) = true := fun q => ((rp_ij hi (by omega) hV).mp q).1 zc49
        rw [show cnP (rp (nI V)) (10 * i + j) = cnP (rp (nI V)) (10 * i + (j + 1)) from by rw [← Nat.add_assoc, cnP_s, if_neg pn, Nat.add_zero]]
        exact ih (j + 1) (by rw [← Nat.add_assoc]; exact rq_n hq pn) hc W (by omega)
      · skip
        refine xr_il4 dX12_rests_52 ?_
        refine xr_il3 dX12_rests_54 ?_
        refine xr_il1 dX12_rests_55 ?_
        refine xr_Si3 (s_mBest _ _ _) kX12_371 (by decide) (Nat.le_of_ble_eq_true rfl) (Nat.zero_add _) (Nat.zero_add _) dX12_rests_56 ?_
        refine xr_ifne (tgt := 65) dX12_rests_59 (by decide) (fun zc59 => ?_) (fun zc59 => ?_)
        · skip
          refine xr_il2 dX12_rests_65 ?_
          refine xr_ifne (tgt := 82) dX12_rests_66 (by decide) (fun zc66 => ?_) (fun zc66 => ?_)
          · skip
            refine xr_inc2 dX12_rests_82 (nI_inc _) (by decide) rfl ?_
            refine xr_inc4 dX12_rests_85 (nI_inc j) (by decide) rfl ?_
            refine xr_goto (tgt := 35) dX12_rests_88 (by decide) ?_
            have pn : rp (nI V) (10 * i + j) = true := (rp_ij hi (by omega) hV).mpr ⟨zc49, zc59⟩
            rw [show nI (cnP (rp (nI V)) (10 * i + j) + 1) = nI (cnP (rp (nI V)) (10 * i + (j + 1))) from by rw [← Nat.add_assoc, cnP_s, if_pos pn]]
            exact ih (j + 1) (by rw [← Nat.add_assoc]; exact rq_y hq pn (fun q => zc66 (by rw [q]; rfl))) hc W (by omega)
          · skip
            have c0 : cnP (rp (nI V)) (10 * i + j) = 0 := (nI_eq (b := 0) (by omega) (by decide)).mp zc66
            have x0 : x = 0 := by
              rcases hq with ⟨-, q⟩ | ⟨q, -⟩
              · exact q
              · exact absurd c0 q
            refine xr_al0 dX12_rests_69 ?_
            refine xr_il3 dX12_rests_70 ?_
            refine xr_i2l dX12_rests_71 ?_
            refine xr_Vpv1 (s_mTell W (k := 0) (show upd m 4 x 4 = nI 0 from x0) (by decide) _) kX12_253 (by decide) (Nat.le_of_ble_eq_true rfl) (Nat.zero_add _) (Nat.zero_add _) dX12_rests_72 (fun zh1 zq1 => ?_)
            have W := zq1
            refine xr_al0 dX12_rests_75 ?_
            refine xr_il4 dX12_rests_76 ?_
            refine xr_i2l dX12_rests_78 ?_
            refine xr_Vpv1 (s_mTell W (k := 1) rfl (by decide) _) kX12_253 (by decide) (Nat.le_of_ble_eq_true rfl) (Nat.zero_add _) (Nat.zero_add _) dX12_rests_79 (fun zh2 zq2 => ?_)
            have W := zq2
            refine xr_inc2 dX12_rests_82 (nI_inc _) (by decide) rfl ?_
            refine xr_inc4 dX12_rests_85 (nI_inc j) (by decide) rfl ?_
            refine xr_goto (tgt := 35) dX12_rests_88 (by decide) ?_
            have pn : rp (nI V) (10 * i + j) = true := (rp_ij hi (by omega) hV).mpr ⟨zc49, zc59⟩
            rw [show nI (cnP (rp (nI V)) (10 * i + j) + 1) = nI (cnP (rp (nI V)) (10 * i + (j + 1))) from by rw [← Nat.add_assoc, cnP_s, if_pos pn]]
            rw [upd_upd, upd_upd] at W
            exact ih (j + 1) (by rw [← Nat.add_assoc]; exact rq_f pn c0 (by rw [show (10 * i + j) / 10 = i by omega]; rfl) (by rw [show (10 * i + j) % 10 = j by omega]; rfl)) hc W (by omega)
        · skip
          refine xr_goto (tgt := 85) dX12_rests_62 (by decide) ?_
          refine xr_inc4 dX12_rests_85 (nI_inc j) (by decide) rfl ?_
          refine xr_goto (tgt := 35) dX12_rests_88 (by decide) ?_
          have pn : ¬ rp (nI V) (10 * i + j) = true := fun q => ((rp_ij hi (by omega) hV).mp q).2 zc59
          rw [show cnP (rp (nI V)) (10 * i + j) = cnP (rp (nI V)) (10 * i + (j + 1)) from by rw [← Nat.add_assoc, cnP_s, if_neg pn, Nat.add_zero]]
          exact ih (j + 1) (by rw [← Nat.add_assoc]; exact rq_n hq pn) hc W (by omega)
set_option maxRecDepth 20000 in
theorem lp_mRestO {K : xK} {B : Nat} {l : Launch} {h0 : xH} {Y : Nat} {m : xs} {u : Nat → Nat → Int32} {v : Nat → Int64} {tn : Nat} {tf : xs} {rk : Int32} {rv : Nat → Int64} {σ : xs} {pn : Nat} {τ : Nat → xs} {ks : Nat → Bool} {κ : Nat → xs} {φ : xs → Int32} {hn : Nat} {hf hg : xs} {wn : Nat} {wf wg : xs} (C : maC K B l Y m u v tn tf rk rv σ pn τ ks κ φ hn hf hg wn wf wg) (h5 : m 5 = 0) {rd : Value} {V : Nat} (hV : V < 21) : ∀ (r i : Nat) {x : Int32} {v' : Nat → Int64} {x4 : Option Value} {h : xH} (hq : rq (rp (nI V)) (10 * i) x v') (W : xMw K h0 h Y (upd m 4 x) rd (Y + 6) (Y + 7) u v'), i + r = 10 → xT K B l 206 RX12 false cX12_rests 5 (some .int) 0 0 0 0 (xPi (fun zr g => zr = (reE rv (reN (nI V) 100 (0, 0))).1 ∧ xMa K B l h0 g Y 0 tn tf ((reE rv (reN (nI V) 100 (0, 0))).2.1) ((reE rv (reN (nI V) 100 (0, 0))).2.2) σ pn τ ks κ φ hn hf hg wn wf wg)) 26 [some (.ref Y), some (.int (nI V)), some (.int (nI (cnP (rp (nI V)) (10 * i)))), some (.int (nI i)), x4] [] h := by
  obtain ⟨T, Rw, ⟨R, ok, iv⟩, P, Kp, L, H, Sw⟩ := id C
  intro r
  induction r with
  | zero =>
    intro i x v' x4 h hq W hk
    refine xr_il3 dX12_rests_26 ?_
    refine xr_bipush (v := 9) dX12_rests_27 (by decide) ?_
    refine xr_icmpgt (tgt := 97) dX12_rests_29 (by decide) (fun zc29 => ?_) (fun zc29 => ?_)
    · skip
      refine xr_il2 dX12_rests_97 ?_
      refine xr_iret dX12_rests_98 rfl ?_
      have e10 : i = 10 := by omega
      subst e10
      obtain ⟨e1, e2⟩ := re_end (rv := rv) hq
      refine ⟨_, rfl, e1.symm, ⟨_, _, _, _, W, T, e2, ⟨R, ok, iv⟩, P, Kp, L, H, Sw, h5⟩⟩
    · skip
      exact absurd (nI_lt (a := 9) (by omega) (by omega)) zc29
  | succ r ih =>
    intro i x v' x4 h hq W hk
    refine xr_il3 dX12_rests_26 ?_
    refine xr_bipush (v := 9) dX12_rests_27 (by decide) ?_
    refine xr_icmpgt (tgt := 97) dX12_rests_29 (by decide) (fun zc29 => ?_) (fun zc29 => ?_)
    · skip
      exact absurd zc29 (nI_nlt (a := 9) (by omega) (by decide))
    · skip
      refine xr_ic0 dX12_rests_32 ?_
      refine xr_is4 dX12_rests_33 (by decide) rfl ?_
      refine lp_mRestI C h5 hV (by omega) 10 0 hq (fun {h} {x} {v'} {x4} hq W => ?_) W (by omega)
      refine xr_inc3 dX12_rests_91 (nI_inc i) (by decide) rfl ?_
      refine xr_goto (tgt := 26) dX12_rests_94 (by decide) ?_
      exact ih (i + 1) hq W (by omega)
set_option maxRecDepth 20000 in
theorem a_rests {K : xK} {B : Nat} {l : Launch} {h0 h : xH} {Y : Nat} {th : Int32} {tn : Nat} {tf : xs} {rk : Int32} {rv : Nat → Int64} {σ : xs} {pn : Nat} {τ : Nat → xs} {ks : Nat → Bool} {κ : Nat → xs} {φ : xs → Int32} {hn : Nat} {hf hg : xs} {wn : Nat} {wf wg : xs} (A : xMa K B l h0 h Y th tn tf rk rv σ pn τ ks κ φ hn hf hg wn wf wg) (x : Int32) : xV K B l 206 mX12_rests 0 0 (Y) [.int x] h (xPi (fun zr g => zr = (reR rk rv x).1 ∧ xMa K B l h0 g Y 0 tn tf ((reR rk rv x).2.1) ((reR rk rv x).2.2) σ pn τ ks κ φ hn hf hg wn wf wg)) := by
  obtain ⟨m, rd, u, v, W, T, Rw, ⟨R, ok, iv⟩, P, Kp, L, H, Sw, hth⟩ := A
  refine ⟨⟨_, _, _, _, W.o, rfl⟩, qX12_rests, ?_⟩
  refine xS.intro RX12 false ⟨rfl, rfl, by decide, by decide, Nat.le_of_ble_eq_true rfl⟩ (ls := [some (.ref Y), some (.int x), none, none, none]) rfl ?_
  refine xr_al0 dX12_rests_0 ?_
  refine xr_ic0 dX12_rests_1 ?_
  refine xr_put W.o fX12_82 (Nat.le_of_ble_eq_true rfl) rfl rfl dX12_rests_2 ?_
  refine xT.nm (fun zh1 zg1 => ?_)
  have W := W.f5 zg1
  refine xr_il1 dX12_rests_5 ?_
  refine xr_ic0 dX12_rests_6 ?_
  refine xr_bipush (v := 20) dX12_rests_7 (by decide) ?_
  refine xr_Si3 (s_mIn _ _ _) kX12_89 (by decide) (Nat.le_of_ble_eq_true rfl) (Nat.zero_add _) (Nat.zero_add _) dX12_rests_9 ?_
  refine xr_ifne (tgt := 17) dX12_rests_12 (by decide) (fun zc12 => ?_) (fun zc12 => ?_)
  · skip
    obtain ⟨V, hV, rfl⟩ := in_at (N := 20) rfl (by decide) zc12
    refine xr_ic0 dX12_rests_17 ?_
    refine xr_is2 dX12_rests_18 (by decide) rfl ?_
    refine xr_al0 dX12_rests_19 ?_
    refine xr_ic0 dX12_rests_20 ?_
    refine xr_put W.o fX12_86 (Nat.le_of_ble_eq_true rfl) rfl rfl dX12_rests_21 ?_
    refine xT.nm (fun zh2 zg2 => ?_)
    have W := W.f4 zg2
    refine xr_ic0 dX12_rests_24 ?_
    refine xr_is3 dX12_rests_25 (by decide) rfl ?_
    have e : (reR rk rv (nI V)) = _ := if_neg (fun q => zc12 (mIn_0.mpr q))
    rw [e]
    have C : maC K B l Y (upd m 5 0) u v tn tf rk rv σ pn τ ks κ φ hn hf hg wn wf wg := ⟨T, Rw, ⟨R, ok, iv⟩, P, Kp, L, H, Sw⟩
    exact lp_mRestO C rfl (V := V) (by omega) 10 0 (x := 0) (Or.inl ⟨rfl, rfl⟩) W (by omega)
  · skip
    refine xr_icm1 dX12_rests_15 ?_
    refine xr_iret dX12_rests_16 rfl ?_
    have e : (reR rk rv x) = _ := if_pos (mIn_0.mp zc12)
    rw [e]
    exact ⟨_, rfl, rfl, ⟨_, _, _, _, W, T, Rw, ⟨R, ok, iv⟩, P, Kp, L, H, Sw, rfl⟩⟩
