/-! The model in the class's words: fits, asks (written by wip/whole/mod29.py) -/
def sB (b : Nat → Bool) : Nat → Nat
  | 0 => 0
  | k + 1 => sB b k + (if b k = true then 2 ^ k else 0)
theorem sB_s (b : Nat → Bool) (k : Nat) : sB b (k + 1) = sB b k + (if b k = true then 2 ^ k else 0) := rfl
theorem sB_lt (b : Nat → Bool) : ∀ k, sB b k < 2 ^ k := by
  intro k
  induction k with
  | zero => exact Nat.lt_succ_self 0
  | succ k ih =>
    rw [sB_s, Nat.pow_succ]
    split <;> omega
theorem sB_bit (b : Nat → Bool) : ∀ (k i : Nat), (sB b k).testBit i = (decide (i < k) && b i) := by
  intro k
  induction k with
  | zero =>
    intro i
    show Nat.testBit 0 i = _
    rw [Nat.zero_testBit]
    rfl
  | succ k ih =>
    intro i
    have l := sB_lt b k
    rw [sB_s]
    by_cases c : b k = true
    · rw [if_pos c, Nat.add_comm]
      by_cases e : i = k
      · subst e
        rw [Nat.testBit_two_pow_add_eq, Nat.testBit_lt_two_pow l, c]
        simp
      · by_cases h : i < k
        · rw [Nat.testBit_two_pow_add_gt h, ih]
          simp [h, Nat.lt_succ_of_lt h]
        · have l2 : 2 ^ k + sB b k < 2 ^ i := by
            have : 2 ^ (k + 1) ≤ 2 ^ i := Nat.pow_le_pow_right (by decide) (by omega)
            rw [Nat.pow_succ] at this
            omega
          rw [Nat.testBit_lt_two_pow l2]
          have : ¬ i < k + 1 := by omega
          simp [this]
    · rw [if_neg c, Nat.add_zero, ih]
      by_cases e : i = k
      · subst e
        simp [c]
      · have : (i < k + 1) ↔ (i < k) := by omega
        simp [this]
theorem sB_ext {x : Nat} {b : Nat → Bool} {k : Nat} (hx : x < 2 ^ k) (h : ∀ i, i < k → x.testBit i = b i) : x = sB b k := by
  apply Nat.eq_of_testBit_eq
  intro i
  rw [sB_bit]
  by_cases c : i < k
  · rw [h i c]
    simp [c]
  · have : x < 2 ^ i := Nat.lt_of_lt_of_le hx (Nat.pow_le_pow_right (by decide) (by omega))
    rw [Nat.testBit_lt_two_pow this]
    simp [c]
theorem nI_and {a b : Nat} (ha : a < 2 ^ 32) (hb : b < 2 ^ 32) : nI a &&& nI b = nI (a &&& b) := by
  apply Int32.toBitVec_inj.mp
  apply BitVec.eq_of_toNat_eq
  rw [Int32.toBitVec_and, BitVec.toNat_and, pk_tn ha, pk_tn hb, pk_tn (Nat.lt_of_le_of_lt Nat.and_le_left ha)]
theorem nI_or {a b : Nat} (ha : a < 2 ^ 32) (hb : b < 2 ^ 32) : nI a ||| nI b = nI (a ||| b) := by
  apply Int32.toBitVec_inj.mp
  apply BitVec.eq_of_toNat_eq
  rw [Int32.toBitVec_or, BitVec.toNat_or, pk_tn ha, pk_tn hb, pk_tn (Nat.or_lt_two_pow ha hb)]
def ch (x : Int32) (f : Nat → Bool) : Prop := x = nI (sB f 10)
theorem ch_cg {x : Int32} {f g : Nat → Bool} (h : ch x f) (e : ∀ i, i < 10 → f i = g i) : ch x g := by
  unfold ch at *
  rw [h]
  congr 1
  exact sB_ext (sB_lt f 10) (fun i hi => by rw [sB_bit, e i hi]; simp [hi])
theorem ch_eq {x y : Int32} {f : Nat → Bool} (h : ch x f) (g : ch y f) : x = y := by
  unfold ch at *
  rw [h, g]
theorem ch_lt (f : Nat → Bool) : sB f 10 < 1024 := sB_lt f 10
theorem ch_and {x y : Int32} {f g : Nat → Bool} (h : ch x f) (k : ch y g) : ch (x &&& y) (fun i => f i && g i) := by
  unfold ch at *
  have a := ch_lt f
  have b := ch_lt g
  rw [h, k, nI_and (by omega) (by omega)]
  congr 1
  exact sB_ext (Nat.lt_of_le_of_lt Nat.and_le_left a) (fun i hi => by rw [Nat.testBit_and, sB_bit, sB_bit]; simp [hi])
theorem sh10 : ∀ p, p < 10 → (1 : Int32) <<< (nI p &&& 31) = nI (2 ^ p) := by decide +kernel
theorem ch_or {x : Int32} {f : Nat → Bool} (h : ch x f) {p : Nat} (hp : p < 10) : ch (x ||| (1 : Int32) <<< (nI p &&& 31)) (fun i => f i || i == p) := by
  unfold ch at *
  have a := ch_lt f
  have b : 2 ^ p < 2 ^ 10 := Nat.pow_lt_pow_right (by decide) hp
  rw [h, sh10 p hp, nI_or (by omega) (by omega)]
  congr 1
  exact sB_ext (Nat.or_lt_two_pow a b) (fun i hi => by
    rw [Nat.testBit_or, sB_bit, Nat.testBit_two_pow]
    have : (p = i) ↔ (i = p) := eq_comm
    simp [hi, this]
    rfl)
theorem ch_0 : ch 0 (fun _ => false) := by
  unfold ch
  decide +kernel
def pty (σ : xs) (p : Nat) : Bool := decide (p % 5 < ln σ (p / 5))
def sop (σ : xs) (what v : Int32) (p : Nat) : Bool := decide (¬ hSo σ (nI (p / 5)) (nI (p % 5)) what v = 0)
theorem al10 : ∀ a, a < 6 → ∀ b, b < 6 → nI (2 ^ a - 1) ||| nI (2 ^ b - 1) <<< ((5 : Int32) &&& 31) = nI (sB (fun p => decide (p % 5 < if p / 5 = 0 then a else b)) 10) := by decide +kernel
theorem ch_all {σ : xs} (ok : hOk σ) : ch (hAll σ 0 ||| hAll σ 1 <<< ((5 : Int32) &&& 31)) (pty σ) := by
  have e0 : hAll σ 0 = nI (2 ^ ln σ 0 - 1) := (hAll_n ok (s := 0) (by decide)).1
  have e1 : hAll σ 1 = nI (2 ^ ln σ 1 - 1) := (hAll_n ok (s := 1) (by decide)).1
  have h0 := (ok.1 0 (by decide)).2
  have h1 := (ok.1 1 (by decide)).2
  have q : ch (hAll σ 0 ||| hAll σ 1 <<< ((5 : Int32) &&& 31)) (fun p => decide (p % 5 < if p / 5 = 0 then ln σ 0 else ln σ 1)) := by
    rw [e0, e1]
    exact al10 _ (by omega) _ (by omega)
  refine ch_cg q (fun i hi => ?_)
  unfold pty
  rcases (show i / 5 = 0 ∨ i / 5 = 1 by omega) with e | e
  · rw [e, if_pos rfl]
  · rw [e, if_neg (by decide)]
theorem ch_sa {σ : xs} (what v : Int32) {s : Nat} (hs : s < 2) {b : Int32} {f : Nat → Bool} (h : ch b f) : ∀ k, k ≤ 5 → ch (saN σ what v s b k) (fun i => f i || (decide (5 * s ≤ i ∧ i < 5 * s + k) && sop σ what v i)) := by
  intro k
  induction k with
  | zero =>
    intro _
    refine ch_cg h (fun i _ => ?_)
    have nz : ¬ (5 * s ≤ i ∧ i < 5 * s + 0) := by omega
    show f i = (f i || (decide (5 * s ≤ i ∧ i < 5 * s + 0) && sop σ what v i))
    rw [decide_eq_false nz, Bool.false_and, Bool.or_false]
  | succ k ih =>
    intro hk
    have q := ih (by omega)
    have d5 : (5 * s + k) / 5 = s := by omega
    have m5 : (5 * s + k) % 5 = k := by omega
    show ch (if hSo σ (nI s) (nI k) what v = 0 then saN σ what v s b k else saN σ what v s b k ||| (1 : Int32) <<< ((nI s * 5 + nI k) &&& 31)) _
    by_cases c : hSo σ (nI s) (nI k) what v = 0
    · rw [if_pos c]
      refine ch_cg q (fun i _ => ?_)
      by_cases e : i = 5 * s + k
      · subst e
        have z : sop σ what v (5 * s + k) = false := by
          unfold sop
          rw [d5, m5, decide_eq_false_iff_not]
          exact fun z => z c
        simp [z]
      · have : (5 * s ≤ i ∧ i < 5 * s + k) ↔ (5 * s ≤ i ∧ i < 5 * s + (k + 1)) := by omega
        simp only [this]
    · rw [if_neg c, show nI s * 5 + nI k = nI (5 * s + k) from by rw [show (5 : Int32) = nI 5 from rfl, pk_mul, nI_add, Nat.mul_comm]]
      refine ch_cg (ch_or q (p := 5 * s + k) (by omega)) (fun i _ => ?_)
      by_cases e : i = 5 * s + k
      · subst e
        have z : sop σ what v (5 * s + k) = true := by
          unfold sop
          rw [d5, m5, decide_eq_true_eq]
          exact c
        simp [z]
      · have : (5 * s ≤ i ∧ i < 5 * s + k) ↔ (5 * s ≤ i ∧ i < 5 * s + (k + 1)) := by omega
        simp only [this, beq_eq_false_iff_ne.mpr e, Bool.or_false]
theorem ch_such {σ : xs} (ok : hOk σ) (what v : Int32) : ch (hSuch σ what v) (fun i => pty σ i && sop σ what v i) := by
  have h0 := (ok.1 0 (by decide)).2
  have h1 := (ok.1 1 (by decide)).2
  refine ch_cg (ch_sa what v (s := 1) (by decide) (ch_sa what v (s := 0) (by decide) ch_0 (ln σ 0) h0) (ln σ 1) h1) (fun i hi => ?_)
  unfold pty
  rcases (show i / 5 = 0 ∨ i / 5 = 1 by omega) with e | e
  · rw [e]
    have a : (5 * 0 ≤ i ∧ i < 5 * 0 + ln σ 0) ↔ i % 5 < ln σ 0 := by omega
    have b : ¬ (5 * 1 ≤ i ∧ i < 5 * 1 + ln σ 1) := by omega
    simp only [a, b, decide_false, Bool.false_and, Bool.or_false, Bool.false_or]
  · rw [e]
    have a : ¬ (5 * 0 ≤ i ∧ i < 5 * 0 + ln σ 0) := by omega
    have b : (5 * 1 ≤ i ∧ i < 5 * 1 + ln σ 1) ↔ i % 5 < ln σ 1 := by omega
    simp only [a, b, decide_false, Bool.false_and, Bool.or_false, Bool.false_or]
def foB (σ : xs) (f g : xs) : Nat → Nat → Bool
  | 0, p => pty σ p
  | k + 1, p => foB σ f g k p && (pty σ p && sop σ (f k) (g k) p)
theorem ch_fo {σ : xs} (ok : hOk σ) (f g : xs) : ∀ k, ch (foN σ f g k) (foB σ f g k) := by
  intro k
  induction k with
  | zero => exact ch_all ok
  | succ k ih =>
    rw [foN_s]
    exact ch_and ih (ch_such ok _ _)
theorem foB_pty (σ f g : xs) : ∀ k p, foB σ f g k p = true → pty σ p = true := by
  intro k
  induction k with
  | zero => intro p h; exact h
  | succ k ih =>
    intro p h
    rw [show foB σ f g (k + 1) p = (foB σ f g k p && (pty σ p && sop σ (f k) (g k) p)) from rfl] at h
    exact ih p (Bool.and_eq_true_iff.mp h).1
theorem bc10 : ∀ k, k < 1024 → bc (nI k) = nI (cnP (fun i => k.testBit i) 10) := by decide +kernel
theorem ch_bc {x : Int32} {f : Nat → Bool} (h : ch x f) : bc x = nI (cnP f 10) := by
  unfold ch at h
  rw [h, bc10 _ (ch_lt f)]
  congr 1
  exact cnP_cg 10 (fun i hi => by rw [sB_bit]; simp [hi])
theorem has_nx : ∀ m, m < 4 → ∀ k, k < 5 → (mHas (nI (2 ^ m - 1)) (nI k) = bI (k < m)) := by decide +kernel
theorem has_so {σ w : xs} (ok : hOk σ) (R : rr σ w) {s k : Nat} (hs : s < 2) (hk : k < ln σ s) : mHas (hNext w (nI s)) (nI k) = bI (¬ σ 12 ≤ nI k) := by
  have h5 := (ok.1 s hs).2
  have h3 := ok.2.2.2
  rw [rr_next R, hNext_p ok hs, has_nx _ (by omega) k (by omega), ok.2.1]
  apply bI_iff
  constructor
  · intro h q
    have := (nI_leI (by omega) (by omega)).mp q
    omega
  · intro h
    have : ¬ sn σ ≤ k := fun q => h (nI_le q (by omega))
    omega
set_option maxRecDepth 20000 in
theorem s_mIsSo {K : xK} {B : Nat} {l : Launch} {h0 h : xH} {Y : Nat} {m : Nat → Int32} {rd : Value} {ru ot : Nat} {u : Nat → Nat → Int32} {v : Nat → Int64} (W : xMw K h0 h Y m rd ru ot u v) {σ : xs} (ok : hOk σ) (R : rr σ (u 1)) {p : Nat} (hp : p < 10) (hpt : p % 5 < ln σ (p / 5)) {what : Int32} (hw : what = 0 ∨ what = 1 ∨ what = 2 ∨ what = 3) (x : Int32) : xV K B l 3 mX12_isSo 0 0 (Y) [.int (nI p), .int what, .int x] h (xPi (fun zr g => zr = hSo σ (nI (p / 5)) (nI (p % 5)) what x ∧ xMw K h0 g Y m rd ru ot u v)) := by
  refine ⟨⟨_, _, _, _, W.o, rfl⟩, qX12_isSo, ?_⟩
  refine xS.intro RX12 false ⟨rfl, rfl, by decide, by decide, Nat.le_of_ble_eq_true rfl⟩ (ls := [some (.ref Y), some (.int (nI p)), some (.int what), some (.int x), none, none]) rfl ?_
  refine xr_il1 dX12_isSo_0 ?_
  refine xr_ic5 dX12_isSo_1 ?_
  refine xr_idiv dX12_isSo_2 (by decide) ?_
  refine xr_eqi (y := nI (p / 5)) (pk_div (d := 5) (by omega) (by decide) (by decide)) ?_
  refine xr_is4 dX12_isSo_3 (by decide) rfl ?_
  refine xr_il1 dX12_isSo_5 ?_
  refine xr_ic5 dX12_isSo_6 ?_
  refine xr_irem dX12_isSo_7 (by decide) ?_
  refine xr_eqi (y := nI (p % 5)) (pk_rem (d := 5) (by omega) (by decide) (by decide)) ?_
  refine xr_is5 dX12_isSo_8 (by decide) rfl ?_
  refine xr_il2 dX12_isSo_10 ?_
  rcases hw with rfl | rfl | rfl | rfl
  · skip
    refine xr_tabIn (tgt := 36) dX12_isSo_11 (by decide) (by decide) rfl (by decide) ?_
    refine xr_il4 dX12_isSo_36 ?_
    refine xr_il3 dX12_isSo_38 ?_
    refine xr_icmpne (tgt := 46) dX12_isSo_39 (by decide) (fun zc39 => ?_) (fun zc39 => ?_)
    · skip
      refine xr_ic0 dX12_isSo_46 ?_
      refine xr_zret dX12_isSo_47 rfl (by first | rfl | decide | assumption) ?_
      exact ⟨_, rfl, (bI_f zc39).symm, W⟩
    · skip
      refine xr_ic1 dX12_isSo_42 ?_
      refine xr_goto (tgt := 47) dX12_isSo_43 (by decide) ?_
      refine xr_zret dX12_isSo_47 rfl (by first | rfl | decide | assumption) ?_
      exact ⟨_, rfl, (bI_t zc39).symm, W⟩
  · skip
    refine xr_tabIn (tgt := 48) dX12_isSo_11 (by decide) (by decide) rfl (by decide) ?_
    refine xr_al0 dX12_isSo_48 ?_
    refine xr_get W.o fX12_9 rfl dX12_isSo_49 ?_
    refine xr_il1 dX12_isSo_52 ?_
    refine xr_iald W.a1 (xix_nI (n := 19) (j := p) (by omega) (by decide)) dX12_isSo_53 ?_
    refine xr_eqi (y := hWat σ (nI (p / 5)) (nI (p % 5))) (by rw [(hWat_at ok (s := p / 5) (by omega) hpt).2, show u 1 p = u 1 (5 * (p / 5) + p % 5) from by rw [show 5 * (p / 5) + p % 5 = p by omega]]; exact R.2 _ (by omega) _ hpt) ?_
    refine xr_il3 dX12_isSo_54 ?_
    refine xr_icmplt (tgt := 62) dX12_isSo_55 (by decide) (fun zc55 => ?_) (fun zc55 => ?_)
    · skip
      refine xr_ic0 dX12_isSo_62 ?_
      refine xr_zret dX12_isSo_63 rfl (by first | rfl | decide | assumption) ?_
      exact ⟨_, rfl, (bI_f (fun q => q zc55)).symm, W⟩
    · skip
      refine xr_ic1 dX12_isSo_58 ?_
      refine xr_goto (tgt := 63) dX12_isSo_59 (by decide) ?_
      refine xr_zret dX12_isSo_63 rfl (by first | rfl | decide | assumption) ?_
      exact ⟨_, rfl, (bI_t zc55).symm, W⟩
  · skip
    refine xr_tabIn (tgt := 64) dX12_isSo_11 (by decide) (by decide) rfl (by decide) ?_
    refine xr_il5 dX12_isSo_64 ?_
    refine xr_il3 dX12_isSo_66 ?_
    refine xr_icmpne (tgt := 74) dX12_isSo_67 (by decide) (fun zc67 => ?_) (fun zc67 => ?_)
    · skip
      refine xr_ic0 dX12_isSo_74 ?_
      refine xr_zret dX12_isSo_75 rfl (by first | rfl | decide | assumption) ?_
      exact ⟨_, rfl, (bI_f zc67).symm, W⟩
    · skip
      refine xr_ic1 dX12_isSo_70 ?_
      refine xr_goto (tgt := 75) dX12_isSo_71 (by decide) ?_
      refine xr_zret dX12_isSo_75 rfl (by first | rfl | decide | assumption) ?_
      exact ⟨_, rfl, (bI_t zc67).symm, W⟩
  · skip
    refine xr_tabOut (tgt := 76) dX12_isSo_11 (by decide) (by decide) ?_
    refine xr_al0 dX12_isSo_76 ?_
    refine xr_get W.o fX12_9 rfl dX12_isSo_77 ?_
    refine xr_il4 dX12_isSo_80 ?_
    refine xr_Si2 (s_mNextOf W.a1 (rr_ok R ok) (s := p / 5) (by omega)) kX12_234 (by decide) (Nat.le_of_ble_eq_true rfl) (Nat.zero_add _) (Nat.zero_add _) dX12_isSo_82 ?_
    refine xr_il5 dX12_isSo_85 ?_
    refine xr_Si2 (s_mHas _ _) kX12_183 (by decide) (Nat.le_of_ble_eq_true rfl) (Nat.zero_add _) (Nat.zero_add _) dX12_isSo_87 ?_
    refine xr_eqi (y := bI (¬ σ 12 ≤ nI (p % 5))) (has_so ok R (by omega) hpt) ?_
    refine xr_il3 dX12_isSo_90 ?_
    refine xr_ic1 dX12_isSo_91 ?_
    refine xr_icmpne (tgt := 99) dX12_isSo_92 (by decide) (fun zc92 => ?_) (fun zc92 => ?_)
    · skip
      refine xr_ic0 dX12_isSo_99 ?_
      refine xr_icmpne (tgt := 107) dX12_isSo_100 (by decide) (fun zc100 => ?_) (fun zc100 => ?_)
      · skip
        refine xr_ic0 dX12_isSo_107 ?_
        refine xr_zret dX12_isSo_108 rfl (by first | rfl | decide | assumption) ?_
        exact ⟨_, rfl, (bI_f (by rw [(bI_f zc92)]; exact zc100)).symm, W⟩
      · skip
        refine xr_ic1 dX12_isSo_103 ?_
        refine xr_goto (tgt := 108) dX12_isSo_104 (by decide) ?_
        refine xr_zret dX12_isSo_108 rfl (by first | rfl | decide | assumption) ?_
        exact ⟨_, rfl, (bI_t (by rw [(bI_f zc92)]; exact zc100)).symm, W⟩
    · skip
      refine xr_ic1 dX12_isSo_95 ?_
      refine xr_goto (tgt := 100) dX12_isSo_96 (by decide) ?_
      refine xr_icmpne (tgt := 107) dX12_isSo_100 (by decide) (fun zc100 => ?_) (fun zc100 => ?_)
      · skip
        refine xr_ic0 dX12_isSo_107 ?_
        refine xr_zret dX12_isSo_108 rfl (by first | rfl | decide | assumption) ?_
        exact ⟨_, rfl, (bI_f (by rw [(bI_t zc92)]; exact zc100)).symm, W⟩
      · skip
        refine xr_ic1 dX12_isSo_103 ?_
        refine xr_goto (tgt := 108) dX12_isSo_104 (by decide) ?_
        refine xr_zret dX12_isSo_108 rfl (by first | rfl | decide | assumption) ?_
        exact ⟨_, rfl, (bI_t (by rw [(bI_t zc92)]; exact zc100)).symm, W⟩
theorem foB_s (σ f g : xs) (k p : Nat) : foB σ f g (k + 1) p = (foB σ f g k p && (pty σ p && sop σ (f k) (g k) p)) := rfl
theorem foB_dn {σ f g : xs} {p : Nat} {k : Nat} (h : foB σ f g k p = false) : ∀ d, foB σ f g (k + d) p = false := by
  intro d
  induction d with
  | zero => exact h
  | succ d ih =>
    rw [show k + (d + 1) = (k + d) + 1 from rfl, foB_s, ih]
    rfl
theorem b01 (b : Bool) : (if b = true then (1 : Int32) else 0) = 0 ↔ b = false := by cases b <;> decide
theorem so01 (σ : xs) (what v : Int32) (p : Nat) : hSo σ (nI (p / 5)) (nI (p % 5)) what v = (if sop σ what v p = true then 1 else 0) := by
  unfold sop
  have z : hSo σ (nI (p / 5)) (nI (p % 5)) what v = 0 ∨ hSo σ (nI (p / 5)) (nI (p % 5)) what v = 1 := by
    unfold hSo bI
    repeat' split
    all_goals first | exact Or.inl rfl | exact Or.inr rfl
  rcases z with z | z
  · rw [z]
    rfl
  · rw [z]
    rfl
set_option maxRecDepth 20000 in
theorem lp_mFitI {K : xK} {B : Nat} {l : Launch} {h0 : xH} {Y : Nat} {m : xs} {u : Nat → Nat → Int32} {v : Nat → Int64} {tn : Nat} {tf : xs} {rk : Int32} {rv : Nat → Int64} {σ : xs} {pn : Nat} {τ : Nat → xs} {ks : Nat → Bool} {κ : Nat → xs} {φ : xs → Int32} {hn : Nat} {hf hg : xs} {wn : Nat} {wf wg : xs} (C : maC K B l Y m u v tn tf rk rv σ pn τ ks κ φ hn hf hg wn wf wg) (h5 : m 5 = 0) {rd : Value} {Q : Option Value → xH → Prop} {p : Nat} (hp : p < 10) {x : Int32} (hc : ∀ {h : xH} {x4 : Option Value}, xMw K h0 h Y m rd (Y + 6) (Y + 7) u v → xT K B l 4 RX12 false cX12_fitting 5 (some .int) 0 0 0 0 (Q) 63 [some (.ref Y), some (.int x), some (.int (nI p)), some (.int (if foB σ hf hg hn p = true then 1 else 0)), x4] [] h) : ∀ (r k : Nat) {h : xH} (W : xMw K h0 h Y m rd (Y + 6) (Y + 7) u v), k + r = hn → xT K B l 4 RX12 false cX12_fitting 5 (some .int) 0 0 0 0 (Q) 24 [some (.ref Y), some (.int x), some (.int (nI p)), some (.int (if foB σ hf hg k p = true then 1 else 0)), some (.int (nI k))] [] h := by
  obtain ⟨T, Rw, ⟨R, ok, iv⟩, P, Kp, L, H, Sw⟩ := id C
  intro r
  induction r with
  | zero =>
    intro k h W hk
    have hk0 : hn = k := by omega
    have h12 := H.2.1
    refine xr_il4 dX12_fitting_24 ?_
    refine xr_al0 dX12_fitting_26 ?_
    refine xr_get W.o fX12_345 rfl dX12_fitting_27 ?_
    refine xr_eqi (y := nI hn) H.1 ?_
    refine xr_icmpge (tgt := 63) dX12_fitting_30 (by decide) (fun zc30 => ?_) (fun zc30 => ?_)
    · skip
      rw [← hk0]
      exact hc W
    · skip
      exact absurd (nI_le (by omega) (by omega)) zc30
  | succ r ih =>
    intro k h W hk
    have h12 := H.2.1
    obtain ⟨h1, h2, h3⟩ := H.2.2 k (by omega)
    refine xr_il4 dX12_fitting_24 ?_
    refine xr_al0 dX12_fitting_26 ?_
    refine xr_get W.o fX12_345 rfl dX12_fitting_27 ?_
    refine xr_eqi (y := nI hn) H.1 ?_
    refine xr_icmpge (tgt := 63) dX12_fitting_30 (by decide) (fun zc30 => ?_) (fun zc30 => ?_)
    · skip
      exact absurd zc30 (nI_ge (by omega) (by omega))
    · skip
      refine xr_il3 dX12_fitting_33 ?_
      refine xr_ifeq (tgt := 63) dX12_fitting_34 (by decide) (fun zc34 => ?_) (fun zc34 => ?_)
      · skip
        have ff := (b01 _).mp zc34
        have fe := foB_dn ff (r + 1)
        rw [show k + (r + 1) = hn by omega] at fe
        rw [fe] at hc
        rw [ff]
        exact hc W
      · skip
        have ft : foB σ hf hg k p = true := Bool.not_eq_false _ |>.mp (fun q => zc34 ((b01 _).mpr q))
        refine xr_al0 dX12_fitting_37 ?_
        refine xr_il2 dX12_fitting_38 ?_
        refine xr_al0 dX12_fitting_39 ?_
        refine xr_get W.o fX12_60 rfl dX12_fitting_40 ?_
        refine xr_il4 dX12_fitting_43 ?_
        refine xr_iald W.a17 (xix_nI (n := 12) (j := k) (by omega) (by decide)) dX12_fitting_45 ?_
        refine xr_eqi (y := hf k) h1 ?_
        refine xr_al0 dX12_fitting_46 ?_
        refine xr_get W.o fX12_63 rfl dX12_fitting_47 ?_
        refine xr_il4 dX12_fitting_50 ?_
        refine xr_iald W.a18 (xix_nI (n := 12) (j := k) (by omega) (by decide)) dX12_fitting_52 ?_
        refine xr_eqi (y := hg k) h2 ?_
        refine xr_Vpi3 (s_mIsSo W ok R hp (of_decide_eq_true (foB_pty σ hf hg k p ft)) h3 _) kX12_348 (by decide) (Nat.le_of_ble_eq_true rfl) (Nat.zero_add _) (Nat.zero_add _) dX12_fitting_53 (fun zv53 zh1 zq1 => ?_)
        obtain ⟨rfl, W⟩ := zq1
        refine xr_is3 dX12_fitting_56 (by decide) rfl ?_
        refine xr_inc4 dX12_fitting_57 (nI_inc k) (by decide) rfl ?_
        refine xr_goto (tgt := 24) dX12_fitting_60 (by decide) ?_
        have e : hSo σ (nI (p / 5)) (nI (p % 5)) (hf k) (hg k) = (if foB σ hf hg (k + 1) p = true then 1 else 0) := by
          rw [foB_s, ft, foB_pty σ hf hg k p ft, Bool.true_and, Bool.true_and]
          exact so01 σ _ _ p
        rw [e]
        exact ih (k + 1) W (by omega)
theorem par01 {σ w : xs} (R : rr σ w) (ok : hOk σ) {p : Nat} (hp : p < 10) {f g : xs} : mPar w (nI (p / 5)) (nI (p % 5)) = (if foB σ f g 0 p = true then 1 else 0) := by
  show _ = (if pty σ p = true then 1 else 0)
  have k1 := mPar_iff R ok (x := nI (p / 5)) (y := nI (p % 5))
  by_cases c : p % 5 < ln σ (p / 5)
  · have h := (hWat_at ok (s := p / 5) (by omega) c).1
    rw [if_pos (show pty σ p = true from decide_eq_true c)]
    have z := k1.mpr h
    unfold mPar at z ⊢
    by_cases d : mIn (nI (p / 5)) 0 1 = 0
    · rw [if_pos d] at z
      exact absurd rfl z
    · rw [if_neg d] at z ⊢
      exact mIn_1 z
  · rw [if_neg (show ¬ pty σ p = true from fun q => c (of_decide_eq_true q))]
    refine Decidable.not_not.mp (fun z => ?_)
    obtain ⟨s, k, hs, hk, e1, e2⟩ := hHas_at ok (k1.mp z)
    have := (ok.1 s hs).2
    have e1 := (nI_eq (by omega) (by omega)).mp e1
    have e2 := (nI_eq (by omega) (by omega)).mp e2
    rw [e1, e2] at c
    exact c hk
set_option maxRecDepth 20000 in
theorem lp_mFitO {K : xK} {B : Nat} {l : Launch} {h0 : xH} {Y : Nat} {m : xs} {u : Nat → Nat → Int32} {v : Nat → Int64} {tn : Nat} {tf : xs} {rk : Int32} {rv : Nat → Int64} {σ : xs} {pn : Nat} {τ : Nat → xs} {ks : Nat → Bool} {κ : Nat → xs} {φ : xs → Int32} {hn : Nat} {hf hg : xs} {wn : Nat} {wf wg : xs} (C : maC K B l Y m u v tn tf rk rv σ pn τ ks κ φ hn hf hg wn wf wg) (h5 : m 5 = 0) {rd : Value} : ∀ (r p : Nat) {x : Int32} {x3 x4 : Option Value} {h : xH} (hx : ch x (fun i => decide (i < p) && (foB σ hf hg hn) i)) (W : xMw K h0 h Y m rd (Y + 6) (Y + 7) u v), p + r = 10 → xT K B l 4 RX12 false cX12_fitting 5 (some .int) 0 0 0 0 (xPi (fun zr g => zr = foN σ hf hg hn ∧ xMw K h0 g Y m rd (Y + 6) (Y + 7) u v)) 4 [some (.ref Y), some (.int x), some (.int (nI p)), x3, x4] [] h := by
  obtain ⟨T, Rw, ⟨R, ok, iv⟩, P, Kp, L, H, Sw⟩ := id C
  intro r
  induction r with
  | zero =>
    intro p x x3 x4 h hx W hk
    refine xr_il2 dX12_fitting_4 ?_
    refine xr_bipush (v := 10) dX12_fitting_5 (by decide) ?_
    refine xr_icmpge (tgt := 83) dX12_fitting_7 (by decide) (fun zc7 => ?_) (fun zc7 => ?_)
    · skip
      refine xr_il1 dX12_fitting_83 ?_
      refine xr_iret dX12_fitting_84 rfl ?_
      have p10 : p = 10 := by omega
      subst p10
      exact ⟨_, rfl, ch_eq (ch_cg hx (fun i hi => by simp [hi])) (ch_fo ok hf hg hn), W⟩
    · skip
      exact absurd (nI_le (a := 10) (by omega) (by omega)) zc7
  | succ r ih =>
    intro p x x3 x4 h hx W hk
    refine xr_il2 dX12_fitting_4 ?_
    refine xr_bipush (v := 10) dX12_fitting_5 (by decide) ?_
    refine xr_icmpge (tgt := 83) dX12_fitting_7 (by decide) (fun zc7 => ?_) (fun zc7 => ?_)
    · skip
      exact absurd zc7 (nI_ge (b := 10) (by omega) (by decide))
    · skip
      refine xr_al0 dX12_fitting_10 ?_
      refine xr_il2 dX12_fitting_11 ?_
      refine xr_ic5 dX12_fitting_12 ?_
      refine xr_idiv dX12_fitting_13 (by decide) ?_
      refine xr_eqi (y := nI (p / 5)) (pk_div (d := 5) (by omega) (by decide) (by decide)) ?_
      refine xr_il2 dX12_fitting_14 ?_
      refine xr_ic5 dX12_fitting_15 ?_
      refine xr_irem dX12_fitting_16 (by decide) ?_
      refine xr_eqi (y := nI (p % 5)) (pk_rem (d := 5) (by omega) (by decide) (by decide)) ?_
      refine xr_Vpi2 (s_mPar W _ _) kX12_204 (by decide) (Nat.le_of_ble_eq_true rfl) (Nat.zero_add _) (Nat.zero_add _) dX12_fitting_17 (fun zv17 zh1 zq1 => ?_)
      obtain ⟨rfl, W⟩ := zq1
      refine xr_eqi (y := (if foB σ hf hg 0 p = true then 1 else 0)) (par01 R ok (by omega)) ?_
      refine xr_is3 dX12_fitting_20 (by decide) rfl ?_
      refine xr_ic0 dX12_fitting_21 ?_
      refine xr_is4 dX12_fitting_22 (by decide) rfl ?_
      refine lp_mFitI C h5 (by omega) (fun {h} {x4} W => ?_) hn 0 W (by omega)
      refine xr_il1 dX12_fitting_63 ?_
      refine xr_il3 dX12_fitting_64 ?_
      refine xr_ifeq (tgt := 74) dX12_fitting_65 (by decide) (fun zc65 => ?_) (fun zc65 => ?_)
      · skip
        refine xr_ic0 dX12_fitting_74 ?_
        refine xr_ior dX12_fitting_75 ?_
        refine xr_is1 dX12_fitting_76 (by decide) rfl ?_
        refine xr_inc2 dX12_fitting_77 (nI_inc p) (by decide) rfl ?_
        refine xr_goto (tgt := 4) dX12_fitting_80 (by decide) ?_
        have ff := (b01 _).mp zc65
        rw [show x ||| 0 = x from Int32.or_zero]
        refine ih (p + 1) (ch_cg hx (fun i hi => ?_)) W (by omega)
        by_cases e : i = p
        · subst e
          simp [ff]
        · have : (i < p) ↔ (i < p + 1) := by omega
          simp only [this]
      · skip
        refine xr_ic1 dX12_fitting_68 ?_
        refine xr_il2 dX12_fitting_69 ?_
        refine xr_ishl dX12_fitting_70 ?_
        refine xr_goto (tgt := 75) dX12_fitting_71 (by decide) ?_
        refine xr_ior dX12_fitting_75 ?_
        refine xr_is1 dX12_fitting_76 (by decide) rfl ?_
        refine xr_inc2 dX12_fitting_77 (nI_inc p) (by decide) rfl ?_
        refine xr_goto (tgt := 4) dX12_fitting_80 (by decide) ?_
        have ft : foB σ hf hg hn p = true := Bool.not_eq_false _ |>.mp (fun q => zc65 ((b01 _).mpr q))
        refine ih (p + 1) (ch_cg (ch_or hx (p := p) (by omega)) (fun i hi => ?_)) W (by omega)
        by_cases e : i = p
        · subst e
          simp [ft]
        · have : (i < p) ↔ (i < p + 1) := by omega
          simp only [this, beq_eq_false_iff_ne.mpr e, Bool.or_false]
set_option maxRecDepth 20000 in
theorem s_mFitting {K : xK} {B : Nat} {l : Launch} {h0 h : xH} {Y : Nat} {m : xs} {u : Nat → Nat → Int32} {v : Nat → Int64} {tn : Nat} {tf : xs} {rk : Int32} {rv : Nat → Int64} {σ : xs} {pn : Nat} {τ : Nat → xs} {ks : Nat → Bool} {κ : Nat → xs} {φ : xs → Int32} {hn : Nat} {hf hg : xs} {wn : Nat} {wf wg : xs} (C : maC K B l Y m u v tn tf rk rv σ pn τ ks κ φ hn hf hg wn wf wg) (h5 : m 5 = 0) {rd : Value} (W : xMw K h0 h Y m rd (Y + 6) (Y + 7) u v) : xV K B l 4 mX12_fitting 0 0 (Y) [] h (xPi (fun zr g => zr = foN σ hf hg hn ∧ xMw K h0 g Y m rd (Y + 6) (Y + 7) u v)) := by
  refine ⟨⟨_, _, _, _, W.o, rfl⟩, qX12_fitting, ?_⟩
  refine xS.intro RX12 false ⟨rfl, rfl, by decide, by decide, Nat.le_of_ble_eq_true rfl⟩ (ls := [some (.ref Y), none, none, none, none]) rfl ?_
  refine xr_ic0 dX12_fitting_0 ?_
  refine xr_is1 dX12_fitting_1 (by decide) rfl ?_
  refine xr_ic0 dX12_fitting_2 ?_
  refine xr_is2 dX12_fitting_3 (by decide) rfl ?_
  exact lp_mFitO C h5 10 0 (ch_cg ch_0 (fun i _ => by simp)) W (by omega)
set_option maxRecDepth 20000 in
theorem a_fits {K : xK} {B : Nat} {l : Launch} {h0 h : xH} {Y : Nat} {th : Int32} {tn : Nat} {tf : xs} {rk : Int32} {rv : Nat → Int64} {σ : xs} {pn : Nat} {τ : Nat → xs} {ks : Nat → Bool} {κ : Nat → xs} {φ : xs → Int32} {hn : Nat} {hf hg : xs} {wn : Nat} {wf wg : xs} (A : xMa K B l h0 h Y th tn tf rk rv σ pn τ ks κ φ hn hf hg wn wf wg)  : xV K B l 206 mX12_fits 0 0 (Y) [] h (xPi (fun zr g => zr = foN σ hf hg hn ∧ xMa K B l h0 g Y 0 tn tf 1 (tl1 rv (bc (foN σ hf hg hn))) σ pn τ ks κ φ hn hf hg wn wf wg)) := by
  obtain ⟨m, rd, u, v, W, T, Rw, ⟨R, ok, iv⟩, P, Kp, L, H, Sw, hth⟩ := A
  refine ⟨⟨_, _, _, _, W.o, rfl⟩, qX12_fits, ?_⟩
  refine xS.intro RX12 false ⟨rfl, rfl, by decide, by decide, Nat.le_of_ble_eq_true rfl⟩ (ls := [some (.ref Y), none]) rfl ?_
  refine xr_al0 dX12_fits_0 ?_
  refine xr_ic0 dX12_fits_1 ?_
  refine xr_put W.o fX12_82 (Nat.le_of_ble_eq_true rfl) rfl rfl dX12_fits_2 ?_
  refine xT.nm (fun zh1 zg1 => ?_)
  have W := W.f5 zg1
  have C : maC K B l Y (upd m 5 0) u v tn tf rk rv σ pn τ ks κ φ hn hf hg wn wf wg := ⟨T, Rw, ⟨R, ok, iv⟩, P, Kp, L, H, Sw⟩
  refine xr_al0 dX12_fits_5 ?_
  refine xr_Vpi0 (s_mFitting C rfl W) kX12_351 (by decide) (Nat.le_of_ble_eq_true rfl) (Nat.zero_add _) (Nat.zero_add _) dX12_fits_6 (fun zv6 zh2 zq2 => ?_)
  obtain ⟨rfl, W⟩ := zq2
  refine xr_is1 dX12_fits_9 (by decide) rfl ?_
  refine xr_al0 dX12_fits_10 ?_
  refine xr_ic0 dX12_fits_11 ?_
  refine xr_put W.o fX12_86 (Nat.le_of_ble_eq_true rfl) rfl rfl dX12_fits_12 ?_
  refine xT.nm (fun zh3 zg3 => ?_)
  have W := W.f4 zg3
  refine xr_al0 dX12_fits_15 ?_
  refine xr_il1 dX12_fits_16 ?_
  refine xr_Si1 (s_bitCount _) kX12_229 (by decide) (Nat.le_of_ble_eq_true rfl) (Nat.zero_add _) (Nat.zero_add _) dX12_fits_17 ?_
  refine xr_i2l dX12_fits_20 ?_
  refine xr_Vpv1 (s_mTell W (k := 0) rfl (by decide) _) kX12_253 (by decide) (Nat.le_of_ble_eq_true rfl) (Nat.zero_add _) (Nat.zero_add _) dX12_fits_21 (fun zh4 zq4 => ?_)
  have W := zq4
  refine xr_il1 dX12_fits_24 ?_
  refine xr_iret dX12_fits_25 rfl ?_
  exact ⟨_, rfl, rfl, ⟨_, _, _, _, W, T, maR1 _, ⟨R, ok, iv⟩, P, Kp, L, H, Sw, rfl⟩⟩
