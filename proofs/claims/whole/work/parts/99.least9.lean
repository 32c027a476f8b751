/-! The model's rows are the least waters too -/
theorem nx_e {X Z : Nat} (hX : X < 2 ^ 31) (hZ : Z < 2 ^ 31) : nI X &&& (nI Z ^^^ (-1)) = nI ((X &&& Z) ^^^ X) := by
  have l1 : X &&& Z < 2 ^ 31 := Nat.lt_of_le_of_lt Nat.and_le_left hX
  have l2 : (X &&& Z) ^^^ X < 2 ^ 31 := Nat.xor_lt_two_pow l1 hX
  apply Int32.toBitVec_inj.mp
  apply BitVec.eq_of_toNat_eq
  rw [Int32.toBitVec_and, Int32.toBitVec_xor, BitVec.toNat_and, BitVec.toNat_xor, pk_tn (by omega), pk_tn (by omega), pk_tn (by omega), show (-1 : Int32).toBitVec.toNat = 2 ^ 32 - 1 from rfl, Nat.and_xor_distrib_left, Nat.and_two_pow_sub_one_of_lt_two_pow (by omega)]
theorem xz_e {a b : Nat} (h : a ^^^ b = 0) : a = b := by
  have := congrArg (fun z => z ^^^ b) h
  simp only [Nat.xor_assoc, Nat.xor_self, Nat.xor_zero, Nat.zero_xor] at this
  exact this
theorem nx_0 {X Z : Nat} (hX : X < 2 ^ 31) (hZ : Z < 2 ^ 31) : nI X &&& (nI Z ^^^ (-1)) = 0 ↔ X &&& Z = X := by
  have l1 : X &&& Z < 2 ^ 31 := Nat.lt_of_le_of_lt Nat.and_le_left hX
  have l2 : (X &&& Z) ^^^ X < 2 ^ 31 := Nat.xor_lt_two_pow l1 hX
  rw [nx_e hX hZ, show (0 : Int32) = nI 0 from rfl, nI_eq l2 (by decide)]
  constructor
  · exact xz_e
  · intro h
    rw [h, Nat.xor_self]
theorem and_sp {a b a0 b0 : Nat} (ha : a < 32) (h0 : a0 < 32) : (a + 32 * b) &&& (a0 + 32 * b0) = (a &&& a0) + 32 * (b &&& b0) := by
  have e1 := Nat.and_mod_two_pow (a := a + 32 * b) (b := a0 + 32 * b0) (n := 5)
  have e2 := Nat.and_div_two_pow (a := a + 32 * b) (b := a0 + 32 * b0) (n := 5)
  rw [show (2 : Nat) ^ 5 = 32 from rfl] at e1 e2
  rw [show (a + 32 * b) % 32 = a by omega, show (a0 + 32 * b0) % 32 = a0 by omega] at e1
  rw [show (a + 32 * b) / 32 = b by omega, show (a0 + 32 * b0) / 32 = b0 by omega] at e2
  omega
theorem xor_sp {a b a0 b0 : Nat} (ha : a < 32) (h0 : a0 < 32) : (a + 32 * b) ^^^ (a0 + 32 * b0) = (a ^^^ a0) + 32 * (b ^^^ b0) := by
  have e1 := Nat.xor_mod_two_pow (a := a + 32 * b) (b := a0 + 32 * b0) (n := 5)
  have e2 := Nat.xor_div_two_pow (a := a + 32 * b) (b := a0 + 32 * b0) (n := 5)
  rw [show (2 : Nat) ^ 5 = 32 from rfl] at e1 e2
  rw [show (a + 32 * b) % 32 = a by omega, show (a0 + 32 * b0) % 32 = a0 by omega] at e1
  rw [show (a + 32 * b) / 32 = b by omega, show (a0 + 32 * b0) / 32 = b0 by omega] at e2
  omega
theorem sr_5 : ∀ X, X < 1024 → nI X >>> ((5 : Int32) &&& 31) = nI (X / 32) := by decide +kernel
theorem loX_e {a b a0 b0 : Nat} (h0 : a0 < 32) (h1 : b0 < 32) (ha : a &&& a0 = a) (hb : b &&& b0 = b) : (loX (nI (a0 + 32 * b0)) a b).toNatClampNeg = (a0 ^^^ a) + 32 * (b0 ^^^ b) := by
  have la := sb_le ha
  have lb := sb_le hb
  have xa : a0 ^^^ a < 32 := x32 h0 (by omega)
  have xb : b0 ^^^ b < 32 := x32 h1 (by omega)
  unfold loX
  rw [wh_or a (by omega) b (by omega), nx_e (by omega) (by omega), and_sp h0 (by omega), Nat.and_comm a0 a, Nat.and_comm b0 b, ha, hb, xor_sp (by omega) h0, Nat.xor_comm a a0, Nat.xor_comm b b0]
  exact nI_clamp (by omega)
def enM (o : Option Nat) : Int32 := match o with
  | none => 1000000
  | some y => nI y
def fwT (σ : xs) (fr : Bool) (t : Nat) (f4 : xs) : Prop := ∀ a b, a ≤ aN σ 0 → b ≤ aN σ 1 → f4 (a + 32 * b) = enM (MM (sn σ) (wfN σ) fr t a b)
theorem mv_e : (1000000 : Int32) = nI 1000000 := rfl
theorem wgV_s {σ : xs} (iv : hIv σ) (ok : hOk σ) {s g : Nat} (hs : s < 2) (hg : g < 32) : (¬ wgV σ (32 * s + g) < 0 ↔ pcM g ≤ sn σ) ∧ (pcM g ≤ sn σ → wgV σ (32 * s + g) = wt σ s (nI g)) := by
  rw [wgV_at σ hg]
  obtain ⟨q, hq, e⟩ := wt_b iv ok hs (nI g)
  by_cases c : σ 12 < bc (nI g)
  · rw [if_pos c]
    exact ⟨⟨fun h => absurd (show (-1 : Int32) < 0 by decide) h, fun h => absurd c ((seat_i ok hg).mpr h)⟩, fun h => absurd c ((seat_i ok hg).mpr h)⟩
  · rw [if_neg c]
    exact ⟨⟨fun _ => (seat_i ok hg).mp c, fun _ => by rw [e]; exact nI_pos (by omega)⟩, fun _ => rfl⟩
theorem loW_e {σ : xs} (iv : hIv σ) (ok : hOk σ) {f6 : xs} (h6 : ∀ i, i < 64 → f6 i = wgV σ i) {a b : Nat} (ha : a < 32) (hb : b < 32) (pa : pcM a ≤ sn σ) (pb : pcM b ≤ sn σ) : loW f6 (σ 13) a b = nI (wfN σ a b) := by
  rw [← (wfN_e iv ok a b).1]
  unfold loW hWater
  have e0 := (wgV_s iv ok (s := 0) (g := a) (by decide) ha).2 pa
  have e1 := (wgV_s iv ok (s := 1) (g := b) (by decide) hb).2 pb
  rw [show 32 * 0 + a = a by omega] at e0
  rw [show 32 * 1 + b = 32 + b by omega] at e1
  rw [h6 _ (by omega), h6 _ (by omega), e0, e1]
theorem mm_b {σ : xs} (iv : hIv σ) (ok : hOk σ) {fr : Bool} {t : Nat} (ht : t ≤ 10) {a0 b0 : Nat} (h0 : a0 < 32) (h1 : b0 < 32) (j w : Nat) (h : cnd (sn σ) (wfN σ) fr (MM (sn σ) (wfN σ) fr t) a0 b0 j = some w) : w < 1000000 := by
  obtain ⟨ho, y, hy, rfl⟩ := cnd_s h
  have l1 := sb_le ho.1
  have l2 := sb_le ho.2.1
  have := MM_b (fun p q => (wfN_e iv ok p q).2) (x32 h0 (by omega)) (x32 h1 (by omega)) hy
  have := (wfN_e iv ok (j / 32) (j % 32)).2
  omega
theorem lo1_is {σ : xs} (iv : hIv σ) (ok : hOk σ) {fr : Bool} {fi : Int32} (hfr : fi = 0 ↔ fr = false) {t : Nat} (ht : t ≤ 10) {f4 f6 : xs} (h4 : fwT σ fr t f4) (h6 : ∀ i, i < 64 → f6 i = wgV σ i) {fa fb : Int32} {a0 b0 : Nat} (h0 : a0 ≤ aN σ 0) (h1 : b0 ≤ aN σ 1) {a b : Nat} (ha : a &&& a0 = a) (pa : pcM a ≤ sn σ) (hb : b < 32) : lo1 f6 f4 (σ 13) fi (nI (a0 + 32 * b0)) a b (e3 1000000 fa fb (bst (cnd (sn σ) (wfN σ) fr (MM (sn σ) (wfN σ) fr t) a0 b0) (32 * a + b))) = e3 1000000 fa fb (bst (cnd (sn σ) (wfN σ) fr (MM (sn σ) (wfN σ) fr t) a0 b0) (32 * a + b + 1)) := by
  have g0 := (hAll_n ok (s := 0) (by decide)).2
  have g1 := (hAll_n ok (s := 1) (by decide)).2
  have la := sb_le ha
  have hv := mm_b iv ok (fr := fr) ht (a0 := a0) (b0 := b0) (by omega) (by omega)
  have c1 : nI b &&& ((nI (a0 + 32 * b0) >>> ((5 : Int32) &&& 31)) ^^^ (-1)) = 0 ↔ b &&& b0 = b := by
    rw [sr_5 _ (by omega), show (a0 + 32 * b0) / 32 = b0 by omega]
    exact nx_0 (by omega) (by omega)
  have c2 := (wgV_s iv ok (s := 1) (g := b) (by decide) hb).1
  rw [show 32 * 1 + b = 32 + b by omega, ← h6 _ (by omega)] at c2
  have c3 : nI a + nI b = 0 ↔ (a = 0 ∧ b = 0) := by
    rw [nI_add, show (0 : Int32) = nI 0 from rfl, nI_eq (by omega) (by decide)]
    omega
  have d1 : (32 * a + b) / 32 = a := by omega
  have d2 : (32 * a + b) % 32 = b := by omega
  have wb := (wfN_e iv ok a b).2
  have c4 : pcM b ≤ sn σ → ((fi = 0 ∨ loW f6 (σ 13) a b ≤ 0) ↔ (fr = true → wfN σ a b = 0)) := by
    intro pb
    rw [loW_e iv ok h6 (by omega) hb pa pb, hfr, show (0 : Int32) = nI 0 from rfl, nI_leI (by omega) (by decide)]
    cases fr <;> simp
  by_cases c : okT (sn σ) (wfN σ) fr a0 b0 a b
  · have lw := loW_e iv ok h6 (by omega) hb pa c.2.2.2.2.1
    have ix := loX_e (a0 := a0) (b0 := b0) (by omega) (by omega) ha c.2.1
    have f := h4 (a0 ^^^ a) (b0 ^^^ b) (Nat.le_trans (sb_sl ha) h0) (Nat.le_trans (sb_sl c.2.1) h1)
    unfold lo1
    rw [lw, ix, f]
    rcases em : MM (sn σ) (wfN σ) fr t (a0 ^^^ a) (b0 ^^^ b) with _ | y
    · have cn : cnd (sn σ) (wfN σ) fr (MM (sn σ) (wfN σ) fr t) a0 b0 (32 * a + b) = none := cnd_n (Or.inr (by rw [d1, d2]; exact em))
      rw [bst_sn cn, if_neg]
      rintro ⟨_, _, _, _, z⟩
      have z : nI (wfN σ a b) + nI 1000000 < _ := z
      rw [nI_add] at z
      have k := Int32.lt_of_lt_of_le z (e3_l mv_e (by omega) hv)
      rw [mv_e, nI_ltI (by omega) (by omega)] at k
      omega
    · have cn : cnd (sn σ) (wfN σ) fr (MM (sn σ) (wfN σ) fr t) a0 b0 (32 * a + b) = some (y + wfN σ a b) := cnd_pq hb c em
      rw [e3_s (p := fa) (q := fb) mv_e (by omega) hv cn, d1, d2, show nI (wfN σ a b) + enM (some y) = nI (y + wfN σ a b) from by rw [Nat.add_comm]; exact nI_add _ _]
      by_cases g : nI (y + wfN σ a b) < (e3 1000000 fa fb (bst (cnd (sn σ) (wfN σ) fr (MM (sn σ) (wfN σ) fr t) a0 b0) (32 * a + b))).1
      · rw [if_pos g, if_pos ⟨c1.mpr c.2.1, c2.mpr c.2.2.2.2.1, fun z => c.2.2.1 (c3.mp z), by rw [← lw]; exact (c4 c.2.2.2.2.1).mpr c.2.2.2.2.2, g⟩]
      · rw [if_neg g, if_neg (fun z => g z.2.2.2.2)]
  · have cn : cnd (sn σ) (wfN σ) fr (MM (sn σ) (wfN σ) fr t) a0 b0 (32 * a + b) = none := cnd_n (Or.inl (by rw [d1, d2]; exact c))
    rw [bst_sn cn]
    unfold lo1
    rw [if_neg]
    rintro ⟨z1, z2, z3, z4, _⟩
    have pb := c2.mp z2
    exact c ⟨ha, c1.mp z1, fun z => z3 (c3.mpr z), pa, pb, (c4 pb).mp z4⟩
theorem loI_is {σ : xs} (iv : hIv σ) (ok : hOk σ) {fr : Bool} {fi : Int32} (hfr : fi = 0 ↔ fr = false) {t : Nat} (ht : t ≤ 10) {f4 f6 : xs} (h4 : fwT σ fr t f4) (h6 : ∀ i, i < 64 → f6 i = wgV σ i) {fa fb : Int32} {a0 b0 : Nat} (h0 : a0 ≤ aN σ 0) (h1 : b0 ≤ aN σ 1) {a : Nat} (ha : a &&& a0 = a) (pa : pcM a ≤ sn σ) : ∀ (r b : Nat), b + r = 32 → loI f6 f4 (σ 13) fi (nI (a0 + 32 * b0)) a r b (e3 1000000 fa fb (bst (cnd (sn σ) (wfN σ) fr (MM (sn σ) (wfN σ) fr t) a0 b0) (32 * a + b))) = e3 1000000 fa fb (bst (cnd (sn σ) (wfN σ) fr (MM (sn σ) (wfN σ) fr t) a0 b0) (32 * a + 32)) := by
  intro r
  induction r with
  | zero =>
    intro b hb
    rw [show b = 32 by omega]
    rfl
  | succ r ih =>
    intro b hb
    show loI f6 f4 (σ 13) fi (nI (a0 + 32 * b0)) a r (b + 1) (lo1 f6 f4 (σ 13) fi (nI (a0 + 32 * b0)) a b _) = _
    rw [lo1_is iv ok hfr ht h4 h6 h0 h1 ha pa (by omega)]
    exact ih (b + 1) (by omega)
theorem loO_is {σ : xs} (iv : hIv σ) (ok : hOk σ) {fr : Bool} {fi : Int32} (hfr : fi = 0 ↔ fr = false) {t : Nat} (ht : t ≤ 10) {f4 f6 : xs} (h4 : fwT σ fr t f4) (h6 : ∀ i, i < 64 → f6 i = wgV σ i) {fa fb : Int32} {a0 b0 : Nat} (h0 : a0 ≤ aN σ 0) (h1 : b0 ≤ aN σ 1) : ∀ (r a : Nat), a + r = 32 → loO f6 f4 (σ 13) fi (nI (a0 + 32 * b0)) r a (e3 1000000 fa fb (bst (cnd (sn σ) (wfN σ) fr (MM (sn σ) (wfN σ) fr t) a0 b0) (32 * a))) = e3 1000000 fa fb (bst (cnd (sn σ) (wfN σ) fr (MM (sn σ) (wfN σ) fr t) a0 b0) 1024) := by
  have g0 := (hAll_n ok (s := 0) (by decide)).2
  have g1 := (hAll_n ok (s := 1) (by decide)).2
  intro r
  induction r with
  | zero =>
    intro a ha
    rw [show 32 * a = 1024 by omega]
    rfl
  | succ r ih =>
    intro a hr
    have c1 : nI a &&& (nI (a0 + 32 * b0) ^^^ (-1)) = 0 ↔ a &&& a0 = a := by
      rw [nx_0 (by omega) (by omega)]
      have q := and_sp (a := a) (b := 0) (a0 := a0) (b0 := b0) (by omega) (by omega)
      rw [Nat.zero_and, Nat.mul_zero, Nat.add_zero, Nat.add_zero] at q
      rw [q]
    have c2 := (wgV_s iv ok (s := 0) (g := a) (by decide) (by omega)).1
    rw [show 32 * 0 + a = a by omega, ← h6 _ (by omega)] at c2
    by_cases c : nI a &&& (nI (a0 + 32 * b0) ^^^ (-1)) = 0 ∧ 0 ≤ f6 a
    · have q := loI_is iv ok hfr ht h4 h6 (fa := fa) (fb := fb) h0 h1 (a := a) (c1.mp c.1) (c2.mp (Int32.not_lt.mpr c.2)) 32 0 (by omega)
      rw [loO_y c, show 32 * a = 32 * a + 0 from rfl, q]
      exact ih (a + 1) (by omega)
    · rw [loO_n c]
      have s : bst (cnd (sn σ) (wfN σ) fr (MM (sn σ) (wfN σ) fr t) a0 b0) (32 * a + 32) = bst (cnd (sn σ) (wfN σ) fr (MM (sn σ) (wfN σ) fr t) a0 b0) (32 * a) := bst_skip 32 (fun j j1 j2 => cnd_n (Or.inl (fun ho => c (by
        have e : j / 32 = a := by omega
        rw [e] at ho
        exact ⟨c1.mpr ho.1, Int32.not_lt.mp (c2.mpr ho.2.2.2.1)⟩))))
      rw [← s]
      exact ih (a + 1) (by omega)
theorem e3_1 (p q : Int32) (o : Option (Nat × Nat)) : (e3 1000000 p q o).1 = enM (o.map (fun z => z.1)) := by
  cases o <;> rfl
theorem lov_is {σ : xs} (iv : hIv σ) (ok : hOk σ) {fr : Bool} {fi : Int32} (hfr : fi = 0 ↔ fr = false) {t : Nat} (ht : t ≤ 10) {f4 f6 : xs} (h4 : fwT σ fr t f4) (h6 : ∀ i, i < 64 → f6 i = wgV σ i) {a0 b0 : Nat} (h0 : a0 ≤ aN σ 0) (h1 : b0 ≤ aN σ 1) : lov f6 f4 (σ 13) fi (nI (a0 + 32 * b0)) = enM (MM (sn σ) (wfN σ) fr (t + 1) a0 b0) := by
  have q := loO_is iv ok hfr ht h4 h6 (fa := 0) (fb := 0) h0 h1 32 0 (by omega)
  exact (congrArg (fun z => z.1) q).trans (e3_1 0 0 _)
theorem loR_is {σ : xs} (iv : hIv σ) (ok : hOk σ) {fr : Bool} {fi : Int32} (hfr : fi = 0 ↔ fr = false) {t : Nat} (ht : t ≤ 10) {u : Nat → Nat → Int32} {m : xs} (h4 : fwT σ fr t (u 14)) (h6 : ∀ i, i < 64 → u 16 i = wgV σ i) (hg : u 1 13 = σ 13) : loR u m fi (nI (aN σ 0 + 32 * aN σ 1)) = e3 1000000 (m 27) (m 28) (bst (cnT σ fr t) 1024) := by
  unfold loR
  rw [hg]
  exact loO_is iv ok hfr ht h4 h6 (fa := m 27) (fb := m 28) (Nat.le_refl _) (Nat.le_refl _) 32 0 (by omega)
theorem fwT_s {σ : xs} (iv : hIv σ) (ok : hOk σ) {fr : Bool} {fi : Int32} (hfr : fi = 0 ↔ fr = false) {t : Nat} (ht : t ≤ 10) {u : Nat → Nat → Int32} (h4 : fwT σ fr t (u 14)) (h6 : ∀ i, i < 64 → u 16 i = wgV σ i) (hg : u 1 13 = σ 13) {f : xs} (hf : ∀ i, i < 1024 → f i = mwV u fi (aN σ 0 + 32 * aN σ 1) i) : fwT σ fr (t + 1) f := by
  have g0 := (hAll_n ok (s := 0) (by decide)).2
  have g1 := (hAll_n ok (s := 1) (by decide)).2
  intro a b ha hb
  rw [hf _ (by omega)]
  unfold mwV
  rw [if_pos ((nx_0 (by omega) (by omega)).mpr (by rw [and_sp (by omega) g0, (sb_aN σ 0).mpr ha, (sb_aN σ 1).mpr hb])), hg]
  exact lov_is iv ok hfr ht h4 h6 ha hb
theorem fwT_0 (σ : xs) (fr : Bool) {f : xs} (ok : hOk σ) (hf : ∀ i, i < 1024 → f i = fw0 i) : fwT σ fr 0 f := by
  have g0 := (hAll_n ok (s := 0) (by decide)).2
  have g1 := (hAll_n ok (s := 1) (by decide)).2
  intro a b ha hb
  rw [hf _ (by omega)]
  unfold fw0
  show _ = enM (if a = 0 ∧ b = 0 then some 0 else none)
  by_cases c : a = 0 ∧ b = 0
  · rw [if_pos c, if_pos (by omega)]
    rfl
  · rw [if_neg c, if_neg (by omega)]
    rfl
