/-! The class's plan: what it knows are the least waters of so many trips -/
def rpM (S : Nat → Prop) (x : Int32) : Prop := (x = 1048576 ∧ ∀ y, ¬ S y) ∨ ∃ y : Nat, x = nI y ∧ y < 1048576 ∧ S y ∧ ∀ w, S w → y ≤ w
theorem nv_e : (1048576 : Int32) = nI 1048576 := rfl
theorem rpM_cg {S S' : Nat → Prop} {x : Int32} (h : ∀ y, S y ↔ S' y) (r : rpM S x) : rpM S' x := by
  have e : S = S' := funext (fun y => propext (h y))
  rw [← e]
  exact r
theorem rpM_lt {S : Nat → Prop} {x : Int32} (r : rpM S x) : ¬ (1048576 : Int32) < x := by
  rcases r with ⟨rfl, _⟩ | ⟨y, rfl, h, _⟩
  · exact Int32.lt_irrefl
  · rw [nv_e]
    exact nI_nlt (by omega) (by omega)
theorem rpM_or {S S' : Nat → Prop} {x y : Int32} (r : rpM S x) (r' : rpM S' y) : rpM (fun k => S k ∨ S' k) (iMin x y) := by
  unfold iMin
  rcases r with ⟨rfl, h⟩ | ⟨a, rfl, la, ha, ma⟩
  · rcases r' with ⟨rfl, h'⟩ | ⟨b, rfl, lb, hb, mb⟩
    · rw [if_neg Int32.lt_irrefl]
      exact Or.inl ⟨rfl, fun k q => q.elim (h k) (h' k)⟩
    · rw [nv_e, if_pos (nI_lt lb (by omega))]
      exact Or.inr ⟨b, rfl, lb, Or.inr hb, fun w q => q.elim (fun z => absurd z (h w)) (mb w)⟩
  · rcases r' with ⟨rfl, h'⟩ | ⟨b, rfl, lb, hb, mb⟩
    · rw [nv_e, if_neg (nI_nlt (by omega) (by omega))]
      exact Or.inr ⟨a, rfl, la, Or.inl ha, fun w q => q.elim (ma w) (fun z => absurd z (h' w))⟩
    · by_cases c : b < a
      · rw [if_pos (nI_lt c (by omega))]
        refine Or.inr ⟨b, rfl, lb, Or.inr hb, fun w q => q.elim (fun z => ?_) (mb w)⟩
        have := ma w z
        omega
      · rw [if_neg (nI_nlt (by omega) (by omega))]
        refine Or.inr ⟨a, rfl, la, Or.inl ha, fun w q => q.elim (ma w) (fun z => ?_)⟩
        have := mb w z
        omega
theorem rpM_ge {S S' : Nat → Prop} {x : Int32} (r : rpM S x) (h : ∀ k, S' k → ∃ w, S w ∧ w ≤ k) : rpM (fun k => S k ∨ S' k) x := by
  rcases r with ⟨rfl, n⟩ | ⟨a, rfl, la, ha, ma⟩
  · refine Or.inl ⟨rfl, fun k q => q.elim (n k) (fun z => ?_)⟩
    obtain ⟨w, hw, _⟩ := h k z
    exact n w hw
  · refine Or.inr ⟨a, rfl, la, Or.inl ha, fun w q => q.elim (ma w) (fun z => ?_)⟩
    obtain ⟨w', hw, hl⟩ := h w z
    have := ma w' hw
    omega
theorem smk_all : ((List.range 32).all fun m => (List.range 32).all fun p => (List.range 32).all fun k => !(Nat.beq (k &&& m) k) || (!(Nat.beq (p &&& m) p) || (Nat.ble p k || Nat.ble k ((p - 1) &&& m)))) = true := by decide +kernel
theorem smk_k {m p k : Nat} (hm : m < 32) (hk : k &&& m = k) (hp : p &&& m = p) (l : k < p) : k ≤ (p - 1) &&& m := by
  have lk := sb_le hk
  have lp := sb_le hp
  have q := List.all_eq_true.mp (List.all_eq_true.mp (List.all_eq_true.mp smk_all m (List.mem_range.mpr hm)) p (List.mem_range.mpr (by omega))) k (List.mem_range.mpr (by omega))
  rw [hk, hp, show Nat.beq k k = true from Nat.beq_refl k, show Nat.beq p p = true from Nat.beq_refl p] at q
  have n : Nat.ble p k = false := by
    rcases h : Nat.ble p k with _ | _
    · rfl
    · exact absurd (Nat.le_of_ble_eq_true h) (by omega)
  rw [n] at q
  exact Nat.le_of_ble_eq_true q
theorem sl_lp {L : Nat → Int32 → Int32 → Int32} {f : Int32 → Int32 → Int32} {may : Nat} {G : Nat → Nat → Prop} (hm : may < 32) (hL : ∀ r le pt, L (r + 1) le pt = if pt = 0 then f le pt else L r (f le pt) ((pt - 1) &&& nI may)) (hf : ∀ pt, pt &&& may = pt → ∀ S le, rpM S le → rpM (fun k => S k ∨ G pt k) (f le (nI pt))) : ∀ r pt le, pt &&& may = pt → pt < r → rpM (fun y => ∃ k, k &&& may = k ∧ pt < k ∧ G k y) le → rpM (fun y => ∃ k, k &&& may = k ∧ G k y) (L r le (nI pt)) := by
  intro r
  induction r with
  | zero =>
    intro pt le _ h _
    exact absurd h (by omega)
  | succ r ih =>
    intro pt le h hr hl
    have hp := sb_le h
    have q := hf pt h _ _ hl
    rw [hL]
    by_cases c : pt = 0
    · subst c
      rw [if_pos (show nI 0 = 0 from rfl)]
      refine rpM_cg (fun y => ?_) q
      constructor
      · rintro (⟨k, hk, _, g⟩ | g)
        · exact ⟨k, hk, g⟩
        · exact ⟨0, h, g⟩
      · rintro ⟨k, hk, g⟩
        by_cases k0 : k = 0
        · subst k0
          exact Or.inr g
        · exact Or.inl ⟨k, hk, by omega, g⟩
    · have al := Nat.and_le_left (n := pt - 1) (m := may)
      have e : (nI pt - 1) &&& nI may = nI ((pt - 1) &&& may) := by
        rw [show (1 : Int32) = nI 1 from rfl, nI_sub (by omega), nI_and (by omega) (by omega)]
      rw [if_neg (nI_ne0 (by omega) (by omega)), e]
      refine ih ((pt - 1) &&& may) _ (by rw [Nat.and_assoc, Nat.and_self]) (by omega) ?_
      refine rpM_cg (fun y => ?_) q
      constructor
      · rintro (⟨k, hk, l, g⟩ | g)
        · exact ⟨k, hk, by omega, g⟩
        · exact ⟨pt, h, by omega, g⟩
      · rintro ⟨k, hk, l, g⟩
        rcases (show pt < k ∨ k = pt ∨ k < pt by omega) with z | z | z
        · exact Or.inl ⟨k, hk, z, g⟩
        · rw [z] at g
          exact Or.inr g
        · have := smk_k hm hk h z
          omega
theorem bc_pc : ∀ i, i < 32 → bc (nI i) = nI (pcM i) := by decide +kernel
theorem pcM_le (i : Nat) : pcM i ≤ 5 := by
  unfold pcM
  omega
theorem xr32 : ∀ a, a < 32 → ∀ b, b < 32 → nI a ^^^ nI b = nI (a ^^^ b) := by decide +kernel
def wfN (σ : xs) (p q : Nat) : Nat := (hWater σ (nI p) (nI q)).toNatClampNeg
theorem wfN_e {σ : xs} (iv : hIv σ) (ok : hOk σ) (p q : Nat) : hWater σ (nI p) (nI q) = nI (wfN σ p q) ∧ wfN σ p q ≤ 54 := by
  obtain ⟨y, hy, e⟩ := water_b iv ok (nI p) (nI q)
  unfold wfN
  rw [e, nI_clamp (by omega)]
  exact ⟨rfl, hy⟩
theorem seat_i {σ : xs} (ok : hOk σ) {p : Nat} (hp : p < 32) : (¬ σ 12 < bc (nI p)) ↔ pcM p ≤ sn σ := by
  have h3 := ok.2.2.2
  have := pcM_le p
  rw [ok.2.1, bc_pc p hp, nI_ltI (by omega) (by omega)]
  omega
theorem or32 {a b : Nat} (ha : a < 32) (hb : b < 32) : a ||| b < 32 := Nat.or_lt_two_pow (n := 5) ha hb
theorem ix32 {a b : Nat} (ha : a < 32) (hb : b < 32) : ((nI a * 32 + nI b) &&& 1023).toNatClampNeg = 32 * a + b := by
  rw [show (32 : Int32) = nI 32 from rfl, pk_mul, nI_add, a1023 _ (by omega), nI_clamp (by omega)]
  omega
theorem sb_sx {q b : Nat} (h : q &&& b = q) : (b ^^^ q) &&& b = b ^^^ q := by
  rw [Nat.and_xor_distrib_right, Nat.and_self, h]
theorem sb_sl {q b : Nat} (h : q &&& b = q) : b ^^^ q ≤ b := sb_le (sb_sx h)
theorem sb_or {k m b : Nat} (hm : m &&& b = m) (hk : k &&& (b ^^^ m) = k) : (k ||| m) &&& b = k ||| m := by
  rw [Nat.and_or_distrib_right, (sb_x hm hk).1, hm]
def knT (σ : xs) (t : Nat) (kn : xs) : Prop := ∀ a b, a ≤ aN σ 0 → b ≤ aN σ 1 → rpM (CC (sn σ) (wfN σ) false t a b) (kn (32 * a + b))
def lwG (σ : xs) (t p a b mb k y : Nat) : Prop := pcM (k ||| mb) ≤ sn σ ∧ ∃ w, CC (sn σ) (wfN σ) false t a (b ^^^ (k ||| mb)) w ∧ y = w + wfN σ p (k ||| mb)
theorem lw1_is {σ : xs} (iv : hIv σ) (ok : hOk σ) {t : Nat} (ht : t ≤ 10) {kn : xs} (hkn : knT σ t kn) {p a b mb : Nat} (hp : p < 32) (ha : a ≤ aN σ 0) (hb : b ≤ aN σ 1) (hmb : mb &&& b = mb) (k : Nat) (hk : k &&& (b ^^^ mb) = k) (S : Nat → Prop) (le : Int32) (r : rpM S le) : rpM (fun y => S y ∨ lwG σ t p a b mb k y) (lw1 kn (gU σ) (gL σ) (σ 12) (σ 13) (nI p) (nI a) (nI b) (nI mb) le (nI k)) := by
  have h0 := (hAll_n ok (s := 0) (by decide)).2
  have h1 := (hAll_n ok (s := 1) (by decide)).2
  have lm := sb_le hmb
  have lk := sb_le hk
  have bx : b ^^^ mb < 32 := x32 (by omega) (by omega)
  have hq : k ||| mb < 32 := or32 (by omega) (by omega)
  have sq := sb_or hmb hk
  have lq := sb_sl sq
  have X := hkn a (b ^^^ (k ||| mb)) ha (by omega)
  have ws := wfN_e iv ok p (k ||| mb)
  unfold lw1
  rw [nI_or (by omega) (by omega), xr32 b (by omega) _ hq, ix32 (by omega) (by omega), gWat_w σ hp hq, ws.1]
  by_cases c : kn (32 * a + (b ^^^ (k ||| mb))) < le ∧ ¬ σ 12 < bc (nI (k ||| mb))
  · rw [if_pos c]
    refine rpM_or r ?_
    rcases X with ⟨e, _⟩ | ⟨y, e, ly, hy, my⟩
    · rw [e] at c
      exact absurd c.1 (rpM_lt r)
    · have := CC_b (fun p q => (wfN_e iv ok p q).2) _ _ _ _ hy
      rw [e, nI_add]
      refine Or.inr ⟨y + wfN σ p (k ||| mb), rfl, by omega, ⟨(seat_i ok hq).mp c.2, y, hy, rfl⟩, ?_⟩
      rintro w ⟨_, w', hw', rfl⟩
      have := my w' hw'
      omega
  · rw [if_neg c]
    refine rpM_ge r ?_
    rintro y ⟨hs, w, hw, rfl⟩
    have c1 : ¬ kn (32 * a + (b ^^^ (k ||| mb))) < le := fun z => c ⟨z, (seat_i ok hq).mpr hs⟩
    rcases X with ⟨_, n⟩ | ⟨y, e, ly, hy, my⟩
    · exact absurd hw (n w)
    · rw [e] at c1
      have := my w hw
      rcases r with ⟨rfl, _⟩ | ⟨z, rfl, lz, hz, mz⟩
      · exact absurd (by rw [nv_e]; exact nI_lt ly (by omega)) c1
      · rw [nI_ltI (by omega) (by omega)] at c1
        exact ⟨z, hz, by omega⟩
theorem lwV_is {σ : xs} (iv : hIv σ) (ok : hOk σ) {t : Nat} (ht : t ≤ 10) {kn : xs} (hkn : knT σ t kn) {p a b mb : Nat} (hp : p < 32) (ha : a ≤ aN σ 0) (hb : b ≤ aN σ 1) (hmb : mb &&& b = mb) : rpM (fun y => ∃ k, k &&& (b ^^^ mb) = k ∧ lwG σ t p a b mb k y) (lwV kn (gU σ) (gL σ) (σ 12) (σ 13) (nI p) (nI a) (nI b) (nI mb)) := by
  have h1 := (hAll_n ok (s := 1) (by decide)).2
  have lm := sb_le hmb
  have bx : b ^^^ mb < 32 := x32 (by omega) (by omega)
  unfold lwV
  rw [xr32 b (by omega) mb (by omega)]
  refine sl_lp (L := lwN kn (gU σ) (gL σ) (σ 12) (σ 13) (nI p) (nI a) (nI b) (nI mb) (nI (b ^^^ mb))) (f := lw1 kn (gU σ) (gL σ) (σ 12) (σ 13) (nI p) (nI a) (nI b) (nI mb)) bx (fun _ _ _ => rfl) (lw1_is iv ok ht hkn hp ha hb hmb) 32 (b ^^^ mb) 1048576 (Nat.and_self _) bx ?_
  refine Or.inl ⟨rfl, ?_⟩
  rintro y ⟨k, hk, l, _⟩
  have := sb_le hk
  omega
def lfG (σ : xs) (t a b ma mb k y : Nat) : Prop := pcM (k ||| ma) ≤ sn σ ∧ ∃ k2, k2 &&& (b ^^^ mb) = k2 ∧ lwG σ t (k ||| ma) (a ^^^ (k ||| ma)) b mb k2 y
theorem lf1_is {σ : xs} (iv : hIv σ) (ok : hOk σ) {t : Nat} (ht : t ≤ 10) {kn : xs} (hkn : knT σ t kn) {a b ma mb : Nat} (ha : a ≤ aN σ 0) (hb : b ≤ aN σ 1) (hma : ma &&& a = ma) (hmb : mb &&& b = mb) (k : Nat) (hk : k &&& (a ^^^ ma) = k) (S : Nat → Prop) (le : Int32) (r : rpM S le) : rpM (fun y => S y ∨ lfG σ t a b ma mb k y) (lf1 kn (gU σ) (gL σ) (σ 12) (σ 13) (nI a) (nI b) (nI ma) (nI mb) le (nI k)) := by
  have h0 := (hAll_n ok (s := 0) (by decide)).2
  have h1 := (hAll_n ok (s := 1) (by decide)).2
  have lm := sb_le hma
  have lk := sb_le hk
  have bx : a ^^^ ma < 32 := x32 (by omega) (by omega)
  have hq : k ||| ma < 32 := or32 (by omega) (by omega)
  have sq := sb_or hma hk
  have lq := sb_sl sq
  unfold lf1
  rw [nI_or (by omega) (by omega), xr32 a (by omega) _ hq]
  by_cases c : σ 12 < bc (nI (k ||| ma))
  · rw [if_pos c]
    refine rpM_ge r ?_
    rintro y ⟨hs, _⟩
    exact absurd c ((seat_i ok hq).mpr hs)
  · rw [if_neg c]
    refine rpM_or r (rpM_cg (fun y => ?_) (lwV_is iv ok ht hkn hq (by omega) hb hmb))
    exact ⟨fun h => ⟨(seat_i ok hq).mp c, h⟩, fun h => h.2⟩
theorem lfN_is {σ : xs} (iv : hIv σ) (ok : hOk σ) {t : Nat} (ht : t ≤ 10) {kn : xs} (hkn : knT σ t kn) {a b ma mb : Nat} (ha : a ≤ aN σ 0) (hb : b ≤ aN σ 1) (hma : ma &&& a = ma) (hmb : mb &&& b = mb) : rpM (fun y => ∃ k, k &&& (a ^^^ ma) = k ∧ lfG σ t a b ma mb k y) (lfN kn (gU σ) (gL σ) (σ 12) (σ 13) (nI a) (nI b) (nI ma) (nI mb) (nI (a ^^^ ma)) 32 1048576 (nI (a ^^^ ma))) := by
  have h0 := (hAll_n ok (s := 0) (by decide)).2
  have lm := sb_le hma
  have bx : a ^^^ ma < 32 := x32 (by omega) (by omega)
  refine sl_lp (L := lfN kn (gU σ) (gL σ) (σ 12) (σ 13) (nI a) (nI b) (nI ma) (nI mb) (nI (a ^^^ ma))) (f := lf1 kn (gU σ) (gL σ) (σ 12) (σ 13) (nI a) (nI b) (nI ma) (nI mb)) bx (fun _ _ _ => rfl) (lf1_is iv ok ht hkn ha hb hma hmb) 32 (a ^^^ ma) 1048576 (Nat.and_self _) bx ?_
  refine Or.inl ⟨rfl, ?_⟩
  rintro y ⟨k, hk, l, _⟩
  have := sb_le hk
  omega
