/-! Rules for cells and calls (written by wip/whole/gen05.py) -/
def xCl (ci : Nat) (C : String) (T : u_T) (N : Nat) (ty0 : Nat → FieldType) : Prop := vwCl[ci]? = some (C, T, N) ∧ (∀ w ∈ u_ws C T N, w ∈ xW) ∧ (∀ k, k < N → parseFieldDescriptor (T k).2.2.1 = some (ty0 k)) ∧ ∀ a, a < N → ∀ b, b < N → a ≠ b → (T a).2.1 ≠ (T b).2.1
/-- the pool's entry 'index' of the class own is field k of the class ci, of type ty, final or not -/
def xLf (own : String) (index ci k : Nat) (ty : FieldType) (fin : Bool) : Prop := ∃ (C : String) (T : u_T) (N : Nat) (ty0 : Nat → FieldType), xCl ci C T N ty0 ∧ k < N ∧ (Cond.fieldLink own index (T k).1 (T k).2.1 (T k).2.2.1 ∈ xW ∨ ((T k).2.2.2 = false ∧ ∃ host : String, Cond.fieldLinkNest own index (T k).1 (T k).2.1 (T k).2.2.1 host ∈ xW)) ∧ ty0 k = ty ∧ (T k).2.2.2 = fin ∧ (fin = true → (T k).1 = own)
theorem xC.A {K : xK} {own : String} {ini : Bool} {cc : ByteArray} {nL : Nat} {ret : Option FieldType} {p : Program} {s : State} {m : MethodId} {meth : Method} {c : Code} (C : xC K own ini cc nL ret p s m meth c) : xA s := C.2.2.2.2.2.2.2.1
theorem xC.K {K : xK} {own : String} {ini : Bool} {cc : ByteArray} {nL : Nat} {ret : Option FieldType} {p : Program} {s : State} {m : MethodId} {meth : Method} {c : Code} (C : xC K own ini cc nL ret p s m meth c) : va_K K.1 vwCl (xTy K) s := C.2.2.2.2.2.2.2.2
theorem xC.own {K : xK} {own : String} {ini : Bool} {cc : ByteArray} {nL : Nat} {ret : Option FieldType} {p : Program} {s : State} {m : MethodId} {meth : Method} {c : Code} (C : xC K own ini cc nL ret p s m meth c) : s.vm.findClass own = some m.cls := C.2.2.2.2.2.1
theorem xI.up {K : xK} {B mc ms rc rs nL : Nat} {s : State} {H H1 : Heap} {locs : List Loc} {cells slots : Nat} {ls : List (Option Value)} {L : Array Slot} {h : xH} {a k : Nat} {e0 e : va_E} (I : xI K B mc ms rc rs nL s H locs cells slots ls L h) (h0 : h.2 a = some e0) (he : va_at K.1 vwCl (a, e) H1) (hz : H1.size = H.size) (ho : ∀ q : Nat, q ≠ a → H1[q]? = H[q]?) : xI K B mc ms rc rs nL s H1 (locs ++ [⟨a, k⟩]) cells slots ls L (xup h a e) := by
  obtain ⟨i1, i2, i3, i4, i5⟩ := I
  have hb := (i1.2.2 a _ h0).1
  refine ⟨i1.up h0 he hz ho, ⟨by rw [hz]; exact i2.1, fun q hq => ?_⟩, fun q hq => ?_, i4, i5⟩
  · rw [ho q (by omega)]
    exact i2.2 q hq
  · rcases List.mem_append.mp hq with z | z
    · exact i3 q z
    · rw [List.mem_singleton.mp z]
      exact hb
theorem xI.new {K : xK} {B mc ms rc rs rc' rs' nL n : Nat} {s : State} {H H1 : Heap} {locs : List Loc} {cells slots : Nat} {ls : List (Option Value)} {L : Array Slot} {h : xH} {e : va_E} (I : xI K B mc ms rc rs nL s H locs cells slots ls L h) (hrc : rc' + 1 = rc) (hrs : rs' + n = rs) (he : va_at K.1 vwCl (H.size, e) H1) (hz : H1.size = H.size + 1) (ho : ∀ q : Nat, q < H.size → H1[q]? = H[q]?) : xI K B mc ms rc' rs' nL s H1 locs (cells + 1) (slots + n) ls L (xnew h e) := by
  obtain ⟨i1, i2, i3, i4, i5, i6⟩ := I
  refine ⟨i1.new he hz ho, ⟨by omega, fun q hq => ?_⟩, i3, i4, by omega, by omega⟩
  rw [ho q (by have := i1.2.1; have := i1.1; omega)]
  exact i2.2 q hq
theorem xR.one {K : xK} {B : Nat} {h : xH} {H : Heap} {a : Nat} {e : va_E} (hR : xR K B h H) (ha : h.2 a = some e) : va_P K.1 vwCl [(a, e)] H := by
  intro j q hq
  cases j with
  | zero => cases hq; exact (hR.2.2 a e ha).2
  | succ j => cases hq
section XH
variable {K : xK} {B : Nat} {l : Launch} {F : Nat} {own : String} {ini : Bool} {cc : ByteArray} {nL : Nat} {ret : Option FieldType} {mc ms rc rs rc' rs' : Nat} {Q : Option Value → xH → Prop} {pc : Nat} {ls : List (Option Value)} {st : List Value} {h : xH}
theorem xr_get {a ci index k : Nat} {fs : List Value} {v : Value} {ty : FieldType} {fin : Bool} (ha : h.2 a = some (.inr (ci, fs))) (lk : xLf own index ci k ty fin) (hv : fs[k]? = some v) (d : decode cc pc = .ok (.getfield index, 3)) (kk : xT K B l F own ini cc nL ret mc ms rc rs Q (pc + 3) ls (v :: st) h) : xT K B l F own ini cc nL ret mc ms rc rs Q pc ls (.ref a :: st) h := by
  intro p e s m args below meth c H locs cells slots L C I
  obtain ⟨Cn, T, N, ty0, ⟨c1, c2, c3, c4⟩, hk, hl, -⟩ := lk
  rcases hl with hl | ⟨-, host, hl⟩
  · exact va_get C.1 C.2.1 (Ts := xW) (fun w hw => C.A.use hw) c2 C.own C.K (I.1.one ha) 0 rfl c1 k hk (C.A.use hl) (fun _ q => q) hv d (kk p e s m args below meth c H locs cells slots L C I)
  · exact va_getN C.1 C.2.1 (Ts := xW) (fun w hw => C.A.use hw) c2 C.own C.K (I.1.one ha) 0 rfl c1 k hk (C.A.use hl) (fun _ q => q) hv d (kk p e s m args below meth c H locs cells slots L C I)
theorem xr_put {a ci index k : Nat} {fs : List Value} {v : Value} {ty : FieldType} (ha : h.2 a = some (.inr (ci, fs))) (lk : xLf own index ci k ty false) (hl : k < fs.length) (hn : narrow ty v = v) (hfit : fits ty v = true) (d : decode cc pc = .ok (.putfield index, 3)) (kk : xT K B l F own ini cc nL ret mc ms rc rs Q (pc + 3) ls st (xup h a (.inr (ci, fs.set k v)))) : xT K B l F own ini cc nL ret mc ms rc rs Q pc ls (v :: .ref a :: st) h := by
  intro p e s m args below meth c H locs cells slots L C I
  obtain ⟨Cn, T, N, ty0, ⟨c1, c2, c3, c4⟩, hk, hlk, hty, hfin, -⟩ := lk
  have hts : ∀ w ∈ xW, w.before args s = true := fun w hw => C.A.use hw
  have hap := va_apart (own := own) hts c2 ty0 c3 c4 C.K c1
  obtain ⟨r, h1, cell, q1, q2, q3, q4⟩ := (I.1.2.2 a _ ha).2
  have hr : r = (Cn, T, N) := Option.some.inj (h1.symm.trans c1)
  subst hr
  obtain ⟨hS, hfc, kC, hkC, hkind⟩ := C.K.1 ci _ c1
  obtain ⟨cf, kf, fi, f, hi, hsl⟩ := hS k hk
  have hlay := hts _ (c2 _ (u_in_lay hk))
  unfold u_lay at hlay
  rw [if_neg (by rw [hfin]; decide)] at hlay
  have hst := (u_facts hfc hkC (u_lays hts c2 hk) hi).1
  have h6 := u_store hfc hkC hkind hlay hi (c3 k hk) (by rw [hty]; exact hn) (by rw [hty]; exact hfit)
  have go : ∀ H' : Heap, H'[a]? = some (cell.setSlot f.slot v) → H'.size = H.size → (∀ q, q ≠ a → H'[q]? = H[q]?) → W p l e (xRoom F mc ms) s m args below meth c H' (locs ++ [⟨a, f.slot⟩]) cells slots (MQ below (xQc K B Q) args s mc ms (fun q => B ≤ q)) (F0 m (pc + 3) L st) := by
    intro H' e1 e2 e3
    rw [hsl] at e1 ⊢
    exact kk p e s m args below meth c H' _ cells slots L C (I.up ha ⟨_, c1, t_OB.to (V := updV (vp_V fs) k v) ⟨_, e1, q2, q3, t_set q4 hap hk v⟩ (fun j _ => vp_updV_set hl v j)⟩ e2 e3)
  rcases hlk with hlk | ⟨-, host, hlk⟩
  · exact W.putK C.1 C.2.1 (f := f) ⟨C.own, C.A.use hlk, ⟨_, _, _, hi⟩, hst⟩ (by rw [q2]; exact h6) q1 q3 (by rw [hsl]; exact k2_hasslot (q4 k hk)) rfl rfl d go
  · exact va_WputK C.1 C.2.1 (f := f) C.own (C.A.use hlk) hi hst (by rw [q2]; exact h6) q1 q3 (by rw [hsl]; exact k2_hasslot (q4 k hk)) rfl rfl d go
theorem xr_putF {a ci index k : Nat} {fs : List Value} {v : Value} {ty : FieldType} (hini : ini = true) (ha : h.2 a = some (.inr (ci, fs))) (lk : xLf own index ci k ty true) (hl : k < fs.length) (hn : narrow ty v = v) (hfit : fits ty v = true) (d : decode cc pc = .ok (.putfield index, 3)) (kk : xT K B l F own ini cc nL ret mc ms rc rs Q (pc + 3) ls st (xup h a (.inr (ci, fs.set k v)))) : xT K B l F own ini cc nL ret mc ms rc rs Q pc ls (v :: .ref a :: st) h := by
  intro p e s m args below meth c H locs cells slots L C I
  obtain ⟨Cn, T, N, ty0, ⟨c1, c2, c3, c4⟩, hk, hlk, hty, hfin, hdecl⟩ := lk
  have hdecl := hdecl rfl
  have hts : ∀ w ∈ xW, w.before args s = true := fun w hw => C.A.use hw
  have hap := va_apart (own := own) hts c2 ty0 c3 c4 C.K c1
  obtain ⟨r, h1, cell, q1, q2, q3, q4⟩ := (I.1.2.2 a _ ha).2
  have hr : r = (Cn, T, N) := Option.some.inj (h1.symm.trans c1)
  subst hr
  obtain ⟨hS, hfc, kC, hkC, hkind⟩ := C.K.1 ci _ c1
  obtain ⟨cf, kf, fi, f, hi, hsl⟩ := hS k hk
  have hlay := hts _ (c2 _ (u_in_lay hk))
  unfold u_lay at hlay
  rw [if_pos hfin] at hlay
  have hst := (u_facts hfc hkC (u_lays hts c2 hk) hi).1
  have hcf : m.cls = cf := by
    obtain ⟨_, _, c', _, _, _, -, -, hf', -, -, -, hown2, -⟩ := Cond.laysFinal_spec hlay
    have e1 : c' = cf := by have := hi.symm.trans hf'; simp at this; exact this.1.symm
    rw [hdecl] at hown2
    rw [← e1]; exact Option.some.inj (C.own.symm.trans hown2)
  have h6 := u_fits hfc hkC hkind (Or.inr hlay) hi (c3 k hk) (by rw [hty]; exact hn) (by rw [hty]; exact hfit)
  rcases hlk with hlk | ⟨hno, host, hlk⟩
  · refine W.putFinK C.1 C.2.1 C.own (C.A.use hlk) hi hst hcf (C.2.2.2.2.2.2.1 hini) (by rw [q2]; exact h6) q1 q3 (by rw [hsl]; exact k2_hasslot (q4 k hk)) rfl rfl d fun H' e1 e2 e3 => ?_
    rw [hsl] at e1 ⊢
    exact kk p e s m args below meth c H' _ cells slots L C (I.up ha ⟨_, c1, t_OB.to (V := updV (vp_V fs) k v) ⟨_, e1, q2, q3, t_set q4 hap hk v⟩ (fun j _ => vp_updV_set hl v j)⟩ e2 e3)
  · rw [hfin] at hno
    cases hno
def xix (i : Int32) (n j : Nat) : Prop := vp_in i n ∧ i.toNatClampNeg = j
theorem xix_nI {n j : Nat} (h : j < n) (hn : n < 2 ^ 31) : xix (nI j) n j := ⟨vp_in_nI h hn, nI_clamp (by omega)⟩
theorem xix.lt {i : Int32} {n j : Nat} (h : xix i n j) : j < n := by
  obtain ⟨h1, h2⟩ := h
  rw [← h2]
  exact Nat.not_le.mp fun q => h1 (Or.inr q)
theorem xr_iald {a n j : Nat} {f : Nat → Int32} {i : Int32} (ha : h.2 a = some (.inl (K.2 1, n, .inl f))) (hx : xix i n j) (d : decode cc pc = .ok (.iaload, 1)) (kk : xT K B l F own ini cc nL ret mc ms rc rs Q (pc + 1) ls (.int (f j) :: st) h) : xT K B l F own ini cc nL ret mc ms rc rs Q pc ls (.int i :: .ref a :: st) h := by
  intro p e s m args below meth c H locs cells slots L C I
  obtain ⟨hx, rfl⟩ := hx
  exact va_iald C.1 C.2.1 C.K (I.1.one ha) 0 1 rfl rfl hx d (kk p e s m args below meth c H locs cells slots L C I)
theorem xr_bald {a n j : Nat} {f : Nat → Int32} {i : Int32} (ha : h.2 a = some (.inl (K.2 0, n, .inl f))) (hx : xix i n j) (d : decode cc pc = .ok (.baload, 1)) (kk : xT K B l F own ini cc nL ret mc ms rc rs Q (pc + 1) ls (.int (f j) :: st) h) : xT K B l F own ini cc nL ret mc ms rc rs Q pc ls (.int i :: .ref a :: st) h := by
  intro p e s m args below meth c H locs cells slots L C I
  obtain ⟨hx, rfl⟩ := hx
  exact va_bald C.1 C.2.1 C.K (I.1.one ha) 0 0 rfl rfl hx d (kk p e s m args below meth c H locs cells slots L C I)
theorem xr_zald {a n j : Nat} {f : Nat → Int32} {i : Int32} (ha : h.2 a = some (.inl (K.2 3, n, .inl f))) (hx : xix i n j) (d : decode cc pc = .ok (.baload, 1)) (kk : xT K B l F own ini cc nL ret mc ms rc rs Q (pc + 1) ls (.int (f j) :: st) h) : xT K B l F own ini cc nL ret mc ms rc rs Q pc ls (.int i :: .ref a :: st) h := by
  intro p e s m args below meth c H locs cells slots L C I
  obtain ⟨hx, rfl⟩ := hx
  exact va_zald C.1 C.2.1 C.K (I.1.one ha) 0 3 rfl rfl hx d (kk p e s m args below meth c H locs cells slots L C I)
theorem xr_lald {a n j : Nat} {f : Nat → Int64} {i : Int32} (ha : h.2 a = some (.inl (K.2 2, n, .inr (.inl f)))) (hx : xix i n j) (d : decode cc pc = .ok (.laload, 1)) (kk : xT K B l F own ini cc nL ret mc ms rc rs Q (pc + 1) ls (.long (f j) :: st) h) : xT K B l F own ini cc nL ret mc ms rc rs Q pc ls (.int i :: .ref a :: st) h := by
  intro p e s m args below meth c H locs cells slots L C I
  obtain ⟨hx, rfl⟩ := hx
  exact va_lald C.1 C.2.1 C.K (I.1.one ha) 0 2 rfl rfl hx d (kk p e s m args below meth c H locs cells slots L C I)
theorem xr_aald {a n j : Nat} {f : Nat → Option Nat} {i : Int32} (ha : h.2 a = some (.inl (K.2 4, n, .inr (.inr (.inr (.inr f)))))) (hx : xix i n j) (d : decode cc pc = .ok (.aaload, 1)) (kk : xT K B l F own ini cc nL ret mc ms rc rs Q (pc + 1) ls (va_rf (f j) :: st) h) : xT K B l F own ini cc nL ret mc ms rc rs Q pc ls (.int i :: .ref a :: st) h := by
  intro p e s m args below meth c H locs cells slots L C I
  obtain ⟨hx, rfl⟩ := hx
  exact va_aldq C.1 C.2.1 C.K (I.1.one ha) 0 4 rfl rfl hx d (kk p e s m args below meth c H locs cells slots L C I)
theorem xr_alen {a : Nat} {cA : ClassId} {x : vp_A} {v : Int32} (ha : h.2 a = some (.inl (cA, x))) (t0 : Nat) {ty : FieldType} (ht : (xTy K)[t0]? = some (cA, ty)) (hv : Int32.ofNat x.1 = v) (d : decode cc pc = .ok (.arraylength, 1)) (kk : xT K B l F own ini cc nL ret mc ms rc rs Q (pc + 1) ls (.int v :: st) h) : xT K B l F own ini cc nL ret mc ms rc rs Q pc ls (.ref a :: st) h := by
  intro p e s m args below meth c H locs cells slots L C I
  exact va_alen C.1 C.2.1 C.K (I.1.one ha) 0 t0 rfl ht hv d (kk p e s m args below meth c H locs cells slots L C I)
theorem xr_iast {a n j : Nat} {f : Nat → Int32} {i x : Int32} (ha : h.2 a = some (.inl (K.2 1, n, .inl f))) (hx : xix i n j) (d : decode cc pc = .ok (.iastore, 1)) (kk : xT K B l F own ini cc nL ret mc ms rc rs Q (pc + 1) ls st (xup h a (.inl (K.2 1, n, .inl (upd f j (x)))))) : xT K B l F own ini cc nL ret mc ms rc rs Q pc ls (.int x :: .int i :: .ref a :: st) h := by
  intro p e s m args below meth c H locs cells slots L C I
  obtain ⟨hx, rfl⟩ := hx
  have hP := I.1.one ha
  refine W.iast C.1 C.2.1 (hP 0 _ rfl) ((C.K.2 1 _ rfl).1 n (fun j => .int (f j))) (fun q => by cases q) (by show ¬ (i < 0 ∨ (arrV _ _ _).slots.size ≤ _); rw [arrV_size]; exact hx) rfl rfl d fun H1 e9 z oq => ?_
  refine kk p e s m args below meth c H1 _ cells slots L C (I.up ha ?_ z oq)
  show H1[a]? = some (vp_cell _ _)
  rw [e9, vp_cell_i, vp_cell_i, arrV_store]
  congr 2
  funext q
  by_cases hq : q = i.toNatClampNeg
  · subst hq
    simp [updV, upd]
  · simp [updV, upd, hq]
theorem xr_bast {a n j : Nat} {f : Nat → Int32} {i x : Int32} (ha : h.2 a = some (.inl (K.2 0, n, .inl f))) (hx : xix i n j) (d : decode cc pc = .ok (.bastore, 1)) (kk : xT K B l F own ini cc nL ret mc ms rc rs Q (pc + 1) ls st (xup h a (.inl (K.2 0, n, .inl (upd f j (vp_nar .byte x)))))) : xT K B l F own ini cc nL ret mc ms rc rs Q pc ls (.int x :: .int i :: .ref a :: st) h := by
  intro p e s m args below meth c H locs cells slots L C I
  obtain ⟨hx, rfl⟩ := hx
  have hP := I.1.one ha
  refine W.bast C.1 C.2.1 (hP 0 _ rfl) ((C.K.2 0 _ rfl).1 n (fun j => .int (f j))) (fun q => by cases q) (by show ¬ (i < 0 ∨ (arrV _ _ _).slots.size ≤ _); rw [arrV_size]; exact hx) rfl rfl d fun H1 e9 z oq => ?_
  refine kk p e s m args below meth c H1 _ cells slots L C (I.up ha ?_ z oq)
  show H1[a]? = some (vp_cell _ _)
  rw [e9, vp_cell_i, vp_cell_i, arrV_store]
  congr 2
  funext q
  by_cases hq : q = i.toNatClampNeg
  · subst hq
    simp [updV, upd]
    have hnar : narrow .byte (.int x) = .int (vp_nar .byte x) := by unfold vp_nar; unfold narrow; rfl
    rw [hnar]
  · simp [updV, upd, hq]
theorem xr_zast {a n j : Nat} {f : Nat → Int32} {i x : Int32} (ha : h.2 a = some (.inl (K.2 3, n, .inl f))) (hx : xix i n j) (d : decode cc pc = .ok (.bastore, 1)) (kk : xT K B l F own ini cc nL ret mc ms rc rs Q (pc + 1) ls st (xup h a (.inl (K.2 3, n, .inl (upd f j (vp_nar .boolean x)))))) : xT K B l F own ini cc nL ret mc ms rc rs Q pc ls (.int x :: .int i :: .ref a :: st) h := by
  intro p e s m args below meth c H locs cells slots L C I
  obtain ⟨hx, rfl⟩ := hx
  have hP := I.1.one ha
  refine W.zast C.1 C.2.1 (hP 0 _ rfl) ((C.K.2 3 _ rfl).1 n (fun j => .int (f j))) (fun q => by cases q) (by show ¬ (i < 0 ∨ (arrV _ _ _).slots.size ≤ _); rw [arrV_size]; exact hx) rfl rfl d fun H1 e9 z oq => ?_
  refine kk p e s m args below meth c H1 _ cells slots L C (I.up ha ?_ z oq)
  show H1[a]? = some (vp_cell _ _)
  rw [e9, vp_cell_i, vp_cell_i, arrV_store]
  congr 2
  funext q
  by_cases hq : q = i.toNatClampNeg
  · subst hq
    simp [updV, upd]
    have hnar : narrow .boolean (.int x) = .int (vp_nar .boolean x) := by unfold vp_nar; unfold narrow; rfl
    rw [hnar]
  · simp [updV, upd, hq]
theorem xr_last {a n j : Nat} {f : Nat → Int64} {i : Int32} {x : Int64} (ha : h.2 a = some (.inl (K.2 2, n, .inr (.inl f)))) (hx : xix i n j) (d : decode cc pc = .ok (.lastore, 1)) (kk : xT K B l F own ini cc nL ret mc ms rc rs Q (pc + 1) ls st (xup h a (.inl (K.2 2, n, .inr (.inl (vp_updL f j x)))))) : xT K B l F own ini cc nL ret mc ms rc rs Q pc ls (.long x :: .int i :: .ref a :: st) h := by
  intro p e s m args below meth c H locs cells slots L C I
  obtain ⟨hx, rfl⟩ := hx
  have hP := I.1.one ha
  refine W.last C.1 C.2.1 (hP 0 _ rfl) ((C.K.2 2 _ rfl).1 n (fun j => .long (f j))) (fun q => by cases q) (by show ¬ (i < 0 ∨ (arrV _ _ _).slots.size ≤ _); rw [arrV_size]; exact hx) rfl rfl d fun H1 e9 z oq => ?_
  refine kk p e s m args below meth c H1 _ cells slots L C (I.up ha ?_ z oq)
  show H1[a]? = some (vp_cell _ _)
  rw [e9, vp_cell_l, vp_cell_l, arrV_store]
  congr 2
  funext q
  by_cases hq : q = i.toNatClampNeg
  · subst hq
    simp [updV, vp_updL]
  · simp [updV, vp_updL, hq]
theorem xr_aast {a n j v : Nat} {f : Nat → Option Nat} {i : Int32} {vs : List Value} (ha : h.2 a = some (.inl (K.2 4, n, .inr (.inr (.inr (.inr f)))))) (hv : h.2 v = some (.inr (3, vs))) (hx : xix i n j) (d : decode cc pc = .ok (.aastore, 1)) (kk : xT K B l F own ini cc nL ret mc ms rc rs Q (pc + 1) ls st (xup h a (.inl (K.2 4, n, .inr (.inr (.inr (.inr (va_up f j (some v))))))))) : xT K B l F own ini cc nL ret mc ms rc rs Q pc ls (.ref v :: .int i :: .ref a :: st) h := by
  intro p e s m args below meth c H locs cells slots L C I
  obtain ⟨hin, rfl⟩ := hx
  have hlt : i.toNatClampNeg < n := Nat.not_le.mp fun q => hin (Or.inr q)
  have h0 : ¬ i < 0 := fun q => hin (Or.inl q)
  have hP := I.1.one ha
  obtain ⟨r', hr', cellV, g1, g2, g3, -⟩ := (I.1.2.2 v _ hv).2
  have hcls := (C.K.1 3 _ rfl).2
  obtain ⟨kA, comp, k1, k2, k3, -⟩ := (C.K.2 4 _ rfl).2
  have hcomp : comp = K.1.1 3 := Option.some.inj (k3.symm.trans hcls.1)
  subst hcomp
  obtain ⟨kC, hkC, hkk⟩ := hcls.2
  refine W.aast C.1 C.2.1 (hP 0 _ rfl) (fun q h => by cases h) (fun h => by cases h) k1 k2 rfl hkC ⟨h0, by show _ < (arrV _ _ _).slots.size; rw [arrV_size]; exact hlt⟩ g1 (fun q h => by rw [g3] at h; cases h) (by rw [g2]; exact hkC) (by rw [g2]; exact va_assign ⟨hcls.1, kC, hkC, hkk⟩) rfl rfl d fun H1 e9 z oq => ?_
  refine kk p e s m args below meth c H1 _ cells slots L C (I.up ha ?_ z oq)
  show H1[a]? = some (vp_cell _ _)
  rw [e9, vp_cell_q, vp_cell_q, arrV_store]
  congr 2
  funext q
  by_cases hq : q = i.toNatClampNeg
  · subst hq
    simp [updV, va_up, va_rf]
  · simp [updV, va_up, hq]
theorem xr_new {ci index N : Nat} {Cn : String} {T : u_T} {ty0 : Nat → FieldType} {fs : List Value} (hc : xCl ci Cn T N ty0) (h1 : Cond.classLink own index Cn ∈ xW) (h2 : Cond.instantiable Cn N ∈ xW) (h3 : Cond.initialized Cn ∈ xW) (hfs : ∀ j, j < N → defaultValue (ty0 j) = vp_V fs j) (hrc : rc' + 1 = rc) (hrs : rs' + N = rs) (d : decode cc pc = .ok (.new index, 3)) (kk : xT K B l F own ini cc nL ret mc ms rc' rs' Q (pc + 3) ls (.ref h.1 :: st) (xnew h (.inr (ci, fs)))) : xT K B l F own ini cc nL ret mc ms rc rs Q pc ls st h := by
  intro p e s m args below meth c H locs cells slots L C I
  have hts : ∀ w ∈ xW, w.before args s = true := fun w hw => C.A.use hw
  have hKn := C.K.1 ci _ hc.1
  have hb := I.2.2.2.2
  have hsz := I.1.1
  refine W.newcK C.1 C.2.1 C.own (hts _ h1) (hts _ h2) (hts _ h3) rfl d (by show cells + 1 ≤ mc; omega) (by show slots + N ≤ ms; omega) hKn.2.1 rfl fun H1 kC hkC e1 z1 o1 => ?_
  have k := kk p e s m args below meth c H1 locs (cells + 1) (slots + N) L C (I.new hrc hrs ⟨_, hc.1, (u_born ty0 hts hc.2.1 hKn hkC e1 hc.2.2.1).to hfs⟩ z1 o1)
  rw [← hsz] at k
  exact k
theorem xr_newi {n : Int32} {N : Nat} (hw : Cond.arrayClass .int ∈ xW) (hn : ¬ n < 0) (hN : n.toNatClampNeg = N) (hby : N ≤ 10000) (hrc : rc' + 1 = rc) (hrs : rs' + N = rs) (d : decode cc pc = .ok (.newarray .int, 2)) (kk : xT K B l F own ini cc nL ret mc ms rc' rs' Q (pc + 2) ls (.ref h.1 :: st) (xnew h (.inl (K.2 1, N, .inl (fun _ => 0))))) : xT K B l F own ini cc nL ret mc ms rc rs Q pc ls (.int n :: st) h := by
  intro p e s m args below meth c H locs cells slots L C I
  have hts : ∀ w ∈ xW, w.before args s = true := fun w hw => C.A.use hw
  have hb := I.2.2.2.2
  have hsz := I.1.1
  refine va_newaK (atype := .int) C.1 C.2.1 (hts _ hw) rfl d rfl hn hN (by show N * _ ≤ _; simp only [newarray.typeOf, componentBytes]; omega) (by show cells + 1 ≤ mc; omega) (by show slots + N ≤ ms; omega) rfl fun H1 cA e1 z1 o1 hAr hNm => ?_
  have hcA : cA = K.2 1 := by
    have h9 := (C.K.2 1 _ rfl).2
    exact Option.some.inj (hNm.symm.trans h9)
  subst hcA
  have k := kk p e s m args below meth c H1 locs (cells + 1) (slots + N) L C (I.new hrc hrs (by exact e1) z1 o1)
  rw [← hsz] at k
  exact k
theorem xr_newb {n : Int32} {N : Nat} (hw : Cond.arrayClass .byte ∈ xW) (hn : ¬ n < 0) (hN : n.toNatClampNeg = N) (hby : N ≤ 10000) (hrc : rc' + 1 = rc) (hrs : rs' + N = rs) (d : decode cc pc = .ok (.newarray .byte, 2)) (kk : xT K B l F own ini cc nL ret mc ms rc' rs' Q (pc + 2) ls (.ref h.1 :: st) (xnew h (.inl (K.2 0, N, .inl (fun _ => 0))))) : xT K B l F own ini cc nL ret mc ms rc rs Q pc ls (.int n :: st) h := by
  intro p e s m args below meth c H locs cells slots L C I
  have hts : ∀ w ∈ xW, w.before args s = true := fun w hw => C.A.use hw
  have hb := I.2.2.2.2
  have hsz := I.1.1
  refine va_newaK (atype := .byte) C.1 C.2.1 (hts _ hw) rfl d rfl hn hN (by show N * _ ≤ _; simp only [newarray.typeOf, componentBytes]; omega) (by show cells + 1 ≤ mc; omega) (by show slots + N ≤ ms; omega) rfl fun H1 cA e1 z1 o1 hAr hNm => ?_
  have hcA : cA = K.2 0 := by
    have h9 := (C.K.2 0 _ rfl).2
    exact Option.some.inj (hNm.symm.trans h9)
  subst hcA
  have k := kk p e s m args below meth c H1 locs (cells + 1) (slots + N) L C (I.new hrc hrs (by exact e1) z1 o1)
  rw [← hsz] at k
  exact k
theorem xr_newz {n : Int32} {N : Nat} (hw : Cond.arrayClass .boolean ∈ xW) (hn : ¬ n < 0) (hN : n.toNatClampNeg = N) (hby : N ≤ 10000) (hrc : rc' + 1 = rc) (hrs : rs' + N = rs) (d : decode cc pc = .ok (.newarray .boolean, 2)) (kk : xT K B l F own ini cc nL ret mc ms rc' rs' Q (pc + 2) ls (.ref h.1 :: st) (xnew h (.inl (K.2 3, N, .inl (fun _ => 0))))) : xT K B l F own ini cc nL ret mc ms rc rs Q pc ls (.int n :: st) h := by
  intro p e s m args below meth c H locs cells slots L C I
  have hts : ∀ w ∈ xW, w.before args s = true := fun w hw => C.A.use hw
  have hb := I.2.2.2.2
  have hsz := I.1.1
  refine va_newaK (atype := .boolean) C.1 C.2.1 (hts _ hw) rfl d rfl hn hN (by show N * _ ≤ _; simp only [newarray.typeOf, componentBytes]; omega) (by show cells + 1 ≤ mc; omega) (by show slots + N ≤ ms; omega) rfl fun H1 cA e1 z1 o1 hAr hNm => ?_
  have hcA : cA = K.2 3 := by
    have h9 := (C.K.2 3 _ rfl).2
    exact Option.some.inj (hNm.symm.trans h9)
  subst hcA
  have k := kk p e s m args below meth c H1 locs (cells + 1) (slots + N) L C (I.new hrc hrs (by exact e1) z1 o1)
  rw [← hsz] at k
  exact k
theorem xr_newl {n : Int32} {N : Nat} (hw : Cond.arrayClass .long ∈ xW) (hn : ¬ n < 0) (hN : n.toNatClampNeg = N) (hby : N ≤ 10000) (hrc : rc' + 1 = rc) (hrs : rs' + N = rs) (d : decode cc pc = .ok (.newarray .long, 2)) (kk : xT K B l F own ini cc nL ret mc ms rc' rs' Q (pc + 2) ls (.ref h.1 :: st) (xnew h (.inl (K.2 2, N, .inr (.inl (fun _ => 0)))))) : xT K B l F own ini cc nL ret mc ms rc rs Q pc ls (.int n :: st) h := by
  intro p e s m args below meth c H locs cells slots L C I
  have hts : ∀ w ∈ xW, w.before args s = true := fun w hw => C.A.use hw
  have hb := I.2.2.2.2
  have hsz := I.1.1
  refine va_newaK (atype := .long) C.1 C.2.1 (hts _ hw) rfl d rfl hn hN (by show N * _ ≤ _; simp only [newarray.typeOf, componentBytes]; omega) (by show cells + 1 ≤ mc; omega) (by show slots + N ≤ ms; omega) rfl fun H1 cA e1 z1 o1 hAr hNm => ?_
  have hcA : cA = K.2 2 := by
    have h9 := (C.K.2 2 _ rfl).2
    exact Option.some.inj (hNm.symm.trans h9)
  subst hcA
  have k := kk p e s m args below meth c H1 locs (cells + 1) (slots + N) L C (I.new hrc hrs (by exact e1) z1 o1)
  rw [← hsz] at k
  exact k
end XH
