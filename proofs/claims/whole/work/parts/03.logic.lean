/-! A HOARE LOGIC over the kit's rows. A heap is told by xH: its size, and what the cells from B on hold, by address. xT: from pc with these locals, stack and heap the method comes to its end with Q. xS: a method's contract. Room: F frames, 64 words each; mc cells and ms slots at most are made. -/
abbrev xK : Type := va_G × (Nat → ClassId)
abbrev xH : Type := Nat × (Nat → Option va_E)
abbrev xM : Type := MethodName × ByteArray × Nat × Option FieldType
def xTy (K : xK) : List (ClassId × FieldType) := [(K.2 0, .byte), (K.2 1, .int), (K.2 2, .long), (K.2 3, .boolean), (K.2 4, .object RX3)]
def xnest : Cond → Bool
  | .fieldLinkNest .. => true
  | .methodLinkNest .. => true
  | .arrayOver (.object _) => true
  | _ => false
def xok (w : Cond) : Bool := goodWord w || xnest w
def xW : List Cond := lw_tbl.filter xok
def xA (U : State) : Prop := ∀ w ∈ xW, w.before #[] U = true
theorem xok_of {w : Cond} (h : w ∈ xW) : xok w = true := (List.mem_filter.mp h).2
theorem xw_at {w : Cond} (hk : xok w = true) {args a' : Array Value} {s U : State} (hW : s.WarmedH U.vm) (h : w.before args s = true) : w.before a' U = true := by
  unfold xok at hk
  rw [Bool.or_eq_true] at hk
  rcases hk with hk | hk
  · exact word_at hW (good_of_word hk) h
  · cases w <;> first | (simp [xnest] at hk; done) | (rename_i ty; cases ty <;> first | (simp [xnest] at hk; done) | exact va_AO.use (va_AO.moved hW.alike (va_AO.of h))) | exact va_Nw.use rfl (va_Nw.warmF hW (va_Nw.of rfl h)) | exact va_Nw.use rfl (va_Nw.warmM hW (va_Nw.of rfl h))
theorem xA.use {U : State} (h : xA U) {w : Cond} (hw : w ∈ xW) {args : Array Value} : w.before args U = true := xw_at (xok_of hw) (State.WarmedH.refl U) (h w hw)
theorem xA.warm {s U : State} (hW : s.WarmedH U.vm) (h : xA s) : xA U := fun w hw => xw_at (xok_of hw) hW (h w hw)
theorem xA.of {s : State} {args : Array Value} (h : ∀ w ∈ lw_tbl, w.before args s = true) : xA s := fun w hw => xw_at (xok_of hw) (State.WarmedH.refl s) (h w (List.mem_filter.mp hw).1)
theorem xW_of {w : Cond} (h : w ∈ lw_tbl) (hk : xok w = true) : w ∈ xW := List.mem_filter.mpr ⟨h, hk⟩
theorem xW_tb {w : Cond} {i : Nat} (h : tables_1[i]? = some w) (hk : xok w = true) : w ∈ xW := xW_of (List.mem_append_right _ (List.mem_of_getElem? h)) hk
theorem xW_pv {q : MethodName × Nat} (h : q ∈ lw_privs) : Cond.selects q.1.cls q.1 q.1 ∈ xW := xW_of (List.mem_append_left _ (List.mem_map.mpr ⟨q, h, rfl⟩)) rfl
-- heaps
def xR (K : xK) (B : Nat) (h : xH) (H : Heap) : Prop := H.size = h.1 ∧ B ≤ h.1 ∧ ∀ (a : Nat) (e : va_E), h.2 a = some e → B ≤ a ∧ va_at K.1 vwCl (a, e) H
def xup (h : xH) (a : Nat) (e : va_E) : xH := (h.1, fun b => if b = a then some e else h.2 b)
def xnew (h : xH) (e : va_E) : xH := (h.1 + 1, fun b => if b = h.1 then some e else h.2 b)
theorem xup_eq (h : xH) (a : Nat) (e : va_E) : (xup h a e).2 a = some e := by simp [xup]
theorem xup_ne (h : xH) {a b : Nat} (e : va_E) (n : b ≠ a) : (xup h a e).2 b = h.2 b := by simp [xup, n]
theorem xup_1 (h : xH) (a : Nat) (e : va_E) : (xup h a e).1 = h.1 := rfl
theorem xup_xup (h : xH) (a : Nat) (e e' : va_E) : xup (xup h a e) a e' = xup h a e' := by
  unfold xup
  refine Prod.ext rfl ?_
  funext b
  by_cases hb : b = a <;> simp [hb]
theorem xup_comm (h : xH) {a b : Nat} (e e' : va_E) (n : a ≠ b) : xup (xup h a e) b e' = xup (xup h b e') a e := by
  unfold xup
  refine Prod.ext rfl ?_
  funext c
  by_cases h1 : c = a
  · have : c ≠ b := fun q => n (h1.symm.trans q)
    simp [h1, n]
  · by_cases h2 : c = b
    · subst h2
      simp [h1]
    · simp [h1, h2]
theorem xup_id {h : xH} {a : Nat} {e : va_E} (he : h.2 a = some e) : xup h a e = h := by
  unfold xup
  refine Prod.ext rfl ?_
  funext b
  by_cases hb : b = a
  · simp [hb, he]
  · simp [hb]
theorem xR.lt {K : xK} {B : Nat} {h : xH} {H : Heap} (hR : xR K B h H) {a : Nat} {e : va_E} (he : h.2 a = some e) : a < H.size := (hR.2.2 a e he).2.lt
theorem xR.up {K : xK} {B : Nat} {h : xH} {H H1 : Heap} {a : Nat} {e0 e : va_E} (hR : xR K B h H) (h0 : h.2 a = some e0) (he : va_at K.1 vwCl (a, e) H1) (hz : H1.size = H.size) (ho : ∀ q : Nat, q ≠ a → H1[q]? = H[q]?) : xR K B (xup h a e) H1 := by
  refine ⟨hz.trans hR.1, hR.2.1, fun b e' hb => ?_⟩
  by_cases hba : b = a
  · subst hba
    rw [xup_eq] at hb
    cases hb
    exact ⟨(hR.2.2 b e0 h0).1, he⟩
  · rw [xup_ne _ _ hba] at hb
    exact ⟨(hR.2.2 b e' hb).1, (hR.2.2 b e' hb).2.kept (ho b hba)⟩
theorem xR.new {K : xK} {B : Nat} {h : xH} {H H1 : Heap} {e : va_E} (hR : xR K B h H) (he : va_at K.1 vwCl (H.size, e) H1) (hz : H1.size = H.size + 1) (ho : ∀ q : Nat, q < H.size → H1[q]? = H[q]?) : xR K B (xnew h e) H1 := by
  refine ⟨by rw [hz, hR.1]; rfl, Nat.le_succ_of_le hR.2.1, fun b e' hb => ?_⟩
  by_cases hba : b = h.1
  · have hb2 : (xnew h e).2 b = some e := by simp [xnew, hba]
    rw [hb2] at hb
    cases hb
    rw [hba, ← hR.1]
    exact ⟨by rw [hR.1]; exact hR.2.1, he⟩
  · have hb2 : (xnew h e).2 b = h.2 b := by simp [xnew, hba]
    rw [hb2] at hb
    exact ⟨(hR.2.2 b e' hb).1, (hR.2.2 b e' hb).2.kept (ho b (hR.lt hb))⟩
/-- what arrays hold behind their ends is nothing -/
def xcong (e e' : va_E) : Prop := ∀ (D : va_G) (a : Nat) (H : Heap), va_at D vwCl (a, e) H → va_at D vwCl (a, e') H
theorem arrV_congr {cA : ClassId} {n : Nat} {f g : Nat → Value} (h : ∀ j, j < n → f j = g j) : arrV cA n f = arrV cA n g := by
  have hs : (arrV cA n f).slots = (arrV cA n g).slots := by
    apply Array.ext
    · rw [arrV_size, arrV_size]
    · intro i h1 h2
      have hi : i < n := by rw [arrV_size] at h1; exact h1
      have e1 := arrV_read cA f hi
      have e2 := arrV_read cA g hi
      rw [Array.getElem?_eq_getElem h1] at e1
      rw [Array.getElem?_eq_getElem h2] at e2
      rw [Option.some.inj e1, Option.some.inj e2, h i hi]
  unfold arrV at hs ⊢
  simp only at hs ⊢
  rw [hs]
theorem xcong_i {cA : ClassId} {n : Nat} {f g : Nat → Int32} (h : ∀ j, j < n → f j = g j) : xcong (.inl (cA, n, .inl f)) (.inl (cA, n, .inl g)) := by
  intro D a H q
  have q' : H[a]? = some (vp_cell cA (n, .inl f)) := q
  show H[a]? = some (vp_cell cA (n, .inl g))
  rw [q', vp_cell_i, vp_cell_i, arrV_congr (fun j hj => by rw [h j hj])]
theorem xcong_l {cA : ClassId} {n : Nat} {f g : Nat → Int64} (h : ∀ j, j < n → f j = g j) : xcong (.inl (cA, n, .inr (.inl f))) (.inl (cA, n, .inr (.inl g))) := by
  intro D a H q
  have q' : H[a]? = some (vp_cell cA (n, .inr (.inl f))) := q
  show H[a]? = some (vp_cell cA (n, .inr (.inl g)))
  rw [q', vp_cell_l, vp_cell_l, arrV_congr (fun j hj => by rw [h j hj])]
theorem xcong_q {cA : ClassId} {n : Nat} {f g : Nat → Option Nat} (h : ∀ j, j < n → f j = g j) : xcong (.inl (cA, n, .inr (.inr (.inr (.inr f))))) (.inl (cA, n, .inr (.inr (.inr (.inr g))))) := by
  intro D a H q
  have q' : H[a]? = some (vp_cell cA (n, .inr (.inr (.inr (.inr f))))) := q
  show H[a]? = some (vp_cell cA (n, .inr (.inr (.inr (.inr g)))))
  rw [q', vp_cell_q, vp_cell_q, arrV_congr (fun j hj => by rw [h j hj])]
theorem xR.cong {K : xK} {B : Nat} {h : xH} {H : Heap} {a : Nat} {e e' : va_E} (hR : xR K B h H) (he : h.2 a = some e) (hc : xcong e e') : xR K B (xup h a e') H :=
  hR.up he (hc _ _ _ (hR.2.2 a e he).2) rfl (fun _ _ => rfl)
-- locals
def xL (nL : Nat) (ls : List (Option Value)) (L : Array Slot) : Prop := L.size = nL ∧ lv_wf L ∧ ∀ (i : Nat) (v : Value), ls[i]? = some (some v) → L[i]? = some (.val v)
def xas (ls : List (Option Value)) : List (Nat × Value) := (List.range ls.length).filterMap fun i => match ls[i]? with
  | some (some v) => some (i, v)
  | _ => none
theorem xas_mem {ls : List (Option Value)} {i : Nat} {v : Value} : (i, v) ∈ xas ls ↔ ls[i]? = some (some v) := by
  unfold xas
  rw [List.mem_filterMap]
  constructor
  · rintro ⟨j, -, hj⟩
    split at hj
    · rename_i w hw
      cases hj
      exact hw
    · cases hj
  · intro h
    refine ⟨i, List.mem_range.mpr (List.getElem?_eq_some_iff.mp h).1, ?_⟩
    rw [h]
theorem xL.has {nL : Nat} {ls : List (Option Value)} {L : Array Slot} (h : xL nL ls L) : lv_has L nL (xas ls) := ⟨h.1, h.2.1, fun q hq => h.2.2 q.1 q.2 (xas_mem.mp hq)⟩
/-- the local ahead of place i is no long or double -/
def xnp (ls : List (Option Value)) (i : Nat) : Bool := match i with
  | 0 => true
  | j + 1 => match ls[j]? with
    | some (some v) => v.category != 2
    | _ => true
theorem xL.st1 {nL i : Nat} {ls : List (Option Value)} {L' : Array Slot} {v : Value} (hp : xnp ls i = true)
    (h : lv_has L' nL ((i, v) :: (xas ls).filter (fun q => !(q.1 == i) && !(q.1 + 1 == i && q.2.category == 2)))) : xL nL (ls.set i (some v)) L' := by
  refine ⟨h.1, h.2.1, fun j w hj => ?_⟩
  by_cases hji : j = i
  · subst hji
    rw [List.getElem?_set_self (by
      have := (List.getElem?_eq_some_iff.mp hj).1
      rwa [List.length_set] at this)] at hj
    cases hj
    exact h.2.2 (j, v) List.mem_cons_self
  · rw [List.getElem?_set_ne (Ne.symm hji)] at hj
    refine h.2.2 (j, w) (List.mem_cons_of_mem _ (List.mem_filter.mpr ⟨xas_mem.mpr hj, ?_⟩))
    have h1 : (j == i) = false := by simpa using hji
    by_cases h2 : j + 1 = i
    · subst h2
      have h3 : (w.category == 2) = false := by
        simp only [xnp, hj] at hp
        simpa using hp
      simp [h1, h3]
    · have h3 : (j + 1 == i) = false := by simpa using h2
      simp [h1, h3]
theorem xL.st2 {nL i : Nat} {ls : List (Option Value)} {L' : Array Slot} {v : Value} (hp : xnp ls i = true)
    (h : lv_has L' nL ((i, v) :: (xas ls).filter (fun q => !(q.1 == i) && (!(q.1 == i + 1) && !(q.1 + 1 == i && q.2.category == 2))))) : xL nL ((ls.set i (some v)).set (i + 1) none) L' := by
  refine ⟨h.1, h.2.1, fun j w hj => ?_⟩
  by_cases hj1 : j = i + 1
  · subst hj1
    rw [List.getElem?_set_self (by
      have := (List.getElem?_eq_some_iff.mp hj).1
      rwa [List.length_set] at this)] at hj
    cases hj
  · rw [List.getElem?_set_ne (Ne.symm hj1)] at hj
    by_cases hji : j = i
    · subst hji
      rw [List.getElem?_set_self (by
        have := (List.getElem?_eq_some_iff.mp hj).1
        rwa [List.length_set] at this)] at hj
      cases hj
      exact h.2.2 (j, v) List.mem_cons_self
    · rw [List.getElem?_set_ne (Ne.symm hji)] at hj
      refine h.2.2 (j, w) (List.mem_cons_of_mem _ (List.mem_filter.mpr ⟨xas_mem.mpr hj, ?_⟩))
      have h1 : (j == i) = false := by simpa using hji
      have h4 : (j == i + 1) = false := by simpa using hj1
      by_cases h2 : j + 1 = i
      · subst h2
        have h3 : (w.category == 2) = false := by
          simp only [xnp, hj] at hp
          simpa using hp
        simp [h1, h3, hj1]
        try omega
      · have h3 : (j + 1 == i) = false := by simpa using h2
        simp [h1, h3, hj1]
/-- locals may be forgotten -/
theorem xL.weak {nL : Nat} {ls ls' : List (Option Value)} {L : Array Slot} (h : xL nL ls L) (hw : ∀ (i : Nat) (v : Value), ls'[i]? = some (some v) → ls[i]? = some (some v)) : xL nL ls' L := ⟨h.1, h.2.1, fun i v hi => h.2.2 i v (hw i v hi)⟩
def xls (l : List (Nat × Value)) (nL : Nat) : List (Option Value) := (List.range nL).map fun i => (l.find? fun q => q.1 == i).map (·.2)
theorem xls_mem {l : List (Nat × Value)} {nL i : Nat} {v : Value} (h : (xls l nL)[i]? = some (some v)) : (i, v) ∈ l := by
  unfold xls at h
  rw [List.getElem?_map] at h
  have hi : i < nL := by
    rcases Nat.lt_or_ge i nL with q | q
    · exact q
    · rw [List.getElem?_eq_none (by simpa using q)] at h
      cases h
  rw [List.getElem?_range hi] at h
  simp only [Option.map_some, Option.some.injEq, Option.map_eq_some_iff] at h
  obtain ⟨q, hq, rfl⟩ := h
  have h1 := List.mem_of_find?_eq_some hq
  have h2 := List.find?_some hq
  have h3 : q.1 = i := by simpa using h2
  rw [← h3]
  exact h1
-- the judgements
def xC (K : xK) (own : String) (ini : Bool) (cc : ByteArray) (nL : Nat) (ret : Option FieldType) (p : Program) (s : State) (m : MethodId) (meth : Method) (c : Code) : Prop :=
  p.tables.exec = Jvm.exec ∧ c.code = cc ∧ c.maxLocals = nL ∧ meth.sig.returnType = ret ∧ meth.locks = false ∧ s.vm.findClass own = some m.cls ∧ (ini = true → meth.name = "<init>") ∧ xA s ∧ va_K K.1 vwCl (xTy K) s
def xI (K : xK) (B mc ms rc rs nL : Nat) (s : State) (H : Heap) (locs : List Loc) (cells slots : Nat) (ls : List (Option Value)) (L : Array Slot) (h : xH) : Prop :=
  xR K B h H ∧ (s.heap.size ≤ H.size ∧ ∀ q : Nat, q < B → H[q]? = s.heap[q]?) ∧ (∀ q ∈ locs, B ≤ q.base) ∧ xL nL ls L ∧ cells + rc ≤ mc ∧ slots + rs ≤ ms
def xRoom (F mc ms : Nat) : Room := { frames := F, cells := mc, slots := ms, locals := 64 * F }
def xQc (K : xK) (B : Nat) (Q : Option Value → xH → Prop) : Array Value → State → Outcome → State → Prop := fun _ st oc t =>
  ∃ (r : Option Value) (h' : xH), oc = .returned r ∧ Q r h' ∧ xR K B h' t.heap ∧ st.heap.size ≤ t.heap.size ∧ ∀ q : Nat, q < B → t.heap[q]? = st.heap[q]?
def xT (K : xK) (B : Nat) (l : Launch) (F : Nat) (own : String) (ini : Bool) (cc : ByteArray) (nL : Nat) (ret : Option FieldType) (mc ms rc rs : Nat) (Q : Option Value → xH → Prop) (pc : Nat) (ls : List (Option Value)) (st : List Value) (h : xH) : Prop :=
  ∀ (p : Program) (e : Env) (s : State) (m : MethodId) (args : Array Value) (below : List Frame) (meth : Method) (c : Code) (H : Heap) (locs : List Loc) (cells slots : Nat) (L : Array Slot),
    xC K own ini cc nL ret p s m meth c → xI K B mc ms rc rs nL s H locs cells slots ls L h →
    W p l e (xRoom F mc ms) s m args below meth c H locs cells slots (MQ below (xQc K B Q) args s mc ms (fun q => B ≤ q)) (F0 m pc L st)
def xP (K : xK) (B : Nat) (av : List Value) (h : xH) : Array Value → State → Prop := fun v U => v = av.toArray ∧ xA U ∧ va_K K.1 vwCl (xTy K) U ∧ xR K B h U.heap
def xS (K : xK) (B : Nat) (l : Launch) (F : Nat) (M : xM) (mc ms : Nat) (av : List Value) (h : xH) (Q : Option Value → xH → Prop) : Prop :=
  Met l M.1 [.code M.1 M.2.1 M.2.2.1 M.2.2.2] (xRoom F mc ms) (xP K B av h) (xQc K B Q) mc ms (fun q => B ≤ q)
theorem xP.blind {K : xK} {B : Nat} {av : List Value} {h : xH} : FrameBlind (xP K B av h) := by
  intro a U g mk q
  obtain ⟨q1, q2, q3, q4⟩ := q
  exact ⟨q1, xA.warm (s := U) (U := U.calling g mk a) (State.WarmedH.refl U) q2, va_K.moved (u := U) (U := U.calling g mk a) (Vm.Alike.refl U.vm) q3, q4⟩
theorem xS.intro {K : xK} {B : Nat} {l : Launch} {F : Nat} {M : xM} {mc ms : Nat} {av : List Value} {h : xH} {Q : Option Value → xH → Prop} (own : String) (ini : Bool) {cc : ByteArray} {nL : Nat} {ret : Option FieldType}
    (hM : M.1.cls = own ∧ M.2 = (cc, nL, ret) ∧ (ini = true → M.1.name = "<init>") ∧ plainName M.1.cls = true ∧ (lg_sl av).length ≤ nL) {ls : List (Option Value)} (hls : xls (lv_args 0 av) nL = ls)
    (k : xT K B l F own ini cc nL ret mc ms mc ms Q 0 ls [] h) : xS K B l F M mc ms av h Q := by
  obtain ⟨y, cc', nL', ret'⟩ := M
  obtain ⟨rfl, hM2, hn, hpl, hav⟩ := hM
  cases hM2
  refine Met.ofW (cc := cc) (maxL := nL) (ret := ret) hpl rfl ?_
  intro p e s m args below meth c s₁ Bd hml hv
  obtain ⟨rfl, h2, h3, h4⟩ := hv
  have hl := lv_entry av (n := nL) hav
  rw [lg_entry_eq]
  generalize (lg_sl av ++ List.replicate (nL - (lg_sl av).length) Slot.unset).toArray = L at hl ⊢
  refine k p e s m _ below meth c s.heap [] 0 0 L ⟨Bd.exec, Bd.bytes, hml, Bd.returns, Bd.notSynchronized, findClass_of_methodNamed Bd.named, fun hi => ?_, h2, h3⟩ ⟨h4, ⟨Nat.le_refl _, fun _ _ => rfl⟩, (fun q hq => by cases hq), ⟨hl.1, hl.2.1, fun i v hi => ?_⟩, by omega, by omega⟩
  · rw [(name_of_methodNamed Bd.named Bd.method).1]
    exact hn hi
  · rw [← hls] at hi
    exact hl.2.2 (i, v) (xls_mem hi)
section XT
variable {K : xK} {B : Nat} {l : Launch} {F : Nat} {own : String} {ini : Bool} {cc : ByteArray} {nL : Nat} {ret : Option FieldType} {mc ms rc rs : Nat} {Q : Option Value → xH → Prop} {pc : Nat} {ls : List (Option Value)} {st : List Value} {h : xH}
theorem xT.weak {ls' : List (Option Value)} (hw : ∀ (i : Nat) (v : Value), ls'[i]? = some (some v) → ls[i]? = some (some v)) (k : xT K B l F own ini cc nL ret mc ms rc rs Q pc ls' st h) : xT K B l F own ini cc nL ret mc ms rc rs Q pc ls st h := by
  intro p e s m args below meth c H locs cells slots L C I
  obtain ⟨i1, i2, i3, i4, i5⟩ := I
  exact k p e s m args below meth c H locs cells slots L C ⟨i1, i2, i3, i4.weak hw, i5⟩
theorem xT.budget {rc' rs' : Nat} (h1 : rc' ≤ rc) (h2 : rs' ≤ rs) (k : xT K B l F own ini cc nL ret mc ms rc' rs' Q pc ls st h) : xT K B l F own ini cc nL ret mc ms rc rs Q pc ls st h := by
  intro p e s m args below meth c H locs cells slots L C I
  obtain ⟨i1, i2, i3, i4, i5, i6⟩ := I
  exact k p e s m args below meth c H locs cells slots L C ⟨i1, i2, i3, i4, by omega, by omega⟩
theorem xT.post {Q' : Option Value → xH → Prop} (hq : ∀ r h', Q' r h' → Q r h') (k : xT K B l F own ini cc nL ret mc ms rc rs Q' pc ls st h) : xT K B l F own ini cc nL ret mc ms rc rs Q pc ls st h := by
  intro p e s m args below meth c H locs cells slots L C I
  intro T hT X
  obtain ⟨t, a1, o, b1, b2, b3, b4⟩ := k p e s m args below meth c H locs cells slots L C I T hT X
  obtain ⟨r, h', c1, c2, c3⟩ := b3
  exact ⟨t, a1, o, b1, b2, ⟨r, h', c1, hq r h' c2, c3⟩, b4⟩
theorem xT.cong {a : Nat} {e e' : va_E} (he : h.2 a = some e) (hc : xcong e e') (k : xT K B l F own ini cc nL ret mc ms rc rs Q pc ls st (xup h a e')) : xT K B l F own ini cc nL ret mc ms rc rs Q pc ls st h := by
  intro p e s m args below meth c H locs cells slots L C I
  obtain ⟨i1, i2⟩ := I
  exact k p e s m args below meth c H locs cells slots L C ⟨i1.cong he hc, i2⟩
theorem xT.heq {h' : xH} (e : h = h') (k : xT K B l F own ini cc nL ret mc ms rc rs Q pc ls st h') : xT K B l F own ini cc nL ret mc ms rc rs Q pc ls st h := e ▸ k
theorem xT.leq {ls' : List (Option Value)} (e : ls = ls') (k : xT K B l F own ini cc nL ret mc ms rc rs Q pc ls' st h) : xT K B l F own ini cc nL ret mc ms rc rs Q pc ls st h := e ▸ k
theorem xT.seq {st' : List Value} (e : st = st') (k : xT K B l F own ini cc nL ret mc ms rc rs Q pc ls st' h) : xT K B l F own ini cc nL ret mc ms rc rs Q pc ls st h := e ▸ k
/-- a step that leaves locals and heap -/
theorem xT.go {pc' : Nat} {st' : List Value} (k : xT K B l F own ini cc nL ret mc ms rc rs Q pc' ls st' h)
    (f : ∀ (p : Program) (e : Env) (s : State) (m : MethodId) (args : Array Value) (below : List Frame) (meth : Method) (c : Code) (H : Heap) (locs : List Loc) (cells slots : Nat) (L : Array Slot) (Q' : State → Prop), xC K own ini cc nL ret p s m meth c → xL nL ls L → W p l e (xRoom F mc ms) s m args below meth c H locs cells slots Q' (F0 m pc' L st') → W p l e (xRoom F mc ms) s m args below meth c H locs cells slots Q' (F0 m pc L st)) :
    xT K B l F own ini cc nL ret mc ms rc rs Q pc ls st h := by
  intro p e s m args below meth c H locs cells slots L C I
  exact f p e s m args below meth c H locs cells slots L _ C I.2.2.2.1 (k p e s m args below meth c H locs cells slots L C I)
end XT
