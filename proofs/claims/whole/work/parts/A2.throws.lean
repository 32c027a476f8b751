/-! What leaves a method by a throw and is caught by the law's helpers -/
abbrev nsE : String := "java/util/NoSuchElementException"
abbrev nsN : List String := ["java/lang/RuntimeException", "java/lang/Exception"]
def zB : List Cond := [.castable nsE nsE, .declares ⟨"java/lang/RuntimeException", "<init>", "()V"⟩, .declares ⟨"java/lang/Exception", "<init>", "()V"⟩, .declares ⟨"java/lang/Throwable", "<init>", "()V"⟩]
theorem zx_in : ∀ w ∈ (vx_at0 RX11 153 nsE nsN).filter goodWord, w ∈ lw_tbl := by decide +kernel
theorem zx_no : ∀ w ∈ (vx_at0 RX11 153 nsE nsN).filter (fun w => !goodWord w), w ∈ zB := by decide +kernel
theorem zx_ot : ∀ w ∈ Cond.classLink RX11 151 nsE :: Cond.initialized nsE :: vx_at0 RX11 153 nsE nsN, vx_ot w = true := by decide +kernel
theorem zB_t : ∀ w ∈ zB, w.onTables = true := by decide +kernel
def zN (U : State) : Prop := ∀ w ∈ zB, va_Nw w U
theorem zD_warm {x : MethodName} {s U : State} (hW : s.WarmedH U.vm) (hZ : va_Nw (.declares x) s) : va_Nw (.declares x) U := va_tabs rfl (rfl : (s.setVm U.vm).vm = U.vm) (by rw [Cond.declares_setVm hW.alike]; exact hZ)
theorem zN.warm {s U : State} (hW : s.WarmedH U.vm) (h : zN s) : zN U := by
  intro w hw
  have hs := h w hw
  rcases List.mem_cons.mp hw with rfl | hw
  · exact va_Nw.warmC hW hs
  · rcases List.mem_cons.mp hw with rfl | hw
    · exact zD_warm hW hs
    · rcases List.mem_cons.mp hw with rfl | hw
      · exact zD_warm hW hs
      · rcases List.mem_cons.mp hw with rfl | hw
        · exact zD_warm hW hs
        · exact absurd hw List.not_mem_nil
def zZ (B : Nat) (U : State) : Prop := zN U ∧ vx_Zq Bundle.tN "UNASSIGNED_STACK" Bundle.steD (fun q => B ≤ q) U U.heap ∧ vx_Zq Bundle.tN "SUPPRESSED_SENTINEL" Bundle.listD (fun q => B ≤ q) U U.heap
theorem zZ.go {B : Nat} {s U : State} (hW : s.WarmedH U.vm) (hk : ∀ q : Nat, q < B → U.heap[q]? = s.heap[q]?) (h : zZ B s) : zZ B U :=
  ⟨h.1.warm hW, vx_Zq.moved hW.alike (h.2.1.kept (fun a _ hA => hk a (Nat.lt_of_not_le hA))), vx_Zq.moved hW.alike (h.2.2.kept (fun a _ hA => hk a (Nat.lt_of_not_le hA)))⟩
def xPZ (K : xK) (B : Nat) (av : List Value) (h : xH) : Array Value → State → Prop := fun v U => xP K B av h v U ∧ zZ B U
theorem xPZ.blind {K : xK} {B : Nat} {av : List Value} {h : xH} : FrameBlind (xPZ K B av h) := by
  intro a U g mk q
  exact ⟨xP.blind a U g mk q.1, zZ.go (s := U) (U := U.calling g mk a) (State.WarmedH.refl U) (fun _ _ => rfl) q.2⟩
def yXC (K : xK) (B : Nat) (QX : xH → Prop) : String → State → State → Prop := fun E st t => E = nsE ∧ (∃ h' : xH, xR K B h' t.heap ∧ QX h') ∧ st.heap.size ≤ t.heap.size ∧ ∀ q : Nat, q < B → t.heap[q]? = st.heap[q]?
abbrev ZX (K : xK) (B : Nat) (Q : Option Value → xH → Prop) (QX : xH → Prop) (mc ms : Nat) : List Frame → Array Value → State → State → Prop := fun below args s => vx_MQ below (xQc K B Q) (yXC K B QX) args s mc ms (fun q => B ≤ q)
abbrev ZM (K : xK) (B : Nat) (Q : Option Value → xH → Prop) (mc ms : Nat) : List Frame → Array Value → State → State → Prop := fun below args s => MQ below (xQc K B Q) args s mc ms (fun q => B ≤ q)
def psX (B : Nat) : State → Code → Prop := fun s c => zZ B s ∧ ∀ x ∈ c.exceptionTable.toList, False
def psH (B : Nat) (hh : List (Nat × Nat × Nat × Nat)) : State → Code → Prop := fun s c => zZ B s ∧ c.exceptionTable.toList = tableOf hh
theorem yX_intro {K : xK} {B : Nat} {l : Launch} {F : Nat} {M : xM} {mc ms : Nat} {av : List Value} {h : xH} {Q : Option Value → xH → Prop} {QX : xH → Prop} (own : String) {cc : ByteArray} {nL : Nat} {ret : Option FieldType}
    (hM : M.1.cls = own ∧ M.2 = (cc, nL, ret) ∧ plainName M.1.cls = true ∧ (lg_sl av).length ≤ nL) {ls : List (Option Value)} (hls : xls (lv_args 0 av) nL = ls)
    (k : yT (psX B) (ZX K B Q QX mc ms) K B l F own false cc nL ret mc ms mc ms 0 ls [] h) : vx_Met l M.1 [.code M.1 M.2.1 M.2.2.1 M.2.2.2] (xRoom F mc ms) (xPZ K B av h) (xQc K B Q) (yXC K B QX) mc ms (fun q => B ≤ q) := by
  obtain ⟨y, cc', nL', ret'⟩ := M
  obtain ⟨rfl, hM2, hpl, hav⟩ := hM
  cases hM2
  refine vx_ofW (cc := cc) (maxL := nL) (ret := ret) hpl rfl ?_
  intro p e s m args below meth c s₁ Bd hml hext hv
  obtain ⟨⟨rfl, h2, h3, h4⟩, hz⟩ := hv
  have hl := lv_entry av (n := nL) hav
  rw [lg_entry_eq]
  generalize (lg_sl av ++ List.replicate (nL - (lg_sl av).length) Slot.unset).toArray = L at hl ⊢
  refine k p e s m _ below meth c s.heap [] 0 0 L ⟨hz, hext⟩ ⟨Bd.exec, Bd.bytes, hml, Bd.returns, Bd.notSynchronized, findClass_of_methodNamed Bd.named, fun hi => Bool.noConfusion hi, h2, h3⟩ ⟨h4, ⟨Nat.le_refl _, fun _ _ => rfl⟩, (fun q hq => by cases hq), ⟨hl.1, hl.2.1, fun i v hi => ?_⟩, by omega, by omega⟩
  rw [← hls] at hi
  exact hl.2.2 (i, v) (xls_mem hi)
theorem yH_intro {K : xK} {B : Nat} {l : Launch} {F : Nat} {y : MethodName} {mc ms : Nat} {av : List Value} {h : xH} {Q : Option Value → xH → Prop} {hh : List (Nat × Nat × Nat × Nat)} {cc : ByteArray} {nL : Nat} {ret : Option FieldType}
    (hpl : plainName y.cls = true) (hav : (lg_sl av).length ≤ nL) {ls : List (Option Value)} (hls : xls (lv_args 0 av) nL = ls)
    (k : yT (psH B hh) (ZM K B Q mc ms) K B l F y.cls false cc nL ret mc ms mc ms 0 ls [] h) : Met l y [.codeWith y cc nL ret hh] (xRoom F mc ms) (xPZ K B av h) (xQc K B Q) mc ms (fun q => B ≤ q) := by
  refine va_MetW (cc := cc) (maxL := nL) (ret := ret) (hh := hh) hpl rfl ?_
  intro p e s m args below meth c s₁ Bd hml hv
  obtain ⟨⟨rfl, h2, h3, h4⟩, hz⟩ := hv
  have htb : c.exceptionTable.toList = tableOf hh := vx_table (x := y) Bd (atoms_spec (ws := [Cond.codeWith y cc nL ret hh]) Bd.pre _ List.mem_cons_self)
  have hl := lv_entry av (n := nL) hav
  rw [lg_entry_eq]
  generalize (lg_sl av ++ List.replicate (nL - (lg_sl av).length) Slot.unset).toArray = L at hl ⊢
  refine k p e s m _ below meth c s.heap [] 0 0 L ⟨hz, htb⟩ ⟨Bd.exec, Bd.bytes, hml, Bd.returns, Bd.notSynchronized, findClass_of_methodNamed Bd.named, fun hi => Bool.noConfusion hi, h2, h3⟩ ⟨h4, ⟨Nat.le_refl _, fun _ _ => rfl⟩, (fun q hq => by cases hq), ⟨hl.1, hl.2.1, fun i v hi => ?_⟩, by omega, by omega⟩
  rw [← hls] at hi
  exact hl.2.2 (i, v) (xls_mem hi)
section YX
variable {PS : State → Code → Prop} {ZP : List Frame → Array Value → State → State → Prop} {K : xK} {B : Nat} {l : Launch} {F F' : Nat} {own : String} {ini : Bool} {cc : ByteArray} {nL : Nat} {ret : Option FieldType} {mc ms rc rs rc' rs' mc' ms' : Nat} {Q Q' : Option Value → xH → Prop} {QX : xH → Prop} {pc index : Nat} {ls : List (Option Value)} {st rest av : List Value} {h : xH} {M : xM} {a : Nat}
theorem yr_xiret {v : Int32} (d : decode cc pc = .ok (.ireturn, 1)) (hr : ret = some .int) (hq : Q (some (.int v)) h) : yT PS (ZX K B Q QX mc ms) K B l F own ini cc nL ret mc ms rc rs pc ls [.int v] h := by
  intro p e s m args below meth c H locs cells slots L zP C I
  obtain ⟨i1, i2, i3, i4, i5, i6⟩ := I
  exact vx_ret (W.widen (k := mc) (n := ms) (by omega) (by omega) (W.iret C.1 C.2.1 (C.2.2.2.1.trans hr) (fun t ht hW => ⟨_, h, rfl, hq, by rw [ht]; exact i1, by rw [ht]; exact i2.1, fun q hq' => by rw [ht]; exact i2.2 q hq'⟩) i3 d C.2.2.2.2.1))
theorem yr_xlret {v : Int64} (d : decode cc pc = .ok (.lreturn, 1)) (hr : ret = some .long) (hq : Q (some (.long v)) h) : yT PS (ZX K B Q QX mc ms) K B l F own ini cc nL ret mc ms rc rs pc ls [.long v] h := by
  intro p e s m args below meth c H locs cells slots L zP C I
  obtain ⟨i1, i2, i3, i4, i5, i6⟩ := I
  exact vx_ret (W.widen (k := mc) (n := ms) (by omega) (by omega) (W.lret C.1 C.2.1 (C.2.2.2.1.trans hr) (fun t ht hW => ⟨_, h, rfl, hq, by rw [ht]; exact i1, by rw [ht]; exact i2.1, fun q hq' => by rw [ht]; exact i2.2 q hq'⟩) i3 d C.2.2.2.2.1))
theorem yr_miret {v : Int32} (d : decode cc pc = .ok (.ireturn, 1)) (hr : ret = some .int) (hq : Q (some (.int v)) h) : yT PS (ZM K B Q mc ms) K B l F own ini cc nL ret mc ms rc rs pc ls [.int v] h := by
  intro p e s m args below meth c H locs cells slots L zP C I
  obtain ⟨i1, i2, i3, i4, i5, i6⟩ := I
  exact W.widen (k := mc) (n := ms) (by omega) (by omega) (W.iret C.1 C.2.1 (C.2.2.2.1.trans hr) (fun t ht hW => ⟨_, h, rfl, hq, by rw [ht]; exact i1, by rw [ht]; exact i2.1, fun q hq' => by rw [ht]; exact i2.2 q hq'⟩) i3 d C.2.2.2.2.1)
theorem yr_throw (hl : l.stackTraces = false) (d0 : decode cc pc = .ok (.new 151, 3)) (d3 : decode cc (pc + 3) = .ok (.dup, 1)) (d4 : decode cc (pc + 4) = .ok (.invokespecial 153, 3)) (d7 : decode cc (pc + 7) = .ok (.athrow, 1)) (hF : 6 ≤ F) (hrc : 1 ≤ rc) (hrs : 6 ≤ rs) (hq : ∀ n, h.1 ≤ n → QX (n, h.2)) : yT (psX B) (ZX K B Q QX mc ms) K B l F RX11 ini cc nL ret mc ms rc rs pc ls [] h := by
  intro p e s m args below meth c H locs cells slots L zP C I
  obtain ⟨i1, i2, i3, i4, i5, i6⟩ := I
  have hA := C.A
  have hat : ∀ w ∈ vx_at0 RX11 153 nsE nsN, w.before args s = true := vx_hat (B := zB) (fun w hw => hA.use (xW_of (zx_in w hw) (by
    have := (List.mem_filter.mp hw).2
    unfold xok
    rw [this]
    rfl))) zx_no (fun w hw => va_Nw.use (zB_t w hw) (zP.1.1 w hw))
  refine vx_throw0 C.1 C.2.1 hl (own := RX11) (cls := nsE) (names := nsN) (ik := 151) (ic := 153) (A := fun q => B ≤ q) C.own (by decide) (by decide) (hA.use wX11_151) (hA.use wz_javautilNoSuchElementException) hat zx_ot zP.1.2.1 zP.1.2.2 ⟨i2.1, fun q hq' hA' => i2.2 q (Nat.lt_of_not_le hA'), i3⟩ (i4.1.trans C.2.2.1.symm) d0 d3 d4 d7 (fun x hx => absurd hx (fun z => zP.2 x z)) ?_ ?_ ?_ ?_ C.2.2.2.2.1 (fun t hal hz hk => ?_) i3 (by omega) (by omega)
  · show 2 + 3 < F
    omega
  · show 0 + (13 * (2 + 1) + 42) ≤ 64 * F
    omega
  · show cells + 1 ≤ mc
    omega
  · show slots + 6 ≤ ms
    omega
  · have hz' := i1.1
    have hB := i1.2.1
    refine ⟨rfl, ⟨(t.heap.size, h.2), ⟨rfl, by show B ≤ t.heap.size; omega, fun b e' hb => ⟨(i1.2.2 b e' hb).1, (i1.2.2 b e' hb).2.kept (hk b (i1.lt hb))⟩⟩, hq _ (by omega)⟩, by omega, fun q hq' => ?_⟩
    rw [hk q (by omega)]
    exact i2.2 q hq'
theorem yr_callVX {hh : List (Nat × Nat × Nat × Nat)} {x : ExceptionTableEntry} (hM : vx_Met l M.1 [.code M.1 M.2.1 M.2.2.1 M.2.2.2] (xRoom F' mc' ms') (xPZ K B (.ref a :: av) h) (xQc K B Q') (yXC K B QX) mc' ms' (fun q => B ≤ q)) (hv : xRv M a h) (hm : xMi M av.length) (lk : Cond.methodLink own index M.1 ∈ xW) (hF : F' + 1 ≤ F) (hst : st = av.reverse ++ .ref a :: rest) (hrm : (rest.map fun v => v.category).sum ≤ 8) (hrc : mc' + rc' = rc) (hrs : ms' + rs' = rs) (d : decode cc pc = .ok (.invokevirtual index, 3))
    (hx0 : tableOf hh = [x]) (hcov : covers x pc = true) (h0 : x.catchType ≠ 0) (hlk : Cond.classLink own x.catchType nsE ∈ xW)
    (kk : ∀ (r : Option Value) (g : xH), Q' r g → yT (psH B hh) ZP K B l F own ini cc nL ret mc ms rc' rs' (pc + 3) ls (r.toList ++ rest) g)
    (kx : ∀ (q : Nat) (g : xH), QX g → yT (psH B hh) ZP K B l F own ini cc nL ret mc ms rc' rs' x.handlerPc ls [.ref q] g) : yT (psH B hh) ZP K B l F own ini cc nL ret mc ms rc rs pc ls st h := by
  intro p e s m args below meth c H locs cells slots L zP C I
  obtain ⟨ci, fs, T0, N, hv, hci⟩ := hv
  obtain ⟨⟨m1, m2, m3, m4, m5⟩, m6, m7⟩ := hm
  have hA := C.A
  have hb := I.2.2.2.2
  have hcode : (Cond.code M.1 M.2.1 M.2.2.1 M.2.2.2).before args s = true := hA.use m1
  have hpre : PreV s H M.1.cls a (xPZ K B (.ref a :: av) h) av := by
    refine ⟨xPZ.blind, ?_, fun U hU hW => ⟨⟨rfl, hA.warm hW, va_K.moved hW.alike C.K, by rw [hU]; exact I.1⟩, zZ.go hW (fun q hq => by rw [hU]; exact I.2.1.2 q hq) zP.1⟩⟩
    exact va_recv C.K (I.1.one hv) (ci := ci) (q0 := 0) hci rfl
  have hlen : ∀ sig, parseMethodDescriptor M.1.desc = some sig → av.length = sig.parameters.length := fun sig hsig => by
    rw [hsig] at m4
    exact (Option.some.inj m4).symm
  have hws : ∀ w ∈ [Cond.code M.1 M.2.1 M.2.2.1 M.2.2.2], ∀ (a' : Array Value) (U : State), s.WarmedH U.vm → w.before a' U = true := fun w hw a' U hW => by
    rw [List.mem_singleton.mp hw]
    exact xw_at (xok_of m1) hW (hA _ m1)
  have hlo : 8 + (M.2.2.1 + 11) + (xRoom F' mc' ms').locals ≤ (xRoom F mc ms).locals := by
    show 8 + (M.2.2.1 + 11) + 64 * F' ≤ 64 * F
    omega
  have hr : vx_Run p l e (xRoom F mc ms) s m args below meth c H locs cells slots mc' ms' (F0 m pc L st) rest (xQc K B Q' (Value.ref a :: av).toArray) (yXC K B QX) (fun q => B ≤ q) := vx_runV (Ts := xW) ⟨C.1, C.2.1, C.2.2.1, C.own, fun w hw => hA.use hw⟩ hM ⟨⟨rfl, rfl, hF, hlo, hws, List.mem_cons_self, hcode, hA.use m2, m3, hlen, hA.use lk⟩, hA.use m6, hA.use m7⟩ hpre rfl rfl I.2.2.2.1.1 hst (lv_room hrm) d ⟨by show cells + mc' ≤ mc; omega, by show slots + ms' ≤ ms; omega⟩
  intro T hT X
  obtain ⟨i1, i2, i3, i4, i5, i6⟩ := I
  rcases hr T hT X with ⟨v, st₀, t, T', L', hh0, X', hL, e1, e2, ⟨r, g, hv9, hq, hR, hz, hk⟩, stp⟩ | ⟨q9, st₀, t, T', L', E, ce, hh0, X', hL, e1, e2, ⟨rfl, ⟨g, hR, hq⟩, hz, hk⟩, hce, hcv, hcl, stp⟩
  · cases hv9
    rw [hh0] at hz hk
    obtain ⟨t2, a1, b1⟩ := kk v g hq p e s m args below meth c T'.heap (locs ++ L') (cells + mc') (slots + ms') L zP C ⟨by rw [e1]; exact hR, ⟨by rw [e1]; omega, fun q hq' => by rw [e1, hk q hq']; exact i2.2 q hq'⟩, fun q hq' => (List.mem_append.mp hq').elim (i3 q) (hL q), i4, by omega, by omega⟩ T' rfl X'
    exact ⟨t2, stp t2 a1, b1⟩
  · rw [hh0] at hz hk
    have cat : vx_W p l e (xRoom F mc ms) s m args below meth c T'.heap (locs ++ L') (cells + mc') (slots + ms') (ZP below args s) (F0 m pc L rest) q9 := vx_catch (own := own) (name := nsE) (E := nsE) C.own [] x [] (by rw [zP.2]; exact hx0) (fun z hz => absurd hz List.not_mem_nil) hcov h0 (hA.use hlk) (va_Nw.use rfl (zP.1.1 _ List.mem_cons_self)) (by rw [e1]; exact hce) hcv hcl (kx q9 g hq p e s m args below meth c T'.heap (locs ++ L') (cells + mc') (slots + ms') L zP C ⟨by rw [e1]; exact hR, ⟨by rw [e1]; omega, fun q hq' => by rw [e1, hk q hq']; exact i2.2 q hq'⟩, fun q hq' => (List.mem_append.mp hq').elim (i3 q) (hL q), i4, by omega, by omega⟩)
    obtain ⟨t2, a1, b1⟩ := cat T' rfl X'
    exact ⟨t2, stp.trans a1, b1⟩
theorem yr_callSW {hh : List (Nat × Nat × Nat × Nat)} {y : MethodName} {bytes : ByteArray} {maxL : Nat} {rt : Option FieldType} (hM : Met l y [.codeWith y bytes maxL rt hh] (xRoom F' mc' ms') (xPZ K B av h) (xQc K B Q') mc' ms' (fun q => B ≤ q)) (m1 : Cond.codeWith y bytes maxL rt hh ∈ xW) (m2 : Cond.initialized y.cls ∈ xW) (m3 : y.cls ≠ "java/lang/invoke/MethodHandle" ∧ y.cls ≠ "java/lang/invoke/VarHandle") (m4 : (parseMethodDescriptor y.desc).map (fun d => d.parameters.length) = some av.length) (m5 : maxL ≤ 45) (m6 : Cond.static y ∈ xW) (lk : Cond.methodLink own index y ∈ xW) (hzz : ∀ s c, PS s c → zZ B s) (hF : F' + 1 ≤ F) (hst : st = av.reverse ++ rest) (hrm : (rest.map fun v => v.category).sum ≤ 8) (hrc : mc' + rc' = rc) (hrs : ms' + rs' = rs) (d : decode cc pc = .ok (.invokestatic index, 3))
    (kk : ∀ (r : Option Value) (g : xH), Q' r g → yT PS ZP K B l F own ini cc nL ret mc ms rc' rs' (pc + 3) ls (r.toList ++ rest) g) : yT PS ZP K B l F own ini cc nL ret mc ms rc rs pc ls st h := by
  intro p e s m args below meth c H locs cells slots L zP C I
  have hA := C.A
  have hb := I.2.2.2.2
  have hpre : PreS s H (xPZ K B av h) av := ⟨xPZ.blind, fun U hU hW => ⟨⟨rfl, hA.warm hW, va_K.moved hW.alike C.K, by rw [hU]; exact I.1⟩, zZ.go hW (fun q hq => by rw [hU]; exact I.2.1.2 q hq) (hzz s c zP)⟩⟩
  have hlen : ∀ sig, parseMethodDescriptor y.desc = some sig → av.length = sig.parameters.length := fun sig hsig => by
    rw [hsig] at m4
    exact (Option.some.inj m4).symm
  have hws : ∀ w ∈ [Cond.codeWith y bytes maxL rt hh], ∀ (a' : Array Value) (U : State), s.WarmedH U.vm → w.before a' U = true := fun w hw a' U hW => by
    rw [List.mem_singleton.mp hw]
    exact xw_at (xok_of m1) hW (hA _ m1)
  have hlo : 8 + (maxL + 11) + (xRoom F' mc' ms').locals ≤ (xRoom F mc ms).locals := by
    show 8 + (maxL + 11) + 64 * F' ≤ 64 * F
    omega
  refine yr_after (aa := av.toArray) zP C I hrc hrs ?_ kk
  exact vx_runSW (Ts := xW) ⟨C.1, C.2.1, C.2.2.1, C.own, fun w hw => hA.use hw⟩ hM ⟨⟨rfl, rfl, hF, hlo, hws, List.mem_cons_self⟩, hA.use m1, hA.use m2, m3, hlen, hA.use lk, hA.use m6⟩ hpre rfl rfl I.2.2.2.1.1 hst (lv_room hrm) d ⟨by show cells + mc' ≤ mc; omega, by show slots + ms' ≤ ms; omega⟩
end YX
