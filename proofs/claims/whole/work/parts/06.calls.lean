/-! Calls (written by wip/whole/gen06.py) -/
def xLk (own : String) (index : Nat) (y : MethodName) : Prop := Cond.methodLink own index y ∈ xW ∨ ∃ host : String, Cond.methodLinkNest own index y host ∈ xW
def xMh (M : xM) (n : Nat) : Prop := Cond.code M.1 M.2.1 M.2.2.1 M.2.2.2 ∈ xW ∧ Cond.initialized M.1.cls ∈ xW ∧ (M.1.cls ≠ "java/lang/invoke/MethodHandle" ∧ M.1.cls ≠ "java/lang/invoke/VarHandle") ∧ (parseMethodDescriptor M.1.desc).map (fun d => d.parameters.length) = some n ∧ M.2.2.1 ≤ 45
def xMi (M : xM) (n : Nat) : Prop := xMh M n ∧ Cond.instanceMethod M.1 ∈ xW ∧ Cond.selects M.1.cls M.1 M.1 ∈ xW
def xMs (M : xM) (n : Nat) : Prop := xMh M n ∧ Cond.static M.1 ∈ xW
def xMc (M : xM) (n : Nat) : Prop := xMh M n ∧ Cond.instanceMethod M.1 ∈ xW ∧ M.1.name = "<init>" ∧ M.2.2.2 = none
def xRv (M : xM) (a : Nat) (h : xH) : Prop := ∃ (ci : Nat) (fs : List Value) (T : u_T) (N : Nat), h.2 a = some (.inr (ci, fs)) ∧ vwCl[ci]? = some (M.1.cls, T, N)
/-- the contract of a method of the object a, of a static one, of a constructor -/
def xV (K : xK) (B : Nat) (l : Launch) (F : Nat) (M : xM) (mc ms : Nat) (a : Nat) (av : List Value) (h : xH) (Q : Option Value → xH → Prop) : Prop := xRv M a h ∧ xMi M av.length ∧ xS K B l F M mc ms (.ref a :: av) h Q
def xU (K : xK) (B : Nat) (l : Launch) (F : Nat) (M : xM) (mc ms : Nat) (av : List Value) (h : xH) (Q : Option Value → xH → Prop) : Prop := xMs M av.length ∧ xS K B l F M mc ms av h Q
def xN (K : xK) (B : Nat) (l : Launch) (F : Nat) (M : xM) (mc ms : Nat) (a : Nat) (av : List Value) (h : xH) (Q : Option Value → xH → Prop) : Prop := xMc M av.length ∧ xS K B l F M mc ms (.ref a :: av) h Q
def xQi (v : Int32) (g : xH) : Option Value → xH → Prop := fun r g' => r = some (.int v) ∧ g' = g
def xQl (v : Int64) (g : xH) : Option Value → xH → Prop := fun r g' => r = some (.long v) ∧ g' = g
def xQv (g : xH) : Option Value → xH → Prop := fun r g' => r = none ∧ g' = g
section XJ
variable {K : xK} {B : Nat} {l : Launch} {F F' : Nat} {own : String} {ini : Bool} {cc : ByteArray} {nL : Nat} {ret : Option FieldType} {mc ms rc rs rc' rs' mc' ms' : Nat} {Q Q' : Option Value → xH → Prop} {pc index : Nat} {ls : List (Option Value)} {st rest av : List Value} {h h1 : xH} {M : xM} {a : Nat}
theorem xr_after {p : Program} {e : Env} {s : State} {m : MethodId} {args : Array Value} {below : List Frame} {meth : Method} {c : Code} {H : Heap} {locs : List Loc} {cells slots : Nat} {L : Array Slot} {aa : Array Value} (C : xC K own ini cc nL ret p s m meth c) (I : xI K B mc ms rc rs nL s H locs cells slots ls L h) (hrc : mc' + rc' = rc) (hrs : ms' + rs' = rs)
    (hr : va_Run p l e (xRoom F mc ms) s m args below meth c H locs cells slots mc' ms' (F0 m pc L st) rest (xQc K B Q' aa) (fun q => B ≤ q))
    (kk : ∀ (r : Option Value) (g : xH), Q' r g → xT K B l F own ini cc nL ret mc ms rc' rs' Q (pc + 3) ls (r.toList ++ rest) g) : W p l e (xRoom F mc ms) s m args below meth c H locs cells slots (MQ below (xQc K B Q) args s mc ms (fun q => B ≤ q)) (F0 m pc L st) := by
  intro T hT X
  obtain ⟨v, st₀, t, T', L', h0, X', hL, e1, e2, ⟨r, g, hv, hq, hR, hz, hk⟩, stp⟩ := hr T hT X
  cases hv
  rw [h0] at hz hk
  obtain ⟨i1, i2, i3, i4, i5, i6⟩ := I
  obtain ⟨t2, a1, b1⟩ := kk v g hq p e s m args below meth c T'.heap (locs ++ L') (cells + mc') (slots + ms') L C ⟨by rw [e1]; exact hR, ⟨by rw [e1]; omega, fun q hq' => by rw [e1, hk q hq']; exact i2.2 q hq'⟩, fun q hq' => (List.mem_append.mp hq').elim (i3 q) (hL q), i4, by omega, by omega⟩ T' rfl X'
  exact ⟨t2, stp t2 a1, b1⟩
theorem xr_callV (hS : xV K B l F' M mc' ms' a av h Q') (lk : xLk own index M.1) (hF : F' + 1 ≤ F) (hst : st = av.reverse ++ .ref a :: rest) (hrm : (rest.map fun v => v.category).sum ≤ 8) (hrc : mc' + rc' = rc) (hrs : ms' + rs' = rs) (d : decode cc pc = .ok (.invokevirtual index, 3))
    (kk : ∀ (r : Option Value) (g : xH), Q' r g → xT K B l F own ini cc nL ret mc ms rc' rs' Q (pc + 3) ls (r.toList ++ rest) g) : xT K B l F own ini cc nL ret mc ms rc rs Q pc ls st h := by
  intro p e s m args below meth c H locs cells slots L C I
  obtain ⟨⟨ci, fs, T, N, hv, hci⟩, ⟨⟨m1, m2, m3, m4, m5⟩, m6, m7⟩, hM⟩ := hS
  have hA := C.A
  have hb := I.2.2.2.2
  have hcode : (Cond.code M.1 M.2.1 M.2.2.1 M.2.2.2).before args s = true := hA.use m1
  have hpre : PreV s H M.1.cls a (xP K B (.ref a :: av) h) av := by
    refine ⟨xP.blind, ?_, fun U hU hW => ⟨rfl, hA.warm hW, va_K.moved hW.alike C.K, by rw [hU]; exact I.1⟩⟩
    exact va_recv C.K (I.1.one hv) (ci := ci) (q0 := 0) hci rfl
  have hlen : ∀ sig, parseMethodDescriptor M.1.desc = some sig → av.length = sig.parameters.length := fun sig hsig => by
    rw [hsig] at m4
    exact (Option.some.inj m4).symm
  have hws : ∀ w ∈ [Cond.code M.1 M.2.1 M.2.2.1 M.2.2.2], ∀ (a' : Array Value) (U : State), s.WarmedH U.vm → w.before a' U = true := fun w hw a' U hW => by
    rw [List.mem_singleton.mp hw]
    exact xw_at (xok_of m1) hW (hA _ m1)
  have hlo : 8 + (M.2.2.1 + 11) + (xRoom F' mc' ms').locals ≤ (xRoom F mc ms).locals := by
    show 8 + (M.2.2.1 + 11) + 64 * F' ≤ 64 * F
    omega
  refine xr_after (aa := (Value.ref a :: av).toArray) C I hrc hrs ?_ kk
  rcases lk with lk | ⟨host, lk⟩
  · exact va_runV (Ts := xW) ⟨C.1, C.2.1, C.2.2.1, C.own, fun w hw => hA.use hw⟩ hM ⟨⟨rfl, rfl, hF, hlo, hws, List.mem_cons_self, hcode, hA.use m2, m3, hlen, hA.use lk⟩, hA.use m6, hA.use m7⟩ hpre rfl rfl I.2.2.2.1.1 hst (lv_room hrm) d ⟨by show cells + mc' ≤ mc; omega, by show slots + ms' ≤ ms; omega⟩
  · exact va_runVN (Ts := xW) ⟨C.1, C.2.1, C.2.2.1, C.own, fun w hw => hA.use hw⟩ hM ⟨⟨⟨rfl, rfl, hF, hlo, hws, List.mem_cons_self⟩, hcode, hA.use m2, m3, hlen, hA.use lk⟩, hA.use m6, hA.use m7⟩ hpre rfl rfl I.2.2.2.1.1 hst (lv_room hrm) d ⟨by show cells + mc' ≤ mc; omega, by show slots + ms' ≤ ms; omega⟩
theorem xr_callS (hS : xU K B l F' M mc' ms' av h Q') (lk : xLk own index M.1) (hF : F' + 1 ≤ F) (hst : st = av.reverse ++ rest) (hrm : (rest.map fun v => v.category).sum ≤ 8) (hrc : mc' + rc' = rc) (hrs : ms' + rs' = rs) (d : decode cc pc = .ok (.invokestatic index, 3))
    (kk : ∀ (r : Option Value) (g : xH), Q' r g → xT K B l F own ini cc nL ret mc ms rc' rs' Q (pc + 3) ls (r.toList ++ rest) g) : xT K B l F own ini cc nL ret mc ms rc rs Q pc ls st h := by
  intro p e s m args below meth c H locs cells slots L C I
  obtain ⟨⟨⟨m1, m2, m3, m4, m5⟩, m6⟩, hM⟩ := hS
  have hA := C.A
  have hb := I.2.2.2.2
  have hcode : (Cond.code M.1 M.2.1 M.2.2.1 M.2.2.2).before args s = true := hA.use m1
  have hpre : PreS s H (xP K B av h) av := ⟨xP.blind, fun U hU hW => ⟨rfl, hA.warm hW, va_K.moved hW.alike C.K, by rw [hU]; exact I.1⟩⟩
  have hlen : ∀ sig, parseMethodDescriptor M.1.desc = some sig → av.length = sig.parameters.length := fun sig hsig => by
    rw [hsig] at m4
    exact (Option.some.inj m4).symm
  have hws : ∀ w ∈ [Cond.code M.1 M.2.1 M.2.2.1 M.2.2.2], ∀ (a' : Array Value) (U : State), s.WarmedH U.vm → w.before a' U = true := fun w hw a' U hW => by
    rw [List.mem_singleton.mp hw]
    exact xw_at (xok_of m1) hW (hA _ m1)
  have hlo : 8 + (M.2.2.1 + 11) + (xRoom F' mc' ms').locals ≤ (xRoom F mc ms).locals := by
    show 8 + (M.2.2.1 + 11) + 64 * F' ≤ 64 * F
    omega
  refine xr_after (aa := av.toArray) C I hrc hrs ?_ kk
  rcases lk with lk | ⟨host, lk⟩
  · exact va_runS (Ts := xW) ⟨C.1, C.2.1, C.2.2.1, C.own, fun w hw => hA.use hw⟩ hM ⟨⟨rfl, rfl, hF, hlo, hws, List.mem_cons_self, hcode, hA.use m2, m3, hlen, hA.use lk⟩, hA.use m6⟩ hpre rfl rfl I.2.2.2.1.1 hst (lv_room hrm) d ⟨by show cells + mc' ≤ mc; omega, by show slots + ms' ≤ ms; omega⟩
  · exact va_runSN (Ts := xW) ⟨C.1, C.2.1, C.2.2.1, C.own, fun w hw => hA.use hw⟩ hM ⟨⟨⟨rfl, rfl, hF, hlo, hws, List.mem_cons_self⟩, hcode, hA.use m2, m3, hlen, hA.use lk⟩, hA.use m6, trivial⟩ hpre rfl rfl I.2.2.2.1.1 hst (lv_room hrm) d ⟨by show cells + mc' ≤ mc; omega, by show slots + ms' ≤ ms; omega⟩
theorem xr_callI (hS : xN K B l F' M mc' ms' a av h Q') (lk : xLk own index M.1) (hF : F' + 1 ≤ F) (hst : st = av.reverse ++ .ref a :: rest) (hrm : (rest.map fun v => v.category).sum ≤ 8) (hrc : mc' + rc' = rc) (hrs : ms' + rs' = rs) (d : decode cc pc = .ok (.invokespecial index, 3))
    (kk : ∀ (r : Option Value) (g : xH), Q' r g → xT K B l F own ini cc nL ret mc ms rc' rs' Q (pc + 3) ls (r.toList ++ rest) g) : xT K B l F own ini cc nL ret mc ms rc rs Q pc ls st h := by
  intro p e s m args below meth c H locs cells slots L C I
  obtain ⟨⟨⟨m1, m2, m3, m4, m5⟩, m6, m7, m8⟩, hM⟩ := hS
  obtain ⟨y, bytes, maxL, rt⟩ := M
  dsimp only at m8
  subst m8
  have hA := C.A
  have hb := I.2.2.2.2
  have hcode : (Cond.code y bytes maxL none).before args s = true := hA.use m1
  have hpre : PreS s H (xP K B (.ref a :: av) h) (.ref a :: av) := ⟨xP.blind, fun U hU hW => ⟨rfl, hA.warm hW, va_K.moved hW.alike C.K, by rw [hU]; exact I.1⟩⟩
  have hlen : ∀ sig, parseMethodDescriptor y.desc = some sig → av.length = sig.parameters.length := fun sig hsig => by
    dsimp only at m4
    rw [hsig] at m4
    exact (Option.some.inj m4).symm
  have hws : ∀ w ∈ [Cond.code y bytes maxL none], ∀ (a' : Array Value) (U : State), s.WarmedH U.vm → w.before a' U = true := fun w hw a' U hW => by
    rw [List.mem_singleton.mp hw]
    exact xw_at (xok_of m1) hW (hA _ m1)
  have hlo : 8 + (maxL + 11) + (xRoom F' mc' ms').locals ≤ (xRoom F mc ms).locals := by
    show 8 + (maxL + 11) + 64 * F' ≤ 64 * F
    dsimp only at m5
    omega
  refine xr_after (aa := (Value.ref a :: av).toArray) C I hrc hrs ?_ kk
  rcases lk with lk | ⟨host, lk⟩
  · exact va_runI (Ts := xW) ⟨C.1, C.2.1, C.2.2.1, C.own, fun w hw => hA.use hw⟩ hM ⟨⟨rfl, rfl, hF, hlo, hws, List.mem_cons_self, hcode, hA.use m2, m3, hlen, hA.use lk⟩, m7, hA.use m6⟩ hpre rfl rfl I.2.2.2.1.1 hst (lv_room hrm) d ⟨by show cells + mc' ≤ mc; omega, by show slots + ms' ≤ ms; omega⟩
  · exact va_runIN (Ts := xW) ⟨C.1, C.2.1, C.2.2.1, C.own, fun w hw => hA.use hw⟩ hM ⟨⟨⟨rfl, rfl, hF, hlo, hws, List.mem_cons_self⟩, hcode, hA.use m2, m3, hlen, hA.use lk⟩, m7, hA.use m6⟩ hpre rfl rfl I.2.2.2.1.1 hst (lv_room hrm) d ⟨by show cells + mc' ≤ mc; omega, by show slots + ms' ≤ ms; omega⟩
theorem xr_Vi0 {r : Int32} (hS : xV K B l F' M mc' ms' a [] h (xQi r h1)) (lk : xLk own index M.1) (hF : F' + 1 ≤ F) (hrm : (st.map fun v => v.category).sum ≤ 8) (hrc : mc' + rc' = rc) (hrs : ms' + rs' = rs) (d : decode cc pc = .ok (.invokevirtual index, 3)) (k : xT K B l F own ini cc nL ret mc ms rc' rs' Q (pc + 3) ls (.int r :: st) h1) : xT K B l F own ini cc nL ret mc ms rc rs Q pc ls (.ref a :: st) h :=
  xr_callV hS lk hF rfl hrm hrc hrs d (fun r g q => by obtain ⟨rfl, rfl⟩ := q; exact k)
theorem xr_Vl0 {r : Int64} (hS : xV K B l F' M mc' ms' a [] h (xQl r h1)) (lk : xLk own index M.1) (hF : F' + 1 ≤ F) (hrm : (st.map fun v => v.category).sum ≤ 8) (hrc : mc' + rc' = rc) (hrs : ms' + rs' = rs) (d : decode cc pc = .ok (.invokevirtual index, 3)) (k : xT K B l F own ini cc nL ret mc ms rc' rs' Q (pc + 3) ls (.long r :: st) h1) : xT K B l F own ini cc nL ret mc ms rc rs Q pc ls (.ref a :: st) h :=
  xr_callV hS lk hF rfl hrm hrc hrs d (fun r g q => by obtain ⟨rfl, rfl⟩ := q; exact k)
theorem xr_Vv0 (hS : xV K B l F' M mc' ms' a [] h (xQv h1)) (lk : xLk own index M.1) (hF : F' + 1 ≤ F) (hrm : (st.map fun v => v.category).sum ≤ 8) (hrc : mc' + rc' = rc) (hrs : ms' + rs' = rs) (d : decode cc pc = .ok (.invokevirtual index, 3)) (k : xT K B l F own ini cc nL ret mc ms rc' rs' Q (pc + 3) ls (st) h1) : xT K B l F own ini cc nL ret mc ms rc rs Q pc ls (.ref a :: st) h :=
  xr_callV hS lk hF rfl hrm hrc hrs d (fun r g q => by obtain ⟨rfl, rfl⟩ := q; exact k)
theorem xr_Vq0 (hS : xV K B l F' M mc' ms' a [] h Q') (lk : xLk own index M.1) (hF : F' + 1 ≤ F) (hrm : (st.map fun v => v.category).sum ≤ 8) (hrc : mc' + rc' = rc) (hrs : ms' + rs' = rs) (d : decode cc pc = .ok (.invokevirtual index, 3)) (k : ∀ (r : Option Value) (g : xH), Q' r g → xT K B l F own ini cc nL ret mc ms rc' rs' Q (pc + 3) ls (r.toList ++ st) g) : xT K B l F own ini cc nL ret mc ms rc rs Q pc ls (.ref a :: st) h :=
  xr_callV hS lk hF rfl hrm hrc hrs d k
theorem xr_Vi1 {v1 : Value} {r : Int32} (hS : xV K B l F' M mc' ms' a [v1] h (xQi r h1)) (lk : xLk own index M.1) (hF : F' + 1 ≤ F) (hrm : (st.map fun v => v.category).sum ≤ 8) (hrc : mc' + rc' = rc) (hrs : ms' + rs' = rs) (d : decode cc pc = .ok (.invokevirtual index, 3)) (k : xT K B l F own ini cc nL ret mc ms rc' rs' Q (pc + 3) ls (.int r :: st) h1) : xT K B l F own ini cc nL ret mc ms rc rs Q pc ls (v1 :: .ref a :: st) h :=
  xr_callV hS lk hF rfl hrm hrc hrs d (fun r g q => by obtain ⟨rfl, rfl⟩ := q; exact k)
theorem xr_Vl1 {v1 : Value} {r : Int64} (hS : xV K B l F' M mc' ms' a [v1] h (xQl r h1)) (lk : xLk own index M.1) (hF : F' + 1 ≤ F) (hrm : (st.map fun v => v.category).sum ≤ 8) (hrc : mc' + rc' = rc) (hrs : ms' + rs' = rs) (d : decode cc pc = .ok (.invokevirtual index, 3)) (k : xT K B l F own ini cc nL ret mc ms rc' rs' Q (pc + 3) ls (.long r :: st) h1) : xT K B l F own ini cc nL ret mc ms rc rs Q pc ls (v1 :: .ref a :: st) h :=
  xr_callV hS lk hF rfl hrm hrc hrs d (fun r g q => by obtain ⟨rfl, rfl⟩ := q; exact k)
theorem xr_Vv1 {v1 : Value} (hS : xV K B l F' M mc' ms' a [v1] h (xQv h1)) (lk : xLk own index M.1) (hF : F' + 1 ≤ F) (hrm : (st.map fun v => v.category).sum ≤ 8) (hrc : mc' + rc' = rc) (hrs : ms' + rs' = rs) (d : decode cc pc = .ok (.invokevirtual index, 3)) (k : xT K B l F own ini cc nL ret mc ms rc' rs' Q (pc + 3) ls (st) h1) : xT K B l F own ini cc nL ret mc ms rc rs Q pc ls (v1 :: .ref a :: st) h :=
  xr_callV hS lk hF rfl hrm hrc hrs d (fun r g q => by obtain ⟨rfl, rfl⟩ := q; exact k)
theorem xr_Vq1 {v1 : Value} (hS : xV K B l F' M mc' ms' a [v1] h Q') (lk : xLk own index M.1) (hF : F' + 1 ≤ F) (hrm : (st.map fun v => v.category).sum ≤ 8) (hrc : mc' + rc' = rc) (hrs : ms' + rs' = rs) (d : decode cc pc = .ok (.invokevirtual index, 3)) (k : ∀ (r : Option Value) (g : xH), Q' r g → xT K B l F own ini cc nL ret mc ms rc' rs' Q (pc + 3) ls (r.toList ++ st) g) : xT K B l F own ini cc nL ret mc ms rc rs Q pc ls (v1 :: .ref a :: st) h :=
  xr_callV hS lk hF rfl hrm hrc hrs d k
theorem xr_Vi2 {v1 v2 : Value} {r : Int32} (hS : xV K B l F' M mc' ms' a [v1, v2] h (xQi r h1)) (lk : xLk own index M.1) (hF : F' + 1 ≤ F) (hrm : (st.map fun v => v.category).sum ≤ 8) (hrc : mc' + rc' = rc) (hrs : ms' + rs' = rs) (d : decode cc pc = .ok (.invokevirtual index, 3)) (k : xT K B l F own ini cc nL ret mc ms rc' rs' Q (pc + 3) ls (.int r :: st) h1) : xT K B l F own ini cc nL ret mc ms rc rs Q pc ls (v2 :: v1 :: .ref a :: st) h :=
  xr_callV hS lk hF rfl hrm hrc hrs d (fun r g q => by obtain ⟨rfl, rfl⟩ := q; exact k)
theorem xr_Vl2 {v1 v2 : Value} {r : Int64} (hS : xV K B l F' M mc' ms' a [v1, v2] h (xQl r h1)) (lk : xLk own index M.1) (hF : F' + 1 ≤ F) (hrm : (st.map fun v => v.category).sum ≤ 8) (hrc : mc' + rc' = rc) (hrs : ms' + rs' = rs) (d : decode cc pc = .ok (.invokevirtual index, 3)) (k : xT K B l F own ini cc nL ret mc ms rc' rs' Q (pc + 3) ls (.long r :: st) h1) : xT K B l F own ini cc nL ret mc ms rc rs Q pc ls (v2 :: v1 :: .ref a :: st) h :=
  xr_callV hS lk hF rfl hrm hrc hrs d (fun r g q => by obtain ⟨rfl, rfl⟩ := q; exact k)
theorem xr_Vv2 {v1 v2 : Value} (hS : xV K B l F' M mc' ms' a [v1, v2] h (xQv h1)) (lk : xLk own index M.1) (hF : F' + 1 ≤ F) (hrm : (st.map fun v => v.category).sum ≤ 8) (hrc : mc' + rc' = rc) (hrs : ms' + rs' = rs) (d : decode cc pc = .ok (.invokevirtual index, 3)) (k : xT K B l F own ini cc nL ret mc ms rc' rs' Q (pc + 3) ls (st) h1) : xT K B l F own ini cc nL ret mc ms rc rs Q pc ls (v2 :: v1 :: .ref a :: st) h :=
  xr_callV hS lk hF rfl hrm hrc hrs d (fun r g q => by obtain ⟨rfl, rfl⟩ := q; exact k)
theorem xr_Vq2 {v1 v2 : Value} (hS : xV K B l F' M mc' ms' a [v1, v2] h Q') (lk : xLk own index M.1) (hF : F' + 1 ≤ F) (hrm : (st.map fun v => v.category).sum ≤ 8) (hrc : mc' + rc' = rc) (hrs : ms' + rs' = rs) (d : decode cc pc = .ok (.invokevirtual index, 3)) (k : ∀ (r : Option Value) (g : xH), Q' r g → xT K B l F own ini cc nL ret mc ms rc' rs' Q (pc + 3) ls (r.toList ++ st) g) : xT K B l F own ini cc nL ret mc ms rc rs Q pc ls (v2 :: v1 :: .ref a :: st) h :=
  xr_callV hS lk hF rfl hrm hrc hrs d k
theorem xr_Vi3 {v1 v2 v3 : Value} {r : Int32} (hS : xV K B l F' M mc' ms' a [v1, v2, v3] h (xQi r h1)) (lk : xLk own index M.1) (hF : F' + 1 ≤ F) (hrm : (st.map fun v => v.category).sum ≤ 8) (hrc : mc' + rc' = rc) (hrs : ms' + rs' = rs) (d : decode cc pc = .ok (.invokevirtual index, 3)) (k : xT K B l F own ini cc nL ret mc ms rc' rs' Q (pc + 3) ls (.int r :: st) h1) : xT K B l F own ini cc nL ret mc ms rc rs Q pc ls (v3 :: v2 :: v1 :: .ref a :: st) h :=
  xr_callV hS lk hF rfl hrm hrc hrs d (fun r g q => by obtain ⟨rfl, rfl⟩ := q; exact k)
theorem xr_Vl3 {v1 v2 v3 : Value} {r : Int64} (hS : xV K B l F' M mc' ms' a [v1, v2, v3] h (xQl r h1)) (lk : xLk own index M.1) (hF : F' + 1 ≤ F) (hrm : (st.map fun v => v.category).sum ≤ 8) (hrc : mc' + rc' = rc) (hrs : ms' + rs' = rs) (d : decode cc pc = .ok (.invokevirtual index, 3)) (k : xT K B l F own ini cc nL ret mc ms rc' rs' Q (pc + 3) ls (.long r :: st) h1) : xT K B l F own ini cc nL ret mc ms rc rs Q pc ls (v3 :: v2 :: v1 :: .ref a :: st) h :=
  xr_callV hS lk hF rfl hrm hrc hrs d (fun r g q => by obtain ⟨rfl, rfl⟩ := q; exact k)
theorem xr_Vv3 {v1 v2 v3 : Value} (hS : xV K B l F' M mc' ms' a [v1, v2, v3] h (xQv h1)) (lk : xLk own index M.1) (hF : F' + 1 ≤ F) (hrm : (st.map fun v => v.category).sum ≤ 8) (hrc : mc' + rc' = rc) (hrs : ms' + rs' = rs) (d : decode cc pc = .ok (.invokevirtual index, 3)) (k : xT K B l F own ini cc nL ret mc ms rc' rs' Q (pc + 3) ls (st) h1) : xT K B l F own ini cc nL ret mc ms rc rs Q pc ls (v3 :: v2 :: v1 :: .ref a :: st) h :=
  xr_callV hS lk hF rfl hrm hrc hrs d (fun r g q => by obtain ⟨rfl, rfl⟩ := q; exact k)
theorem xr_Vq3 {v1 v2 v3 : Value} (hS : xV K B l F' M mc' ms' a [v1, v2, v3] h Q') (lk : xLk own index M.1) (hF : F' + 1 ≤ F) (hrm : (st.map fun v => v.category).sum ≤ 8) (hrc : mc' + rc' = rc) (hrs : ms' + rs' = rs) (d : decode cc pc = .ok (.invokevirtual index, 3)) (k : ∀ (r : Option Value) (g : xH), Q' r g → xT K B l F own ini cc nL ret mc ms rc' rs' Q (pc + 3) ls (r.toList ++ st) g) : xT K B l F own ini cc nL ret mc ms rc rs Q pc ls (v3 :: v2 :: v1 :: .ref a :: st) h :=
  xr_callV hS lk hF rfl hrm hrc hrs d k
theorem xr_Vi4 {v1 v2 v3 v4 : Value} {r : Int32} (hS : xV K B l F' M mc' ms' a [v1, v2, v3, v4] h (xQi r h1)) (lk : xLk own index M.1) (hF : F' + 1 ≤ F) (hrm : (st.map fun v => v.category).sum ≤ 8) (hrc : mc' + rc' = rc) (hrs : ms' + rs' = rs) (d : decode cc pc = .ok (.invokevirtual index, 3)) (k : xT K B l F own ini cc nL ret mc ms rc' rs' Q (pc + 3) ls (.int r :: st) h1) : xT K B l F own ini cc nL ret mc ms rc rs Q pc ls (v4 :: v3 :: v2 :: v1 :: .ref a :: st) h :=
  xr_callV hS lk hF rfl hrm hrc hrs d (fun r g q => by obtain ⟨rfl, rfl⟩ := q; exact k)
theorem xr_Vl4 {v1 v2 v3 v4 : Value} {r : Int64} (hS : xV K B l F' M mc' ms' a [v1, v2, v3, v4] h (xQl r h1)) (lk : xLk own index M.1) (hF : F' + 1 ≤ F) (hrm : (st.map fun v => v.category).sum ≤ 8) (hrc : mc' + rc' = rc) (hrs : ms' + rs' = rs) (d : decode cc pc = .ok (.invokevirtual index, 3)) (k : xT K B l F own ini cc nL ret mc ms rc' rs' Q (pc + 3) ls (.long r :: st) h1) : xT K B l F own ini cc nL ret mc ms rc rs Q pc ls (v4 :: v3 :: v2 :: v1 :: .ref a :: st) h :=
  xr_callV hS lk hF rfl hrm hrc hrs d (fun r g q => by obtain ⟨rfl, rfl⟩ := q; exact k)
theorem xr_Vv4 {v1 v2 v3 v4 : Value} (hS : xV K B l F' M mc' ms' a [v1, v2, v3, v4] h (xQv h1)) (lk : xLk own index M.1) (hF : F' + 1 ≤ F) (hrm : (st.map fun v => v.category).sum ≤ 8) (hrc : mc' + rc' = rc) (hrs : ms' + rs' = rs) (d : decode cc pc = .ok (.invokevirtual index, 3)) (k : xT K B l F own ini cc nL ret mc ms rc' rs' Q (pc + 3) ls (st) h1) : xT K B l F own ini cc nL ret mc ms rc rs Q pc ls (v4 :: v3 :: v2 :: v1 :: .ref a :: st) h :=
  xr_callV hS lk hF rfl hrm hrc hrs d (fun r g q => by obtain ⟨rfl, rfl⟩ := q; exact k)
theorem xr_Vq4 {v1 v2 v3 v4 : Value} (hS : xV K B l F' M mc' ms' a [v1, v2, v3, v4] h Q') (lk : xLk own index M.1) (hF : F' + 1 ≤ F) (hrm : (st.map fun v => v.category).sum ≤ 8) (hrc : mc' + rc' = rc) (hrs : ms' + rs' = rs) (d : decode cc pc = .ok (.invokevirtual index, 3)) (k : ∀ (r : Option Value) (g : xH), Q' r g → xT K B l F own ini cc nL ret mc ms rc' rs' Q (pc + 3) ls (r.toList ++ st) g) : xT K B l F own ini cc nL ret mc ms rc rs Q pc ls (v4 :: v3 :: v2 :: v1 :: .ref a :: st) h :=
  xr_callV hS lk hF rfl hrm hrc hrs d k
theorem xr_Vi5 {v1 v2 v3 v4 v5 : Value} {r : Int32} (hS : xV K B l F' M mc' ms' a [v1, v2, v3, v4, v5] h (xQi r h1)) (lk : xLk own index M.1) (hF : F' + 1 ≤ F) (hrm : (st.map fun v => v.category).sum ≤ 8) (hrc : mc' + rc' = rc) (hrs : ms' + rs' = rs) (d : decode cc pc = .ok (.invokevirtual index, 3)) (k : xT K B l F own ini cc nL ret mc ms rc' rs' Q (pc + 3) ls (.int r :: st) h1) : xT K B l F own ini cc nL ret mc ms rc rs Q pc ls (v5 :: v4 :: v3 :: v2 :: v1 :: .ref a :: st) h :=
  xr_callV hS lk hF rfl hrm hrc hrs d (fun r g q => by obtain ⟨rfl, rfl⟩ := q; exact k)
theorem xr_Vl5 {v1 v2 v3 v4 v5 : Value} {r : Int64} (hS : xV K B l F' M mc' ms' a [v1, v2, v3, v4, v5] h (xQl r h1)) (lk : xLk own index M.1) (hF : F' + 1 ≤ F) (hrm : (st.map fun v => v.category).sum ≤ 8) (hrc : mc' + rc' = rc) (hrs : ms' + rs' = rs) (d : decode cc pc = .ok (.invokevirtual index, 3)) (k : xT K B l F own ini cc nL ret mc ms rc' rs' Q (pc + 3) ls (.long r :: st) h1) : xT K B l F own ini cc nL ret mc ms rc rs Q pc ls (v5 :: v4 :: v3 :: v2 :: v1 :: .ref a :: st) h :=
  xr_callV hS lk hF rfl hrm hrc hrs d (fun r g q => by obtain ⟨rfl, rfl⟩ := q; exact k)
theorem xr_Vv5 {v1 v2 v3 v4 v5 : Value} (hS : xV K B l F' M mc' ms' a [v1, v2, v3, v4, v5] h (xQv h1)) (lk : xLk own index M.1) (hF : F' + 1 ≤ F) (hrm : (st.map fun v => v.category).sum ≤ 8) (hrc : mc' + rc' = rc) (hrs : ms' + rs' = rs) (d : decode cc pc = .ok (.invokevirtual index, 3)) (k : xT K B l F own ini cc nL ret mc ms rc' rs' Q (pc + 3) ls (st) h1) : xT K B l F own ini cc nL ret mc ms rc rs Q pc ls (v5 :: v4 :: v3 :: v2 :: v1 :: .ref a :: st) h :=
  xr_callV hS lk hF rfl hrm hrc hrs d (fun r g q => by obtain ⟨rfl, rfl⟩ := q; exact k)
theorem xr_Vq5 {v1 v2 v3 v4 v5 : Value} (hS : xV K B l F' M mc' ms' a [v1, v2, v3, v4, v5] h Q') (lk : xLk own index M.1) (hF : F' + 1 ≤ F) (hrm : (st.map fun v => v.category).sum ≤ 8) (hrc : mc' + rc' = rc) (hrs : ms' + rs' = rs) (d : decode cc pc = .ok (.invokevirtual index, 3)) (k : ∀ (r : Option Value) (g : xH), Q' r g → xT K B l F own ini cc nL ret mc ms rc' rs' Q (pc + 3) ls (r.toList ++ st) g) : xT K B l F own ini cc nL ret mc ms rc rs Q pc ls (v5 :: v4 :: v3 :: v2 :: v1 :: .ref a :: st) h :=
  xr_callV hS lk hF rfl hrm hrc hrs d k
theorem xr_Si0 {r : Int32} (hS : xU K B l F' M mc' ms' [] h (xQi r h1)) (lk : xLk own index M.1) (hF : F' + 1 ≤ F) (hrm : (st.map fun v => v.category).sum ≤ 8) (hrc : mc' + rc' = rc) (hrs : ms' + rs' = rs) (d : decode cc pc = .ok (.invokestatic index, 3)) (k : xT K B l F own ini cc nL ret mc ms rc' rs' Q (pc + 3) ls (.int r :: st) h1) : xT K B l F own ini cc nL ret mc ms rc rs Q pc ls (st) h :=
  xr_callS hS lk hF rfl hrm hrc hrs d (fun r g q => by obtain ⟨rfl, rfl⟩ := q; exact k)
theorem xr_Sl0 {r : Int64} (hS : xU K B l F' M mc' ms' [] h (xQl r h1)) (lk : xLk own index M.1) (hF : F' + 1 ≤ F) (hrm : (st.map fun v => v.category).sum ≤ 8) (hrc : mc' + rc' = rc) (hrs : ms' + rs' = rs) (d : decode cc pc = .ok (.invokestatic index, 3)) (k : xT K B l F own ini cc nL ret mc ms rc' rs' Q (pc + 3) ls (.long r :: st) h1) : xT K B l F own ini cc nL ret mc ms rc rs Q pc ls (st) h :=
  xr_callS hS lk hF rfl hrm hrc hrs d (fun r g q => by obtain ⟨rfl, rfl⟩ := q; exact k)
theorem xr_Sv0 (hS : xU K B l F' M mc' ms' [] h (xQv h1)) (lk : xLk own index M.1) (hF : F' + 1 ≤ F) (hrm : (st.map fun v => v.category).sum ≤ 8) (hrc : mc' + rc' = rc) (hrs : ms' + rs' = rs) (d : decode cc pc = .ok (.invokestatic index, 3)) (k : xT K B l F own ini cc nL ret mc ms rc' rs' Q (pc + 3) ls (st) h1) : xT K B l F own ini cc nL ret mc ms rc rs Q pc ls (st) h :=
  xr_callS hS lk hF rfl hrm hrc hrs d (fun r g q => by obtain ⟨rfl, rfl⟩ := q; exact k)
theorem xr_Sq0 (hS : xU K B l F' M mc' ms' [] h Q') (lk : xLk own index M.1) (hF : F' + 1 ≤ F) (hrm : (st.map fun v => v.category).sum ≤ 8) (hrc : mc' + rc' = rc) (hrs : ms' + rs' = rs) (d : decode cc pc = .ok (.invokestatic index, 3)) (k : ∀ (r : Option Value) (g : xH), Q' r g → xT K B l F own ini cc nL ret mc ms rc' rs' Q (pc + 3) ls (r.toList ++ st) g) : xT K B l F own ini cc nL ret mc ms rc rs Q pc ls (st) h :=
  xr_callS hS lk hF rfl hrm hrc hrs d k
theorem xr_Si1 {v1 : Value} {r : Int32} (hS : xU K B l F' M mc' ms' [v1] h (xQi r h1)) (lk : xLk own index M.1) (hF : F' + 1 ≤ F) (hrm : (st.map fun v => v.category).sum ≤ 8) (hrc : mc' + rc' = rc) (hrs : ms' + rs' = rs) (d : decode cc pc = .ok (.invokestatic index, 3)) (k : xT K B l F own ini cc nL ret mc ms rc' rs' Q (pc + 3) ls (.int r :: st) h1) : xT K B l F own ini cc nL ret mc ms rc rs Q pc ls (v1 :: st) h :=
  xr_callS hS lk hF rfl hrm hrc hrs d (fun r g q => by obtain ⟨rfl, rfl⟩ := q; exact k)
theorem xr_Sl1 {v1 : Value} {r : Int64} (hS : xU K B l F' M mc' ms' [v1] h (xQl r h1)) (lk : xLk own index M.1) (hF : F' + 1 ≤ F) (hrm : (st.map fun v => v.category).sum ≤ 8) (hrc : mc' + rc' = rc) (hrs : ms' + rs' = rs) (d : decode cc pc = .ok (.invokestatic index, 3)) (k : xT K B l F own ini cc nL ret mc ms rc' rs' Q (pc + 3) ls (.long r :: st) h1) : xT K B l F own ini cc nL ret mc ms rc rs Q pc ls (v1 :: st) h :=
  xr_callS hS lk hF rfl hrm hrc hrs d (fun r g q => by obtain ⟨rfl, rfl⟩ := q; exact k)
theorem xr_Sv1 {v1 : Value} (hS : xU K B l F' M mc' ms' [v1] h (xQv h1)) (lk : xLk own index M.1) (hF : F' + 1 ≤ F) (hrm : (st.map fun v => v.category).sum ≤ 8) (hrc : mc' + rc' = rc) (hrs : ms' + rs' = rs) (d : decode cc pc = .ok (.invokestatic index, 3)) (k : xT K B l F own ini cc nL ret mc ms rc' rs' Q (pc + 3) ls (st) h1) : xT K B l F own ini cc nL ret mc ms rc rs Q pc ls (v1 :: st) h :=
  xr_callS hS lk hF rfl hrm hrc hrs d (fun r g q => by obtain ⟨rfl, rfl⟩ := q; exact k)
theorem xr_Sq1 {v1 : Value} (hS : xU K B l F' M mc' ms' [v1] h Q') (lk : xLk own index M.1) (hF : F' + 1 ≤ F) (hrm : (st.map fun v => v.category).sum ≤ 8) (hrc : mc' + rc' = rc) (hrs : ms' + rs' = rs) (d : decode cc pc = .ok (.invokestatic index, 3)) (k : ∀ (r : Option Value) (g : xH), Q' r g → xT K B l F own ini cc nL ret mc ms rc' rs' Q (pc + 3) ls (r.toList ++ st) g) : xT K B l F own ini cc nL ret mc ms rc rs Q pc ls (v1 :: st) h :=
  xr_callS hS lk hF rfl hrm hrc hrs d k
theorem xr_Si2 {v1 v2 : Value} {r : Int32} (hS : xU K B l F' M mc' ms' [v1, v2] h (xQi r h1)) (lk : xLk own index M.1) (hF : F' + 1 ≤ F) (hrm : (st.map fun v => v.category).sum ≤ 8) (hrc : mc' + rc' = rc) (hrs : ms' + rs' = rs) (d : decode cc pc = .ok (.invokestatic index, 3)) (k : xT K B l F own ini cc nL ret mc ms rc' rs' Q (pc + 3) ls (.int r :: st) h1) : xT K B l F own ini cc nL ret mc ms rc rs Q pc ls (v2 :: v1 :: st) h :=
  xr_callS hS lk hF rfl hrm hrc hrs d (fun r g q => by obtain ⟨rfl, rfl⟩ := q; exact k)
theorem xr_Sl2 {v1 v2 : Value} {r : Int64} (hS : xU K B l F' M mc' ms' [v1, v2] h (xQl r h1)) (lk : xLk own index M.1) (hF : F' + 1 ≤ F) (hrm : (st.map fun v => v.category).sum ≤ 8) (hrc : mc' + rc' = rc) (hrs : ms' + rs' = rs) (d : decode cc pc = .ok (.invokestatic index, 3)) (k : xT K B l F own ini cc nL ret mc ms rc' rs' Q (pc + 3) ls (.long r :: st) h1) : xT K B l F own ini cc nL ret mc ms rc rs Q pc ls (v2 :: v1 :: st) h :=
  xr_callS hS lk hF rfl hrm hrc hrs d (fun r g q => by obtain ⟨rfl, rfl⟩ := q; exact k)
theorem xr_Sv2 {v1 v2 : Value} (hS : xU K B l F' M mc' ms' [v1, v2] h (xQv h1)) (lk : xLk own index M.1) (hF : F' + 1 ≤ F) (hrm : (st.map fun v => v.category).sum ≤ 8) (hrc : mc' + rc' = rc) (hrs : ms' + rs' = rs) (d : decode cc pc = .ok (.invokestatic index, 3)) (k : xT K B l F own ini cc nL ret mc ms rc' rs' Q (pc + 3) ls (st) h1) : xT K B l F own ini cc nL ret mc ms rc rs Q pc ls (v2 :: v1 :: st) h :=
  xr_callS hS lk hF rfl hrm hrc hrs d (fun r g q => by obtain ⟨rfl, rfl⟩ := q; exact k)
theorem xr_Sq2 {v1 v2 : Value} (hS : xU K B l F' M mc' ms' [v1, v2] h Q') (lk : xLk own index M.1) (hF : F' + 1 ≤ F) (hrm : (st.map fun v => v.category).sum ≤ 8) (hrc : mc' + rc' = rc) (hrs : ms' + rs' = rs) (d : decode cc pc = .ok (.invokestatic index, 3)) (k : ∀ (r : Option Value) (g : xH), Q' r g → xT K B l F own ini cc nL ret mc ms rc' rs' Q (pc + 3) ls (r.toList ++ st) g) : xT K B l F own ini cc nL ret mc ms rc rs Q pc ls (v2 :: v1 :: st) h :=
  xr_callS hS lk hF rfl hrm hrc hrs d k
theorem xr_Si3 {v1 v2 v3 : Value} {r : Int32} (hS : xU K B l F' M mc' ms' [v1, v2, v3] h (xQi r h1)) (lk : xLk own index M.1) (hF : F' + 1 ≤ F) (hrm : (st.map fun v => v.category).sum ≤ 8) (hrc : mc' + rc' = rc) (hrs : ms' + rs' = rs) (d : decode cc pc = .ok (.invokestatic index, 3)) (k : xT K B l F own ini cc nL ret mc ms rc' rs' Q (pc + 3) ls (.int r :: st) h1) : xT K B l F own ini cc nL ret mc ms rc rs Q pc ls (v3 :: v2 :: v1 :: st) h :=
  xr_callS hS lk hF rfl hrm hrc hrs d (fun r g q => by obtain ⟨rfl, rfl⟩ := q; exact k)
theorem xr_Sl3 {v1 v2 v3 : Value} {r : Int64} (hS : xU K B l F' M mc' ms' [v1, v2, v3] h (xQl r h1)) (lk : xLk own index M.1) (hF : F' + 1 ≤ F) (hrm : (st.map fun v => v.category).sum ≤ 8) (hrc : mc' + rc' = rc) (hrs : ms' + rs' = rs) (d : decode cc pc = .ok (.invokestatic index, 3)) (k : xT K B l F own ini cc nL ret mc ms rc' rs' Q (pc + 3) ls (.long r :: st) h1) : xT K B l F own ini cc nL ret mc ms rc rs Q pc ls (v3 :: v2 :: v1 :: st) h :=
  xr_callS hS lk hF rfl hrm hrc hrs d (fun r g q => by obtain ⟨rfl, rfl⟩ := q; exact k)
theorem xr_Sv3 {v1 v2 v3 : Value} (hS : xU K B l F' M mc' ms' [v1, v2, v3] h (xQv h1)) (lk : xLk own index M.1) (hF : F' + 1 ≤ F) (hrm : (st.map fun v => v.category).sum ≤ 8) (hrc : mc' + rc' = rc) (hrs : ms' + rs' = rs) (d : decode cc pc = .ok (.invokestatic index, 3)) (k : xT K B l F own ini cc nL ret mc ms rc' rs' Q (pc + 3) ls (st) h1) : xT K B l F own ini cc nL ret mc ms rc rs Q pc ls (v3 :: v2 :: v1 :: st) h :=
  xr_callS hS lk hF rfl hrm hrc hrs d (fun r g q => by obtain ⟨rfl, rfl⟩ := q; exact k)
theorem xr_Sq3 {v1 v2 v3 : Value} (hS : xU K B l F' M mc' ms' [v1, v2, v3] h Q') (lk : xLk own index M.1) (hF : F' + 1 ≤ F) (hrm : (st.map fun v => v.category).sum ≤ 8) (hrc : mc' + rc' = rc) (hrs : ms' + rs' = rs) (d : decode cc pc = .ok (.invokestatic index, 3)) (k : ∀ (r : Option Value) (g : xH), Q' r g → xT K B l F own ini cc nL ret mc ms rc' rs' Q (pc + 3) ls (r.toList ++ st) g) : xT K B l F own ini cc nL ret mc ms rc rs Q pc ls (v3 :: v2 :: v1 :: st) h :=
  xr_callS hS lk hF rfl hrm hrc hrs d k
theorem xr_Si4 {v1 v2 v3 v4 : Value} {r : Int32} (hS : xU K B l F' M mc' ms' [v1, v2, v3, v4] h (xQi r h1)) (lk : xLk own index M.1) (hF : F' + 1 ≤ F) (hrm : (st.map fun v => v.category).sum ≤ 8) (hrc : mc' + rc' = rc) (hrs : ms' + rs' = rs) (d : decode cc pc = .ok (.invokestatic index, 3)) (k : xT K B l F own ini cc nL ret mc ms rc' rs' Q (pc + 3) ls (.int r :: st) h1) : xT K B l F own ini cc nL ret mc ms rc rs Q pc ls (v4 :: v3 :: v2 :: v1 :: st) h :=
  xr_callS hS lk hF rfl hrm hrc hrs d (fun r g q => by obtain ⟨rfl, rfl⟩ := q; exact k)
theorem xr_Sl4 {v1 v2 v3 v4 : Value} {r : Int64} (hS : xU K B l F' M mc' ms' [v1, v2, v3, v4] h (xQl r h1)) (lk : xLk own index M.1) (hF : F' + 1 ≤ F) (hrm : (st.map fun v => v.category).sum ≤ 8) (hrc : mc' + rc' = rc) (hrs : ms' + rs' = rs) (d : decode cc pc = .ok (.invokestatic index, 3)) (k : xT K B l F own ini cc nL ret mc ms rc' rs' Q (pc + 3) ls (.long r :: st) h1) : xT K B l F own ini cc nL ret mc ms rc rs Q pc ls (v4 :: v3 :: v2 :: v1 :: st) h :=
  xr_callS hS lk hF rfl hrm hrc hrs d (fun r g q => by obtain ⟨rfl, rfl⟩ := q; exact k)
theorem xr_Sv4 {v1 v2 v3 v4 : Value} (hS : xU K B l F' M mc' ms' [v1, v2, v3, v4] h (xQv h1)) (lk : xLk own index M.1) (hF : F' + 1 ≤ F) (hrm : (st.map fun v => v.category).sum ≤ 8) (hrc : mc' + rc' = rc) (hrs : ms' + rs' = rs) (d : decode cc pc = .ok (.invokestatic index, 3)) (k : xT K B l F own ini cc nL ret mc ms rc' rs' Q (pc + 3) ls (st) h1) : xT K B l F own ini cc nL ret mc ms rc rs Q pc ls (v4 :: v3 :: v2 :: v1 :: st) h :=
  xr_callS hS lk hF rfl hrm hrc hrs d (fun r g q => by obtain ⟨rfl, rfl⟩ := q; exact k)
theorem xr_Sq4 {v1 v2 v3 v4 : Value} (hS : xU K B l F' M mc' ms' [v1, v2, v3, v4] h Q') (lk : xLk own index M.1) (hF : F' + 1 ≤ F) (hrm : (st.map fun v => v.category).sum ≤ 8) (hrc : mc' + rc' = rc) (hrs : ms' + rs' = rs) (d : decode cc pc = .ok (.invokestatic index, 3)) (k : ∀ (r : Option Value) (g : xH), Q' r g → xT K B l F own ini cc nL ret mc ms rc' rs' Q (pc + 3) ls (r.toList ++ st) g) : xT K B l F own ini cc nL ret mc ms rc rs Q pc ls (v4 :: v3 :: v2 :: v1 :: st) h :=
  xr_callS hS lk hF rfl hrm hrc hrs d k
theorem xr_Si5 {v1 v2 v3 v4 v5 : Value} {r : Int32} (hS : xU K B l F' M mc' ms' [v1, v2, v3, v4, v5] h (xQi r h1)) (lk : xLk own index M.1) (hF : F' + 1 ≤ F) (hrm : (st.map fun v => v.category).sum ≤ 8) (hrc : mc' + rc' = rc) (hrs : ms' + rs' = rs) (d : decode cc pc = .ok (.invokestatic index, 3)) (k : xT K B l F own ini cc nL ret mc ms rc' rs' Q (pc + 3) ls (.int r :: st) h1) : xT K B l F own ini cc nL ret mc ms rc rs Q pc ls (v5 :: v4 :: v3 :: v2 :: v1 :: st) h :=
  xr_callS hS lk hF rfl hrm hrc hrs d (fun r g q => by obtain ⟨rfl, rfl⟩ := q; exact k)
theorem xr_Sl5 {v1 v2 v3 v4 v5 : Value} {r : Int64} (hS : xU K B l F' M mc' ms' [v1, v2, v3, v4, v5] h (xQl r h1)) (lk : xLk own index M.1) (hF : F' + 1 ≤ F) (hrm : (st.map fun v => v.category).sum ≤ 8) (hrc : mc' + rc' = rc) (hrs : ms' + rs' = rs) (d : decode cc pc = .ok (.invokestatic index, 3)) (k : xT K B l F own ini cc nL ret mc ms rc' rs' Q (pc + 3) ls (.long r :: st) h1) : xT K B l F own ini cc nL ret mc ms rc rs Q pc ls (v5 :: v4 :: v3 :: v2 :: v1 :: st) h :=
  xr_callS hS lk hF rfl hrm hrc hrs d (fun r g q => by obtain ⟨rfl, rfl⟩ := q; exact k)
theorem xr_Sv5 {v1 v2 v3 v4 v5 : Value} (hS : xU K B l F' M mc' ms' [v1, v2, v3, v4, v5] h (xQv h1)) (lk : xLk own index M.1) (hF : F' + 1 ≤ F) (hrm : (st.map fun v => v.category).sum ≤ 8) (hrc : mc' + rc' = rc) (hrs : ms' + rs' = rs) (d : decode cc pc = .ok (.invokestatic index, 3)) (k : xT K B l F own ini cc nL ret mc ms rc' rs' Q (pc + 3) ls (st) h1) : xT K B l F own ini cc nL ret mc ms rc rs Q pc ls (v5 :: v4 :: v3 :: v2 :: v1 :: st) h :=
  xr_callS hS lk hF rfl hrm hrc hrs d (fun r g q => by obtain ⟨rfl, rfl⟩ := q; exact k)
theorem xr_Sq5 {v1 v2 v3 v4 v5 : Value} (hS : xU K B l F' M mc' ms' [v1, v2, v3, v4, v5] h Q') (lk : xLk own index M.1) (hF : F' + 1 ≤ F) (hrm : (st.map fun v => v.category).sum ≤ 8) (hrc : mc' + rc' = rc) (hrs : ms' + rs' = rs) (d : decode cc pc = .ok (.invokestatic index, 3)) (k : ∀ (r : Option Value) (g : xH), Q' r g → xT K B l F own ini cc nL ret mc ms rc' rs' Q (pc + 3) ls (r.toList ++ st) g) : xT K B l F own ini cc nL ret mc ms rc rs Q pc ls (v5 :: v4 :: v3 :: v2 :: v1 :: st) h :=
  xr_callS hS lk hF rfl hrm hrc hrs d k
theorem xr_Si6 {v1 v2 v3 v4 v5 v6 : Value} {r : Int32} (hS : xU K B l F' M mc' ms' [v1, v2, v3, v4, v5, v6] h (xQi r h1)) (lk : xLk own index M.1) (hF : F' + 1 ≤ F) (hrm : (st.map fun v => v.category).sum ≤ 8) (hrc : mc' + rc' = rc) (hrs : ms' + rs' = rs) (d : decode cc pc = .ok (.invokestatic index, 3)) (k : xT K B l F own ini cc nL ret mc ms rc' rs' Q (pc + 3) ls (.int r :: st) h1) : xT K B l F own ini cc nL ret mc ms rc rs Q pc ls (v6 :: v5 :: v4 :: v3 :: v2 :: v1 :: st) h :=
  xr_callS hS lk hF rfl hrm hrc hrs d (fun r g q => by obtain ⟨rfl, rfl⟩ := q; exact k)
theorem xr_Sl6 {v1 v2 v3 v4 v5 v6 : Value} {r : Int64} (hS : xU K B l F' M mc' ms' [v1, v2, v3, v4, v5, v6] h (xQl r h1)) (lk : xLk own index M.1) (hF : F' + 1 ≤ F) (hrm : (st.map fun v => v.category).sum ≤ 8) (hrc : mc' + rc' = rc) (hrs : ms' + rs' = rs) (d : decode cc pc = .ok (.invokestatic index, 3)) (k : xT K B l F own ini cc nL ret mc ms rc' rs' Q (pc + 3) ls (.long r :: st) h1) : xT K B l F own ini cc nL ret mc ms rc rs Q pc ls (v6 :: v5 :: v4 :: v3 :: v2 :: v1 :: st) h :=
  xr_callS hS lk hF rfl hrm hrc hrs d (fun r g q => by obtain ⟨rfl, rfl⟩ := q; exact k)
theorem xr_Sv6 {v1 v2 v3 v4 v5 v6 : Value} (hS : xU K B l F' M mc' ms' [v1, v2, v3, v4, v5, v6] h (xQv h1)) (lk : xLk own index M.1) (hF : F' + 1 ≤ F) (hrm : (st.map fun v => v.category).sum ≤ 8) (hrc : mc' + rc' = rc) (hrs : ms' + rs' = rs) (d : decode cc pc = .ok (.invokestatic index, 3)) (k : xT K B l F own ini cc nL ret mc ms rc' rs' Q (pc + 3) ls (st) h1) : xT K B l F own ini cc nL ret mc ms rc rs Q pc ls (v6 :: v5 :: v4 :: v3 :: v2 :: v1 :: st) h :=
  xr_callS hS lk hF rfl hrm hrc hrs d (fun r g q => by obtain ⟨rfl, rfl⟩ := q; exact k)
theorem xr_Sq6 {v1 v2 v3 v4 v5 v6 : Value} (hS : xU K B l F' M mc' ms' [v1, v2, v3, v4, v5, v6] h Q') (lk : xLk own index M.1) (hF : F' + 1 ≤ F) (hrm : (st.map fun v => v.category).sum ≤ 8) (hrc : mc' + rc' = rc) (hrs : ms' + rs' = rs) (d : decode cc pc = .ok (.invokestatic index, 3)) (k : ∀ (r : Option Value) (g : xH), Q' r g → xT K B l F own ini cc nL ret mc ms rc' rs' Q (pc + 3) ls (r.toList ++ st) g) : xT K B l F own ini cc nL ret mc ms rc rs Q pc ls (v6 :: v5 :: v4 :: v3 :: v2 :: v1 :: st) h :=
  xr_callS hS lk hF rfl hrm hrc hrs d k
theorem xr_Si7 {v1 v2 v3 v4 v5 v6 v7 : Value} {r : Int32} (hS : xU K B l F' M mc' ms' [v1, v2, v3, v4, v5, v6, v7] h (xQi r h1)) (lk : xLk own index M.1) (hF : F' + 1 ≤ F) (hrm : (st.map fun v => v.category).sum ≤ 8) (hrc : mc' + rc' = rc) (hrs : ms' + rs' = rs) (d : decode cc pc = .ok (.invokestatic index, 3)) (k : xT K B l F own ini cc nL ret mc ms rc' rs' Q (pc + 3) ls (.int r :: st) h1) : xT K B l F own ini cc nL ret mc ms rc rs Q pc ls (v7 :: v6 :: v5 :: v4 :: v3 :: v2 :: v1 :: st) h :=
  xr_callS hS lk hF rfl hrm hrc hrs d (fun r g q => by obtain ⟨rfl, rfl⟩ := q; exact k)
theorem xr_Sl7 {v1 v2 v3 v4 v5 v6 v7 : Value} {r : Int64} (hS : xU K B l F' M mc' ms' [v1, v2, v3, v4, v5, v6, v7] h (xQl r h1)) (lk : xLk own index M.1) (hF : F' + 1 ≤ F) (hrm : (st.map fun v => v.category).sum ≤ 8) (hrc : mc' + rc' = rc) (hrs : ms' + rs' = rs) (d : decode cc pc = .ok (.invokestatic index, 3)) (k : xT K B l F own ini cc nL ret mc ms rc' rs' Q (pc + 3) ls (.long r :: st) h1) : xT K B l F own ini cc nL ret mc ms rc rs Q pc ls (v7 :: v6 :: v5 :: v4 :: v3 :: v2 :: v1 :: st) h :=
  xr_callS hS lk hF rfl hrm hrc hrs d (fun r g q => by obtain ⟨rfl, rfl⟩ := q; exact k)
theorem xr_Sv7 {v1 v2 v3 v4 v5 v6 v7 : Value} (hS : xU K B l F' M mc' ms' [v1, v2, v3, v4, v5, v6, v7] h (xQv h1)) (lk : xLk own index M.1) (hF : F' + 1 ≤ F) (hrm : (st.map fun v => v.category).sum ≤ 8) (hrc : mc' + rc' = rc) (hrs : ms' + rs' = rs) (d : decode cc pc = .ok (.invokestatic index, 3)) (k : xT K B l F own ini cc nL ret mc ms rc' rs' Q (pc + 3) ls (st) h1) : xT K B l F own ini cc nL ret mc ms rc rs Q pc ls (v7 :: v6 :: v5 :: v4 :: v3 :: v2 :: v1 :: st) h :=
  xr_callS hS lk hF rfl hrm hrc hrs d (fun r g q => by obtain ⟨rfl, rfl⟩ := q; exact k)
theorem xr_Sq7 {v1 v2 v3 v4 v5 v6 v7 : Value} (hS : xU K B l F' M mc' ms' [v1, v2, v3, v4, v5, v6, v7] h Q') (lk : xLk own index M.1) (hF : F' + 1 ≤ F) (hrm : (st.map fun v => v.category).sum ≤ 8) (hrc : mc' + rc' = rc) (hrs : ms' + rs' = rs) (d : decode cc pc = .ok (.invokestatic index, 3)) (k : ∀ (r : Option Value) (g : xH), Q' r g → xT K B l F own ini cc nL ret mc ms rc' rs' Q (pc + 3) ls (r.toList ++ st) g) : xT K B l F own ini cc nL ret mc ms rc rs Q pc ls (v7 :: v6 :: v5 :: v4 :: v3 :: v2 :: v1 :: st) h :=
  xr_callS hS lk hF rfl hrm hrc hrs d k
theorem xr_Iv0 (hS : xN K B l F' M mc' ms' a [] h (xQv h1)) (lk : xLk own index M.1) (hF : F' + 1 ≤ F) (hrm : (st.map fun v => v.category).sum ≤ 8) (hrc : mc' + rc' = rc) (hrs : ms' + rs' = rs) (d : decode cc pc = .ok (.invokespecial index, 3)) (k : xT K B l F own ini cc nL ret mc ms rc' rs' Q (pc + 3) ls (st) h1) : xT K B l F own ini cc nL ret mc ms rc rs Q pc ls (.ref a :: st) h :=
  xr_callI hS lk hF rfl hrm hrc hrs d (fun r g q => by obtain ⟨rfl, rfl⟩ := q; exact k)
theorem xr_Iq0 (hS : xN K B l F' M mc' ms' a [] h Q') (lk : xLk own index M.1) (hF : F' + 1 ≤ F) (hrm : (st.map fun v => v.category).sum ≤ 8) (hrc : mc' + rc' = rc) (hrs : ms' + rs' = rs) (d : decode cc pc = .ok (.invokespecial index, 3)) (k : ∀ (r : Option Value) (g : xH), Q' r g → xT K B l F own ini cc nL ret mc ms rc' rs' Q (pc + 3) ls (r.toList ++ st) g) : xT K B l F own ini cc nL ret mc ms rc rs Q pc ls (.ref a :: st) h :=
  xr_callI hS lk hF rfl hrm hrc hrs d k
theorem xr_Iv1 {v1 : Value} (hS : xN K B l F' M mc' ms' a [v1] h (xQv h1)) (lk : xLk own index M.1) (hF : F' + 1 ≤ F) (hrm : (st.map fun v => v.category).sum ≤ 8) (hrc : mc' + rc' = rc) (hrs : ms' + rs' = rs) (d : decode cc pc = .ok (.invokespecial index, 3)) (k : xT K B l F own ini cc nL ret mc ms rc' rs' Q (pc + 3) ls (st) h1) : xT K B l F own ini cc nL ret mc ms rc rs Q pc ls (v1 :: .ref a :: st) h :=
  xr_callI hS lk hF rfl hrm hrc hrs d (fun r g q => by obtain ⟨rfl, rfl⟩ := q; exact k)
theorem xr_Iq1 {v1 : Value} (hS : xN K B l F' M mc' ms' a [v1] h Q') (lk : xLk own index M.1) (hF : F' + 1 ≤ F) (hrm : (st.map fun v => v.category).sum ≤ 8) (hrc : mc' + rc' = rc) (hrs : ms' + rs' = rs) (d : decode cc pc = .ok (.invokespecial index, 3)) (k : ∀ (r : Option Value) (g : xH), Q' r g → xT K B l F own ini cc nL ret mc ms rc' rs' Q (pc + 3) ls (r.toList ++ st) g) : xT K B l F own ini cc nL ret mc ms rc rs Q pc ls (v1 :: .ref a :: st) h :=
  xr_callI hS lk hF rfl hrm hrc hrs d k
theorem xr_Iv2 {v1 v2 : Value} (hS : xN K B l F' M mc' ms' a [v1, v2] h (xQv h1)) (lk : xLk own index M.1) (hF : F' + 1 ≤ F) (hrm : (st.map fun v => v.category).sum ≤ 8) (hrc : mc' + rc' = rc) (hrs : ms' + rs' = rs) (d : decode cc pc = .ok (.invokespecial index, 3)) (k : xT K B l F own ini cc nL ret mc ms rc' rs' Q (pc + 3) ls (st) h1) : xT K B l F own ini cc nL ret mc ms rc rs Q pc ls (v2 :: v1 :: .ref a :: st) h :=
  xr_callI hS lk hF rfl hrm hrc hrs d (fun r g q => by obtain ⟨rfl, rfl⟩ := q; exact k)
theorem xr_Iq2 {v1 v2 : Value} (hS : xN K B l F' M mc' ms' a [v1, v2] h Q') (lk : xLk own index M.1) (hF : F' + 1 ≤ F) (hrm : (st.map fun v => v.category).sum ≤ 8) (hrc : mc' + rc' = rc) (hrs : ms' + rs' = rs) (d : decode cc pc = .ok (.invokespecial index, 3)) (k : ∀ (r : Option Value) (g : xH), Q' r g → xT K B l F own ini cc nL ret mc ms rc' rs' Q (pc + 3) ls (r.toList ++ st) g) : xT K B l F own ini cc nL ret mc ms rc rs Q pc ls (v2 :: v1 :: .ref a :: st) h :=
  xr_callI hS lk hF rfl hrm hrc hrs d k
theorem xr_Iv3 {v1 v2 v3 : Value} (hS : xN K B l F' M mc' ms' a [v1, v2, v3] h (xQv h1)) (lk : xLk own index M.1) (hF : F' + 1 ≤ F) (hrm : (st.map fun v => v.category).sum ≤ 8) (hrc : mc' + rc' = rc) (hrs : ms' + rs' = rs) (d : decode cc pc = .ok (.invokespecial index, 3)) (k : xT K B l F own ini cc nL ret mc ms rc' rs' Q (pc + 3) ls (st) h1) : xT K B l F own ini cc nL ret mc ms rc rs Q pc ls (v3 :: v2 :: v1 :: .ref a :: st) h :=
  xr_callI hS lk hF rfl hrm hrc hrs d (fun r g q => by obtain ⟨rfl, rfl⟩ := q; exact k)
theorem xr_Iq3 {v1 v2 v3 : Value} (hS : xN K B l F' M mc' ms' a [v1, v2, v3] h Q') (lk : xLk own index M.1) (hF : F' + 1 ≤ F) (hrm : (st.map fun v => v.category).sum ≤ 8) (hrc : mc' + rc' = rc) (hrs : ms' + rs' = rs) (d : decode cc pc = .ok (.invokespecial index, 3)) (k : ∀ (r : Option Value) (g : xH), Q' r g → xT K B l F own ini cc nL ret mc ms rc' rs' Q (pc + 3) ls (r.toList ++ st) g) : xT K B l F own ini cc nL ret mc ms rc rs Q pc ls (v3 :: v2 :: v1 :: .ref a :: st) h :=
  xr_callI hS lk hF rfl hrm hrc hrs d k
theorem xr_objInit (hw : Cond.methodLink own index Lib.objectInit ∈ xW) (h2 : Cond.instanceMethod Lib.objectInit ∈ xW) (h3 : Cond.code Lib.objectInit ⟨#[0xb1]⟩ 1 none ∈ xW) (hF : 1 ≤ F) (hrm : (st.map fun v => v.category).sum ≤ 8) (d : decode cc pc = .ok (.invokespecial index, 3)) (k : xT K B l F own ini cc nL ret mc ms rc rs Q (pc + 3) ls st h) : xT K B l F own ini cc nL ret mc ms rc rs Q pc ls (.ref a :: st) h :=
  xT.go k (fun p e s m args below meth c H locs cells slots L Q' C I w => W.objInit C.1 C.2.1 C.own (C.A.use hw) (C.A.use h2) (C.A.use h3) rfl (by rw [C.2.2.1]; exact I.1) rfl d hF (by show 2 * 0 + _ + 12 ≤ 64 * F; omega) w)
theorem xr_max {x y : Int32} (hw : Cond.methodLink own index Lib.Math.max.name ∈ xW) (h2 : Cond.static Lib.Math.max.name ∈ xW) (h3 : Cond.initialized "java/lang/Math" ∈ xW) (h4 : Cond.code Lib.Math.max.name Lib.Math.max.code 2 (some .int) ∈ xW) (hF : 1 ≤ F) (hrm : (st.map fun v => v.category).sum ≤ 8) (d : decode cc pc = .ok (.invokestatic index, 3)) (k : xT K B l F own ini cc nL ret mc ms rc rs Q (pc + 3) ls (.int (if x < y then y else x) :: st) h) : xT K B l F own ini cc nL ret mc ms rc rs Q pc ls (.int y :: .int x :: st) h := by
  intro p e s m args below meth c H locs cells slots L C I
  have hb := I.2.2.2.2
  exact va_mmax C.1 C.2.1 (by rw [C.2.2.1]; exact I.2.2.2.1.1.symm) C.own (C.A.use hw) (C.A.use h2) (C.A.use h3) (C.A.use h4) hF (by show _ + 13 ≤ 64 * F; omega) (by show cells ≤ mc; omega) (by show slots ≤ ms; omega) d (k p e s m args below meth c H locs cells slots L C I)
theorem xr_min {x y : Int32} (hw : Cond.methodLink own index Lib.Math.min.name ∈ xW) (h2 : Cond.static Lib.Math.min.name ∈ xW) (h3 : Cond.initialized "java/lang/Math" ∈ xW) (h4 : Cond.code Lib.Math.min.name Lib.Math.min.code 2 (some .int) ∈ xW) (hF : 1 ≤ F) (hrm : (st.map fun v => v.category).sum ≤ 8) (d : decode cc pc = .ok (.invokestatic index, 3)) (k : xT K B l F own ini cc nL ret mc ms rc rs Q (pc + 3) ls (.int (if y < x then y else x) :: st) h) : xT K B l F own ini cc nL ret mc ms rc rs Q pc ls (.int y :: .int x :: st) h := by
  intro p e s m args below meth c H locs cells slots L C I
  have hb := I.2.2.2.2
  exact va_mmin C.1 C.2.1 (by rw [C.2.2.1]; exact I.2.2.2.1.1.symm) C.own (C.A.use hw) (C.A.use h2) (C.A.use h3) (C.A.use h4) hF (by show _ + 13 ≤ 64 * F; omega) (by show cells ≤ mc; omega) (by show slots ≤ ms; omega) d (k p e s m args below meth c H locs cells slots L C I)
theorem xr_abs {x : Int32} (hw : Cond.methodLink own index Lib.Math.abs.name ∈ xW) (h2 : Cond.static Lib.Math.abs.name ∈ xW) (h3 : Cond.initialized "java/lang/Math" ∈ xW) (h4 : Cond.code Lib.Math.abs.name Lib.Math.abs.code 1 (some .int) ∈ xW) (hF : 1 ≤ F) (hrm : (st.map fun v => v.category).sum ≤ 8) (d : decode cc pc = .ok (.invokestatic index, 3)) (k : xT K B l F own ini cc nL ret mc ms rc rs Q (pc + 3) ls (.int (if 0 ≤ x then x else 0 - x) :: st) h) : xT K B l F own ini cc nL ret mc ms rc rs Q pc ls (.int x :: st) h := by
  intro p e s m args below meth c H locs cells slots L C I
  have hb := I.2.2.2.2
  exact va_mabs C.1 C.2.1 (by rw [C.2.2.1]; exact I.2.2.2.1.1.symm) C.own (C.A.use hw) (C.A.use h2) (C.A.use h3) (C.A.use h4) hF (by show _ + 13 ≤ 64 * F; omega) (by show cells ≤ mc; omega) (by show slots ≤ ms; omega) d (k p e s m args below meth c H locs cells slots L C I)
theorem xr_copy {a0 n0 n1 ns nd nn : Nat} {f g : Nat → Int32} {sp dp n : Int32} (hw : Cond.methodLink own index arraycopyName ∈ xW) (h2 : Cond.native arraycopyName ∈ xW) (h3 : Cond.static arraycopyName ∈ xW) (h4 : Cond.initialized "java/lang/System" ∈ xW) (ha0 : h.2 a0 = some (.inl (K.2 1, n0, .inl f))) (ha : h.2 a = some (.inl (K.2 1, n1, .inl g))) (es : sp = nI ns) (ed : dp = nI nd) (en : n = nI nn) (hn0 : n0 < 2 ^ 31) (hn1 : n1 < 2 ^ 31) (hs : ns + nn ≤ n0) (hd : nd + nn ≤ n1)
    (hF : 1 ≤ F) (hrm : (st.map fun v => v.category).sum ≤ 8) (d : decode cc pc = .ok (.invokestatic index, 3)) (k : xT K B l F own ini cc nL ret mc ms rc rs Q (pc + 3) ls st (xup h a (.inl (K.2 1, n1, .inl (va_cpy f g ns nd nn))))) : xT K B l F own ini cc nL ret mc ms rc rs Q pc ls (.int n :: .int dp :: .ref a :: .int sp :: .ref a0 :: st) h := by
  intro p e s m args below meth c H locs cells slots L C I
  intro T hT X
  have hc0 : H[a0]? = some (vp_cell (K.2 1) (n0, .inl f)) := (I.1.2.2 a0 _ ha0).2
  have hc1 : H[a]? = some (vp_cell (K.2 1) (n1, .inl g)) := (I.1.2.2 a _ ha).2
  obtain ⟨-, k0, hk0, cm0, hkk0⟩ := (C.K.2 1 _ rfl).1 n0 (fun j => .int (f j))
  obtain ⟨-, k1, hk1, cm1, hkk1⟩ := (C.K.2 1 _ rfl).1 n1 (fun j => .int (g j))
  have hnw : nativeFrameWords "java/lang/System" "arraycopy" 5 ≤ 40 := by decide +kernel
  have cs : sp.toNatClampNeg = ns := by rw [es]; exact nI_clamp (by omega)
  have cd : dp.toNatClampNeg = nd := by rw [ed]; exact nI_clamp (by omega)
  have cn : n.toNatClampNeg = nn := by rw [en]; exact nI_clamp (by omega)
  have ts : sp.toInt = (ns : Int) := by rw [es]; exact nI_toInt (by omega)
  have td : dp.toInt = (nd : Int) := by rw [ed]; exact nI_toInt (by omega)
  have tn : n.toInt = (nn : Int) := by rw [en]; exact nI_toInt (by omega)
  obtain ⟨vm', X', step⟩ := X.arraycopy C.1 C.own (C.A.use hw) (C.A.use h2) (C.A.use h3) (C.A.use h4) (src := a0) (dst := a) (cs := vp_cell (K.2 1) (n0, .inl f)) (cd := vp_cell (K.2 1) (n1, .inl g)) (srcPos := sp) (destPos := dp) (n := n) (by rw [hT]; exact hc0) (by rw [hT]; exact hc1)
    (fun _ h => by cases h) (fun _ h => by cases h) (fun h => by cases h) (fun h => by cases h) hk0 hk1 hkk0 hkk1 (by simp [refKind]) (by rw [es]; exact nI_pos (by omega)) (by rw [ed]; exact nI_pos (by omega)) (by rw [en]; exact nI_pos (by omega))
    (by rw [ts, tn]; show ¬ _ > ((arrV _ n0 (fun j => .int (f j))).slots.size : Int); rw [arrV_size]; omega)
    (by rw [td, tn]; show ¬ _ > ((arrV _ n1 (fun j => .int (g j))).slots.size : Int); rw [arrV_size]; omega)
    (fun vm₁ _ i hi => by
      have e9 : (vp_cell (K.2 1) (n0, .inl f)).slots.getD (sp.toNatClampNeg + i) .null = .int (f (sp.toNatClampNeg + i)) := by
        show (arrV _ n0 (fun j => .int (f j))).slots.getD _ _ = _
        rw [Array.getD_eq_getD_getElem?, arrV_read _ _ (by omega)]
        rfl
      refine ⟨?_, ?_⟩
      · rw [e9]
        rfl
      · rw [e9]
        exact trivial)
    (g := F0 m pc L (.int n :: .int dp :: .ref a :: .int sp :: .ref a0 :: st)) rfl (by rw [C.2.2.1]; exact I.2.2.2.1.1) (rest := st) rfl (by rw [C.2.1]; exact d) hF (by show 2 * 0 + _ + (nativeFrameWords "java/lang/System" "arraycopy" 5 + 11) ≤ 64 * F; omega)
  have e1 : copied (vp_cell (K.2 1) (n0, .inl f)) (vp_cell (K.2 1) (n1, .inl g)) sp dp n = vp_cell (K.2 1) (n1, .inl (va_cpy f g ns nd nn)) := by
    rw [← cs, ← cd, ← cn]
    exact va_copied (fun z => .int z) (K.2 1) (K.2 1) f g (by omega)
  rw [e1] at X' step
  have hl : a < H.size := (Array.getElem?_eq_some_iff.mp hc1).1
  have hheap : ((T.setVm vm').setCell a (vp_cell (K.2 1) (n1, .inl (va_cpy f g ns nd nn)))).heap = H.setIfInBounds a (vp_cell (K.2 1) (n1, .inl (va_cpy f g ns nd nn))) := by rw [← hT]; rfl
  have oq : ∀ q : Nat, q ≠ a → (H.setIfInBounds a (vp_cell (K.2 1) (n1, .inl (va_cpy f g ns nd nn))))[q]? = H[q]? := fun q hq => by simp [Array.getElem?_setIfInBounds, Ne.symm hq]
  have hz : (H.setIfInBounds a (vp_cell (K.2 1) (n1, .inl (va_cpy f g ns nd nn)))).size = H.size := by simp
  obtain ⟨j1, j2, j3, j4, j5⟩ := I.up (k := 0) (e := .inl (K.2 1, n1, .inl (va_cpy f g ns nd nn))) ha (show (H.setIfInBounds a _)[a]? = some _ by simp [Array.getElem?_setIfInBounds, hl]) hz oq
  have hB := (I.1.2.2 a _ ha).1
  obtain ⟨t, a1, b1⟩ := k p e s m args below meth c _ _ cells slots L C ⟨j1, j2, fun q hq => by
      rcases List.mem_append.mp hq with h | h
      · exact I.2.2.1 q h
      · obtain ⟨z, -, hz⟩ := List.mem_map.mp h
        rw [← hz]
        exact hB, j4, j5⟩ _ hheap X'
  exact ⟨t, step t a1, b1⟩
theorem xr_anew {n : Int32} {N : Nat} (hw : Cond.classLink own index RX3 ∈ xW) (h2 : Cond.arrayOver (.object RX3) ∈ xW) (hn : ¬ n < 0) (hN : n.toNatClampNeg = N) (hby : N ≤ 10000) (hrc : rc' + 1 = rc) (hrs : rs' + N = rs) (d : decode cc pc = .ok (.anewarray index, 3)) (kk : xT K B l F own ini cc nL ret mc ms rc' rs' Q (pc + 3) ls (.ref h.1 :: st) (xnew h (.inl (K.2 4, N, .inr (.inr (.inr (.inr (fun _ => none)))))))) : xT K B l F own ini cc nL ret mc ms rc rs Q pc ls (.int n :: st) h := by
  intro p e s m args below meth c H locs cells slots L C I
  have hb := I.2.2.2.2
  have hsz := I.1.1
  subst hN
  refine W.anew C.1 C.2.1 C.own (C.A.use hw) (C.A.use h2) rfl d rfl hn (by omega) (by show cells + 1 ≤ mc; omega) (by show slots + _ ≤ ms; omega) fun cA kA comp f1 f2 f3 f4 => ?_
  obtain ⟨kA', comp', k1, k2, k3, k4⟩ := (C.K.2 4 _ rfl).2
  have hcA : cA = K.2 4 := Option.some.inj (f1.symm.trans k4)
  subst hcA
  have hnew : (({ cls := K.2 4, slots := Array.replicate n.toNatClampNeg .null, vm := .none } : Cell)) = vp_cell (K.2 4) (n.toNatClampNeg, .inr (.inr (.inr (.inr (fun _ => none))))) := by
    rw [vp_cell_q]
    unfold arrV
    congr 1
    apply Array.ext
    · simp
    · intro i h1 h2
      simp [va_rf]
  have k := kk p e s m args below meth c _ locs (cells + 1) (slots + n.toNatClampNeg) L C (I.new (H1 := H.push (({ cls := K.2 4, slots := Array.replicate n.toNatClampNeg .null, vm := .none } : Cell))) hrc hrs (by show (H.push _)[H.size]? = some _; rw [← hnew]; simp) (by simp) (fun q hq => by rw [Array.getElem?_push, if_neg (Nat.ne_of_lt hq)]))
  rw [← hsz] at k
  exact k
end XJ
