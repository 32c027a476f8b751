/-! The law's own judgement: as xT, with a premise on the state and the code at the entry, and any end (written by wip/whole/yr.py) -/
def yT (PS : State → Code → Prop) (ZP : List Frame → Array Value → State → State → Prop) (K : xK) (B : Nat) (l : Launch) (F : Nat) (own : String) (ini : Bool) (cc : ByteArray) (nL : Nat) (ret : Option FieldType) (mc ms rc rs : Nat) (pc : Nat) (ls : List (Option Value)) (st : List Value) (h : xH) : Prop :=
  ∀ (p : Program) (e : Env) (s : State) (m : MethodId) (args : Array Value) (below : List Frame) (meth : Method) (c : Code) (H : Heap) (locs : List Loc) (cells slots : Nat) (L : Array Slot),
    PS s c → xC K own ini cc nL ret p s m meth c → xI K B mc ms rc rs nL s H locs cells slots ls L h →
    W p l e (xRoom F mc ms) s m args below meth c H locs cells slots (ZP below args s) (F0 m pc L st)
section YT
variable {PS : State → Code → Prop} {ZP : List Frame → Array Value → State → State → Prop} {K : xK} {B : Nat} {l : Launch} {F : Nat} {own : String} {ini : Bool} {cc : ByteArray} {nL : Nat} {ret : Option FieldType} {mc ms rc rs : Nat} {pc : Nat} {ls tl : List (Option Value)} {st : List Value} {h : xH}
theorem yT.weak {ls' : List (Option Value)} (hw : ∀ (i : Nat) (v : Value), ls'[i]? = some (some v) → ls[i]? = some (some v)) (k : yT PS ZP K B l F own ini cc nL ret mc ms rc rs pc ls' st h) : yT PS ZP K B l F own ini cc nL ret mc ms rc rs pc ls st h := by
  intro p e s m args below meth c H locs cells slots L zP C I
  obtain ⟨i1, i2, i3, i4, i5⟩ := I
  exact k p e s m args below meth c H locs cells slots L zP C ⟨i1, i2, i3, i4.weak hw, i5⟩
theorem yT.budget {rc' rs' : Nat} (h1 : rc' ≤ rc) (h2 : rs' ≤ rs) (k : yT PS ZP K B l F own ini cc nL ret mc ms rc' rs' pc ls st h) : yT PS ZP K B l F own ini cc nL ret mc ms rc rs pc ls st h := by
  intro p e s m args below meth c H locs cells slots L zP C I
  obtain ⟨i1, i2, i3, i4, i5, i6⟩ := I
  exact k p e s m args below meth c H locs cells slots L zP C ⟨i1, i2, i3, i4, by omega, by omega⟩
theorem yr_eqi {x y : Int32} (e : x = y) (k : yT PS ZP K B l F own ini cc nL ret mc ms rc rs pc ls (.int y :: st) h) : yT PS ZP K B l F own ini cc nL ret mc ms rc rs pc ls (.int x :: st) h := e ▸ k
theorem yT.nm (k : ∀ h' : xH, h' = h → yT PS ZP K B l F own ini cc nL ret mc ms rc rs pc ls st h') : yT PS ZP K B l F own ini cc nL ret mc ms rc rs pc ls st h := k h rfl
theorem yT.go {pc' : Nat} {st' : List Value} (k : yT PS ZP K B l F own ini cc nL ret mc ms rc rs pc' ls st' h)
    (f : ∀ (p : Program) (e : Env) (s : State) (m : MethodId) (args : Array Value) (below : List Frame) (meth : Method) (c : Code) (H : Heap) (locs : List Loc) (cells slots : Nat) (L : Array Slot) (Q' : State → Prop), xC K own ini cc nL ret p s m meth c → xL nL ls L → W p l e (xRoom F mc ms) s m args below meth c H locs cells slots Q' (F0 m pc' L st') → W p l e (xRoom F mc ms) s m args below meth c H locs cells slots Q' (F0 m pc L st)) :
    yT PS ZP K B l F own ini cc nL ret mc ms rc rs pc ls st h := by
  intro p e s m args below meth c H locs cells slots L zP C I
  exact f p e s m args below meth c H locs cells slots L _ C I.2.2.2.1 (k p e s m args below meth c H locs cells slots L zP C I)
theorem yr_ic0 (d : decode cc pc = .ok (.iconst 0, 1)) (k : yT PS ZP K B l F own ini cc nL ret mc ms rc rs (pc + 1) ls (.int 0 :: st) h) : yT PS ZP K B l F own ini cc nL ret mc ms rc rs pc ls (st) h :=
  yT.go k (fun _ _ _ _ _ _ _ _ _ _ _ _ _ _ C I w => lv_iconst C.1 C.2.1 d (by decide) w)
theorem yr_ic1 (d : decode cc pc = .ok (.iconst 1, 1)) (k : yT PS ZP K B l F own ini cc nL ret mc ms rc rs (pc + 1) ls (.int 1 :: st) h) : yT PS ZP K B l F own ini cc nL ret mc ms rc rs pc ls (st) h :=
  yT.go k (fun _ _ _ _ _ _ _ _ _ _ _ _ _ _ C I w => lv_iconst C.1 C.2.1 d (by decide) w)
theorem yr_ic2 (d : decode cc pc = .ok (.iconst 2, 1)) (k : yT PS ZP K B l F own ini cc nL ret mc ms rc rs (pc + 1) ls (.int 2 :: st) h) : yT PS ZP K B l F own ini cc nL ret mc ms rc rs pc ls (st) h :=
  yT.go k (fun _ _ _ _ _ _ _ _ _ _ _ _ _ _ C I w => lv_iconst C.1 C.2.1 d (by decide) w)
theorem yr_ic3 (d : decode cc pc = .ok (.iconst 3, 1)) (k : yT PS ZP K B l F own ini cc nL ret mc ms rc rs (pc + 1) ls (.int 3 :: st) h) : yT PS ZP K B l F own ini cc nL ret mc ms rc rs pc ls (st) h :=
  yT.go k (fun _ _ _ _ _ _ _ _ _ _ _ _ _ _ C I w => lv_iconst C.1 C.2.1 d (by decide) w)
theorem yr_ic4 (d : decode cc pc = .ok (.iconst 4, 1)) (k : yT PS ZP K B l F own ini cc nL ret mc ms rc rs (pc + 1) ls (.int 4 :: st) h) : yT PS ZP K B l F own ini cc nL ret mc ms rc rs pc ls (st) h :=
  yT.go k (fun _ _ _ _ _ _ _ _ _ _ _ _ _ _ C I w => lv_iconst C.1 C.2.1 d (by decide) w)
theorem yr_ic5 (d : decode cc pc = .ok (.iconst 5, 1)) (k : yT PS ZP K B l F own ini cc nL ret mc ms rc rs (pc + 1) ls (.int 5 :: st) h) : yT PS ZP K B l F own ini cc nL ret mc ms rc rs pc ls (st) h :=
  yT.go k (fun _ _ _ _ _ _ _ _ _ _ _ _ _ _ C I w => lv_iconst C.1 C.2.1 d (by decide) w)
theorem yr_bipush {n : Int} {v : Int32} (d : decode cc pc = .ok (.bipush n, 2)) (hv : (Int8.ofInt n).toInt32 = v) (k : yT PS ZP K B l F own ini cc nL ret mc ms rc rs (pc + 2) ls (.int v :: st) h) : yT PS ZP K B l F own ini cc nL ret mc ms rc rs pc ls (st) h :=
  yT.go k (fun _ _ _ _ _ _ _ _ _ _ _ _ _ _ C I w => lv_bipush C.1 C.2.1 d hv w)
theorem yr_al0 {x : Nat} (d : decode cc pc = .ok (.aload_n 0, 1)) (k : yT PS ZP K B l F own ini cc nL ret mc ms rc rs (pc + 1) (some (.ref x) :: tl) (.ref x :: st) h) : yT PS ZP K B l F own ini cc nL ret mc ms rc rs pc (some (.ref x) :: tl) st h :=
  yT.go k (fun _ _ _ _ _ _ _ _ _ _ _ _ _ _ C I w => lv_aload_n C.1 C.2.1 d rfl (I.2.2 0 _ rfl) w)
theorem yr_al1 {y0 : Option Value} {x : Nat} (d : decode cc pc = .ok (.aload_n 1, 1)) (k : yT PS ZP K B l F own ini cc nL ret mc ms rc rs (pc + 1) (y0 :: some (.ref x) :: tl) (.ref x :: st) h) : yT PS ZP K B l F own ini cc nL ret mc ms rc rs pc (y0 :: some (.ref x) :: tl) st h :=
  yT.go k (fun _ _ _ _ _ _ _ _ _ _ _ _ _ _ C I w => lv_aload_n C.1 C.2.1 d rfl (I.2.2 1 _ rfl) w)
theorem yr_al2 {y0 y1 : Option Value} {x : Nat} (d : decode cc pc = .ok (.aload_n 2, 1)) (k : yT PS ZP K B l F own ini cc nL ret mc ms rc rs (pc + 1) (y0 :: y1 :: some (.ref x) :: tl) (.ref x :: st) h) : yT PS ZP K B l F own ini cc nL ret mc ms rc rs pc (y0 :: y1 :: some (.ref x) :: tl) st h :=
  yT.go k (fun _ _ _ _ _ _ _ _ _ _ _ _ _ _ C I w => lv_aload_n C.1 C.2.1 d rfl (I.2.2 2 _ rfl) w)
theorem yr_al3 {y0 y1 y2 : Option Value} {x : Nat} (d : decode cc pc = .ok (.aload_n 3, 1)) (k : yT PS ZP K B l F own ini cc nL ret mc ms rc rs (pc + 1) (y0 :: y1 :: y2 :: some (.ref x) :: tl) (.ref x :: st) h) : yT PS ZP K B l F own ini cc nL ret mc ms rc rs pc (y0 :: y1 :: y2 :: some (.ref x) :: tl) st h :=
  yT.go k (fun _ _ _ _ _ _ _ _ _ _ _ _ _ _ C I w => lv_aload_n C.1 C.2.1 d rfl (I.2.2 3 _ rfl) w)
theorem yr_il1 {y0 : Option Value} {x : Int32} (d : decode cc pc = .ok (.iload_n 1, 1)) (k : yT PS ZP K B l F own ini cc nL ret mc ms rc rs (pc + 1) (y0 :: some (.int x) :: tl) (.int x :: st) h) : yT PS ZP K B l F own ini cc nL ret mc ms rc rs pc (y0 :: some (.int x) :: tl) st h :=
  yT.go k (fun _ _ _ _ _ _ _ _ _ _ _ _ _ _ C I w => lv_iload_n C.1 C.2.1 d rfl (I.2.2 1 _ rfl) w)
theorem yr_il2 {y0 y1 : Option Value} {x : Int32} (d : decode cc pc = .ok (.iload_n 2, 1)) (k : yT PS ZP K B l F own ini cc nL ret mc ms rc rs (pc + 1) (y0 :: y1 :: some (.int x) :: tl) (.int x :: st) h) : yT PS ZP K B l F own ini cc nL ret mc ms rc rs pc (y0 :: y1 :: some (.int x) :: tl) st h :=
  yT.go k (fun _ _ _ _ _ _ _ _ _ _ _ _ _ _ C I w => lv_iload_n C.1 C.2.1 d rfl (I.2.2 2 _ rfl) w)
theorem yr_il4 {y0 y1 y2 y3 : Option Value} {x : Int32} (d : decode cc pc = .ok (.iload 4, 2)) (k : yT PS ZP K B l F own ini cc nL ret mc ms rc rs (pc + 2) (y0 :: y1 :: y2 :: y3 :: some (.int x) :: tl) (.int x :: st) h) : yT PS ZP K B l F own ini cc nL ret mc ms rc rs pc (y0 :: y1 :: y2 :: y3 :: some (.int x) :: tl) st h :=
  yT.go k (fun _ _ _ _ _ _ _ _ _ _ _ _ _ _ C I w => lv_iload C.1 C.2.1 d (I.2.2 4 _ rfl) w)
theorem yr_il5 {y0 y1 y2 y3 y4 : Option Value} {x : Int32} (d : decode cc pc = .ok (.iload 5, 2)) (k : yT PS ZP K B l F own ini cc nL ret mc ms rc rs (pc + 2) (y0 :: y1 :: y2 :: y3 :: y4 :: some (.int x) :: tl) (.int x :: st) h) : yT PS ZP K B l F own ini cc nL ret mc ms rc rs pc (y0 :: y1 :: y2 :: y3 :: y4 :: some (.int x) :: tl) st h :=
  yT.go k (fun _ _ _ _ _ _ _ _ _ _ _ _ _ _ C I w => lv_iload C.1 C.2.1 d (I.2.2 5 _ rfl) w)
theorem yr_il6 {y0 y1 y2 y3 y4 y5 : Option Value} {x : Int32} (d : decode cc pc = .ok (.iload 6, 2)) (k : yT PS ZP K B l F own ini cc nL ret mc ms rc rs (pc + 2) (y0 :: y1 :: y2 :: y3 :: y4 :: y5 :: some (.int x) :: tl) (.int x :: st) h) : yT PS ZP K B l F own ini cc nL ret mc ms rc rs pc (y0 :: y1 :: y2 :: y3 :: y4 :: y5 :: some (.int x) :: tl) st h :=
  yT.go k (fun _ _ _ _ _ _ _ _ _ _ _ _ _ _ C I w => lv_iload C.1 C.2.1 d (I.2.2 6 _ rfl) w)
theorem yr_ll6 {y0 y1 y2 y3 y4 y5 : Option Value} {x : Int64} (d : decode cc pc = .ok (.lload 6, 2)) (k : yT PS ZP K B l F own ini cc nL ret mc ms rc rs (pc + 2) (y0 :: y1 :: y2 :: y3 :: y4 :: y5 :: some (.long x) :: tl) (.long x :: st) h) : yT PS ZP K B l F own ini cc nL ret mc ms rc rs pc (y0 :: y1 :: y2 :: y3 :: y4 :: y5 :: some (.long x) :: tl) st h :=
  yT.go k (fun _ _ _ _ _ _ _ _ _ _ _ _ _ _ C I w => lv_lload C.1 C.2.1 d (I.2.2 6 _ rfl) w)
theorem yr_as1 {y0 y1 : Option Value} {x : Nat} (d : decode cc pc = .ok (.astore_n 1, 1)) (hn : (1 < nL)) (hp : xn2 y0 = true) (k : yT PS ZP K B l F own ini cc nL ret mc ms rc rs (pc + 1) (y0 :: some (.ref x) :: tl) st h) : yT PS ZP K B l F own ini cc nL ret mc ms rc rs pc (y0 :: y1 :: tl) (.ref x :: st) h := by
  intro p e s m args below meth c H locs cells slots L zP C I
  obtain ⟨i1, i2, i3, i4, i5⟩ := I
  refine lv_astore_n C.1 C.2.1 d rfl i4.has hn rfl (fun L' hl => ?_)
  exact k p e s m args below meth c H locs cells slots L' zP C ⟨i1, i2, i3, xL.st1 (ls := y0 :: y1 :: tl) (xnp_of (j := 0) rfl hp) hl, i5⟩
theorem yr_as2 {y0 y1 y2 : Option Value} {x : Nat} (d : decode cc pc = .ok (.astore_n 2, 1)) (hn : (2 < nL)) (hp : xn2 y1 = true) (k : yT PS ZP K B l F own ini cc nL ret mc ms rc rs (pc + 1) (y0 :: y1 :: some (.ref x) :: tl) st h) : yT PS ZP K B l F own ini cc nL ret mc ms rc rs pc (y0 :: y1 :: y2 :: tl) (.ref x :: st) h := by
  intro p e s m args below meth c H locs cells slots L zP C I
  obtain ⟨i1, i2, i3, i4, i5⟩ := I
  refine lv_astore_n C.1 C.2.1 d rfl i4.has hn rfl (fun L' hl => ?_)
  exact k p e s m args below meth c H locs cells slots L' zP C ⟨i1, i2, i3, xL.st1 (ls := y0 :: y1 :: y2 :: tl) (xnp_of (j := 1) rfl hp) hl, i5⟩
theorem yr_as3 {y0 y1 y2 y3 : Option Value} {x : Nat} (d : decode cc pc = .ok (.astore_n 3, 1)) (hn : (3 < nL)) (hp : xn2 y2 = true) (k : yT PS ZP K B l F own ini cc nL ret mc ms rc rs (pc + 1) (y0 :: y1 :: y2 :: some (.ref x) :: tl) st h) : yT PS ZP K B l F own ini cc nL ret mc ms rc rs pc (y0 :: y1 :: y2 :: y3 :: tl) (.ref x :: st) h := by
  intro p e s m args below meth c H locs cells slots L zP C I
  obtain ⟨i1, i2, i3, i4, i5⟩ := I
  refine lv_astore_n C.1 C.2.1 d rfl i4.has hn rfl (fun L' hl => ?_)
  exact k p e s m args below meth c H locs cells slots L' zP C ⟨i1, i2, i3, xL.st1 (ls := y0 :: y1 :: y2 :: y3 :: tl) (xnp_of (j := 2) rfl hp) hl, i5⟩
theorem yr_as4 {y0 y1 y2 y3 y4 : Option Value} {x : Nat} (d : decode cc pc = .ok (.astore 4, 2)) (hn : (4 < nL)) (hp : xn2 y3 = true) (k : yT PS ZP K B l F own ini cc nL ret mc ms rc rs (pc + 2) (y0 :: y1 :: y2 :: y3 :: some (.ref x) :: tl) st h) : yT PS ZP K B l F own ini cc nL ret mc ms rc rs pc (y0 :: y1 :: y2 :: y3 :: y4 :: tl) (.ref x :: st) h := by
  intro p e s m args below meth c H locs cells slots L zP C I
  obtain ⟨i1, i2, i3, i4, i5⟩ := I
  refine lv_astore C.1 C.2.1 d i4.has hn rfl (fun L' hl => ?_)
  exact k p e s m args below meth c H locs cells slots L' zP C ⟨i1, i2, i3, xL.st1 (ls := y0 :: y1 :: y2 :: y3 :: y4 :: tl) (xnp_of (j := 3) rfl hp) hl, i5⟩
theorem yr_is4 {y0 y1 y2 y3 y4 : Option Value} {x : Int32} (d : decode cc pc = .ok (.istore 4, 2)) (hn : (4 < nL)) (hp : xn2 y3 = true) (k : yT PS ZP K B l F own ini cc nL ret mc ms rc rs (pc + 2) (y0 :: y1 :: y2 :: y3 :: some (.int x) :: tl) st h) : yT PS ZP K B l F own ini cc nL ret mc ms rc rs pc (y0 :: y1 :: y2 :: y3 :: y4 :: tl) (.int x :: st) h := by
  intro p e s m args below meth c H locs cells slots L zP C I
  obtain ⟨i1, i2, i3, i4, i5⟩ := I
  refine lv_istore C.1 C.2.1 d i4.has hn rfl (fun L' hl => ?_)
  exact k p e s m args below meth c H locs cells slots L' zP C ⟨i1, i2, i3, xL.st1 (ls := y0 :: y1 :: y2 :: y3 :: y4 :: tl) (xnp_of (j := 3) rfl hp) hl, i5⟩
theorem yr_is5 {y0 y1 y2 y3 y4 y5 : Option Value} {x : Int32} (d : decode cc pc = .ok (.istore 5, 2)) (hn : (5 < nL)) (hp : xn2 y4 = true) (k : yT PS ZP K B l F own ini cc nL ret mc ms rc rs (pc + 2) (y0 :: y1 :: y2 :: y3 :: y4 :: some (.int x) :: tl) st h) : yT PS ZP K B l F own ini cc nL ret mc ms rc rs pc (y0 :: y1 :: y2 :: y3 :: y4 :: y5 :: tl) (.int x :: st) h := by
  intro p e s m args below meth c H locs cells slots L zP C I
  obtain ⟨i1, i2, i3, i4, i5⟩ := I
  refine lv_istore C.1 C.2.1 d i4.has hn rfl (fun L' hl => ?_)
  exact k p e s m args below meth c H locs cells slots L' zP C ⟨i1, i2, i3, xL.st1 (ls := y0 :: y1 :: y2 :: y3 :: y4 :: y5 :: tl) (xnp_of (j := 4) rfl hp) hl, i5⟩
theorem yr_is6 {y0 y1 y2 y3 y4 y5 y6 : Option Value} {x : Int32} (d : decode cc pc = .ok (.istore 6, 2)) (hn : (6 < nL)) (hp : xn2 y5 = true) (k : yT PS ZP K B l F own ini cc nL ret mc ms rc rs (pc + 2) (y0 :: y1 :: y2 :: y3 :: y4 :: y5 :: some (.int x) :: tl) st h) : yT PS ZP K B l F own ini cc nL ret mc ms rc rs pc (y0 :: y1 :: y2 :: y3 :: y4 :: y5 :: y6 :: tl) (.int x :: st) h := by
  intro p e s m args below meth c H locs cells slots L zP C I
  obtain ⟨i1, i2, i3, i4, i5⟩ := I
  refine lv_istore C.1 C.2.1 d i4.has hn rfl (fun L' hl => ?_)
  exact k p e s m args below meth c H locs cells slots L' zP C ⟨i1, i2, i3, xL.st1 (ls := y0 :: y1 :: y2 :: y3 :: y4 :: y5 :: y6 :: tl) (xnp_of (j := 5) rfl hp) hl, i5⟩
theorem yr_ls6 {y0 y1 y2 y3 y4 y5 y6 y7 : Option Value} {x : Int64} (d : decode cc pc = .ok (.lstore 6, 2)) (hn : (6 + 1 < nL)) (hp : xn2 y5 = true) (k : yT PS ZP K B l F own ini cc nL ret mc ms rc rs (pc + 2) (y0 :: y1 :: y2 :: y3 :: y4 :: y5 :: some (.long x) :: none :: tl) st h) : yT PS ZP K B l F own ini cc nL ret mc ms rc rs pc (y0 :: y1 :: y2 :: y3 :: y4 :: y5 :: y6 :: y7 :: tl) (.long x :: st) h := by
  intro p e s m args below meth c H locs cells slots L zP C I
  obtain ⟨i1, i2, i3, i4, i5⟩ := I
  refine lv_lstore C.1 C.2.1 d i4.has hn rfl (fun L' hl => ?_)
  exact k p e s m args below meth c H locs cells slots L' zP C ⟨i1, i2, i3, xL.st2 (ls := y0 :: y1 :: y2 :: y3 :: y4 :: y5 :: y6 :: y7 :: tl) (xnp_of (j := 5) rfl hp) hl, i5⟩
theorem yr_fg5 {y0 y1 y2 y3 y4 y5 : Option Value} (k : yT PS ZP K B l F own ini cc nL ret mc ms rc rs pc (y0 :: y1 :: y2 :: y3 :: y4 :: none :: tl) st h) : yT PS ZP K B l F own ini cc nL ret mc ms rc rs pc (y0 :: y1 :: y2 :: y3 :: y4 :: y5 :: tl) st h := by
  refine yT.weak (fun j v hj => ?_) k
  cases j with
  | zero => exact hj
  | succ j =>
  cases j with
  | zero => exact hj
  | succ j =>
  cases j with
  | zero => exact hj
  | succ j =>
  cases j with
  | zero => exact hj
  | succ j =>
  cases j with
  | zero => exact hj
  | succ j =>
  cases j with
  | zero => cases hj
  | succ j =>
  exact hj
theorem yr_fg6 {y0 y1 y2 y3 y4 y5 y6 : Option Value} (k : yT PS ZP K B l F own ini cc nL ret mc ms rc rs pc (y0 :: y1 :: y2 :: y3 :: y4 :: y5 :: none :: tl) st h) : yT PS ZP K B l F own ini cc nL ret mc ms rc rs pc (y0 :: y1 :: y2 :: y3 :: y4 :: y5 :: y6 :: tl) st h := by
  refine yT.weak (fun j v hj => ?_) k
  cases j with
  | zero => exact hj
  | succ j =>
  cases j with
  | zero => exact hj
  | succ j =>
  cases j with
  | zero => exact hj
  | succ j =>
  cases j with
  | zero => exact hj
  | succ j =>
  cases j with
  | zero => exact hj
  | succ j =>
  cases j with
  | zero => exact hj
  | succ j =>
  cases j with
  | zero => cases hj
  | succ j =>
  exact hj
theorem yr_fg7 {y0 y1 y2 y3 y4 y5 y6 y7 : Option Value} (k : yT PS ZP K B l F own ini cc nL ret mc ms rc rs pc (y0 :: y1 :: y2 :: y3 :: y4 :: y5 :: y6 :: none :: tl) st h) : yT PS ZP K B l F own ini cc nL ret mc ms rc rs pc (y0 :: y1 :: y2 :: y3 :: y4 :: y5 :: y6 :: y7 :: tl) st h := by
  refine yT.weak (fun j v hj => ?_) k
  cases j with
  | zero => exact hj
  | succ j =>
  cases j with
  | zero => exact hj
  | succ j =>
  cases j with
  | zero => exact hj
  | succ j =>
  cases j with
  | zero => exact hj
  | succ j =>
  cases j with
  | zero => exact hj
  | succ j =>
  cases j with
  | zero => exact hj
  | succ j =>
  cases j with
  | zero => exact hj
  | succ j =>
  cases j with
  | zero => cases hj
  | succ j =>
  exact hj
theorem yr_inc4 {y0 y1 y2 y3 : Option Value} {x v : Int32} {n : Int} (d : decode cc pc = .ok (.iinc 4 n, 3)) (hv : x + Int32.ofInt n = v) (hn : 4 < nL) (hp : xn2 y3 = true) (k : yT PS ZP K B l F own ini cc nL ret mc ms rc rs (pc + 3) (y0 :: y1 :: y2 :: y3 :: some (.int v) :: tl) st h) : yT PS ZP K B l F own ini cc nL ret mc ms rc rs pc (y0 :: y1 :: y2 :: y3 :: some (.int x) :: tl) st h := by
  intro p e s m args below meth c H locs cells slots L zP C I
  obtain ⟨i1, i2, i3, i4, i5⟩ := I
  obtain ⟨kx, hkx⟩ := List.getElem?_of_mem (xas_mem.mpr (show (y0 :: y1 :: y2 :: y3 :: some (.int x) :: tl)[4]? = some (some (.int x)) from rfl))
  refine lv_iinc C.1 C.2.1 d i4.has hkx hv hn rfl (fun L' hl => ?_)
  exact k p e s m args below meth c H locs cells slots L' zP C ⟨i1, i2, i3, xL.st1 (ls := y0 :: y1 :: y2 :: y3 :: some (.int x) :: tl) (xnp_of (j := 3) rfl hp) hl, i5⟩
theorem yr_iadd {x y : Int32} (d : decode cc pc = .ok (.iadd, 1)) (k : yT PS ZP K B l F own ini cc nL ret mc ms rc rs (pc + 1) ls (.int (x + y) :: st) h) : yT PS ZP K B l F own ini cc nL ret mc ms rc rs pc ls (.int y :: .int x :: st) h :=
  yT.go k (fun _ _ _ _ _ _ _ _ _ _ _ _ _ _ C I w => lv_iadd C.1 C.2.1 d  w)
theorem yr_isub {x y : Int32} (d : decode cc pc = .ok (.isub, 1)) (k : yT PS ZP K B l F own ini cc nL ret mc ms rc rs (pc + 1) ls (.int (x - y) :: st) h) : yT PS ZP K B l F own ini cc nL ret mc ms rc rs pc ls (.int y :: .int x :: st) h :=
  yT.go k (fun _ _ _ _ _ _ _ _ _ _ _ _ _ _ C I w => lv_isub C.1 C.2.1 d  w)
theorem yr_iand {x y : Int32} (d : decode cc pc = .ok (.iand, 1)) (k : yT PS ZP K B l F own ini cc nL ret mc ms rc rs (pc + 1) ls (.int (x &&& y) :: st) h) : yT PS ZP K B l F own ini cc nL ret mc ms rc rs pc ls (.int y :: .int x :: st) h :=
  yT.go k (fun _ _ _ _ _ _ _ _ _ _ _ _ _ _ C I w => lv_iand C.1 C.2.1 d  w)
theorem yr_i2l {x : Int32} (d : decode cc pc = .ok (.i2l, 1)) (k : yT PS ZP K B l F own ini cc nL ret mc ms rc rs (pc + 1) ls (.long x.toInt64 :: st) h) : yT PS ZP K B l F own ini cc nL ret mc ms rc rs pc ls (.int x :: st) h :=
  yT.go k (fun _ _ _ _ _ _ _ _ _ _ _ _ _ _ C I w => lv_i2l C.1 C.2.1 d rfl w)
theorem yr_dup {v : Value} (d : decode cc pc = .ok (.dup, 1)) (hv : v.category = 1) (k : yT PS ZP K B l F own ini cc nL ret mc ms rc rs (pc + 1) ls (v :: v :: st) h) : yT PS ZP K B l F own ini cc nL ret mc ms rc rs pc ls (v :: st) h :=
  yT.go k (fun _ _ _ _ _ _ _ _ _ _ _ _ _ _ C I w => lv_dup C.1 C.2.1 d hv w)
theorem yr_goto {off : Int} {tgt : Nat} (d : decode cc pc = .ok (.goto off, 3)) (ht : (pc : Int) + off = (tgt : Int)) (k : yT PS ZP K B l F own ini cc nL ret mc ms rc rs tgt ls st h) : yT PS ZP K B l F own ini cc nL ret mc ms rc rs pc ls st h :=
  yT.go k (fun _ _ _ _ _ _ _ _ _ _ _ _ _ _ C I w => lv_goto C.1 C.2.1 d ht w)
theorem yr_ifeq {x : Int32} {off : Int} {tgt : Nat} (d : decode cc pc = .ok (.ifCond .eq off, 3)) (ht : (pc : Int) + off = (tgt : Int)) (kt : x = 0 → yT PS ZP K B l F own ini cc nL ret mc ms rc rs tgt ls st h) (kf : ¬ x = 0 → yT PS ZP K B l F own ini cc nL ret mc ms rc rs (pc + 3) ls st h) : yT PS ZP K B l F own ini cc nL ret mc ms rc rs pc ls (.int x :: st) h := by
  intro p e s m args below meth c H locs cells slots L zP C I
  exact lv_if_eq C.1 C.2.1 d ht (fun q => kt q p e s m args below meth c H locs cells slots L zP C I) (fun q => kf q p e s m args below meth c H locs cells slots L zP C I)
theorem yr_ifne {x : Int32} {off : Int} {tgt : Nat} (d : decode cc pc = .ok (.ifCond .ne off, 3)) (ht : (pc : Int) + off = (tgt : Int)) (kt : ¬ x = 0 → yT PS ZP K B l F own ini cc nL ret mc ms rc rs tgt ls st h) (kf : x = 0 → yT PS ZP K B l F own ini cc nL ret mc ms rc rs (pc + 3) ls st h) : yT PS ZP K B l F own ini cc nL ret mc ms rc rs pc ls (.int x :: st) h := by
  intro p e s m args below meth c H locs cells slots L zP C I
  exact lv_if_ne C.1 C.2.1 d ht (fun q => kt q p e s m args below meth c H locs cells slots L zP C I) (fun q => kf q p e s m args below meth c H locs cells slots L zP C I)
theorem yr_icmpeq {x y : Int32} {off : Int} {tgt : Nat} (d : decode cc pc = .ok (.if_icmp .eq off, 3)) (ht : (pc : Int) + off = (tgt : Int)) (kt : x = y → yT PS ZP K B l F own ini cc nL ret mc ms rc rs tgt ls st h) (kf : ¬ x = y → yT PS ZP K B l F own ini cc nL ret mc ms rc rs (pc + 3) ls st h) : yT PS ZP K B l F own ini cc nL ret mc ms rc rs pc ls (.int y :: .int x :: st) h := by
  intro p e s m args below meth c H locs cells slots L zP C I
  exact lv_icmp_eq C.1 C.2.1 d ht (fun q => kt q p e s m args below meth c H locs cells slots L zP C I) (fun q => kf q p e s m args below meth c H locs cells slots L zP C I)
theorem yr_icmpgt {x y : Int32} {off : Int} {tgt : Nat} (d : decode cc pc = .ok (.if_icmp .gt off, 3)) (ht : (pc : Int) + off = (tgt : Int)) (kt : y < x → yT PS ZP K B l F own ini cc nL ret mc ms rc rs tgt ls st h) (kf : ¬ y < x → yT PS ZP K B l F own ini cc nL ret mc ms rc rs (pc + 3) ls st h) : yT PS ZP K B l F own ini cc nL ret mc ms rc rs pc ls (.int y :: .int x :: st) h := by
  intro p e s m args below meth c H locs cells slots L zP C I
  exact lv_icmp_gt C.1 C.2.1 d ht (fun q => kt q p e s m args below meth c H locs cells slots L zP C I) (fun q => kf q p e s m args below meth c H locs cells slots L zP C I)
theorem yr_tabOut {dflt lo hi : Int} {offs : Array Int} {len : Nat} {x : Int32} {tgt : Nat} (d : decode cc pc = .ok (.tableswitch dflt lo hi offs, len)) (hx : x.toInt < lo ∨ hi < x.toInt) (ht : (pc : Int) + dflt = (tgt : Int)) (k : yT PS ZP K B l F own ini cc nL ret mc ms rc rs tgt ls st h) : yT PS ZP K B l F own ini cc nL ret mc ms rc rs pc ls (.int x :: st) h :=
  yT.go k (fun _ _ _ _ _ _ _ _ _ _ _ _ _ _ C I w => lv_tableOut C.1 C.2.1 d hx ht w)
theorem yr_tabIn {dflt lo hi : Int} {offs : Array Int} {len : Nat} {x : Int32} {off : Int} {tgt : Nat} (d : decode cc pc = .ok (.tableswitch dflt lo hi offs, len)) (h1 : ¬ x.toInt < lo) (h2 : ¬ hi < x.toInt) (ho : offs[(x.toInt - lo).toNat]? = some off) (ht : (pc : Int) + off = (tgt : Int)) (k : yT PS ZP K B l F own ini cc nL ret mc ms rc rs tgt ls st h) : yT PS ZP K B l F own ini cc nL ret mc ms rc rs pc ls (.int x :: st) h :=
  yT.go k (fun _ _ _ _ _ _ _ _ _ _ _ _ _ _ C I w => lv_tableIn C.1 C.2.1 d h1 h2 ho ht w)
theorem yr_lcmp {x y : Int64} (d : decode cc pc = .ok (.lcmp, 1)) (k : yT PS ZP K B l F own ini cc nL ret mc ms rc rs (pc + 1) ls (.int (lg_cmp x y) :: st) h) : yT PS ZP K B l F own ini cc nL ret mc ms rc rs pc ls (.long y :: .long x :: st) h :=
  yT.go k (fun _ _ _ _ _ _ _ _ _ _ _ _ _ _ C I w => W.lcmp C.1 C.2.1 d  w)
end YT
section YC
variable {PS : State → Code → Prop} {ZP : List Frame → Array Value → State → State → Prop} {K : xK} {B : Nat} {l : Launch} {F F' : Nat} {own : String} {ini : Bool} {cc : ByteArray} {nL : Nat} {ret : Option FieldType} {mc ms rc rs rc' rs' mc' ms' : Nat} {Q' : Option Value → xH → Prop} {pc index : Nat} {ls : List (Option Value)} {st rest av : List Value} {h h1 : xH} {M : xM} {a : Nat}
theorem yr_get {a ci index k : Nat} {fs : List Value} {v : Value} {ty : FieldType} {fin : Bool} (ha : h.2 a = some (.inr (ci, fs))) (lk : xLf own index ci k ty fin) (hv : fs[k]? = some v) (d : decode cc pc = .ok (.getfield index, 3)) (kk : yT PS ZP K B l F own ini cc nL ret mc ms rc rs (pc + 3) ls (v :: st) h) : yT PS ZP K B l F own ini cc nL ret mc ms rc rs pc ls (.ref a :: st) h := by
  intro p e s m args below meth c H locs cells slots L zP C I
  obtain ⟨Cn, T, N, ty0, ⟨c1, c2, c3, c4⟩, hk, hl, -⟩ := lk
  rcases hl with hl | ⟨-, host, hl⟩
  · exact va_get C.1 C.2.1 (Ts := xW) (fun w hw => C.A.use hw) c2 C.own C.K (I.1.one ha) 0 rfl c1 k hk (C.A.use hl) (fun _ q => q) hv d (kk p e s m args below meth c H locs cells slots L zP C I)
  · exact va_getN C.1 C.2.1 (Ts := xW) (fun w hw => C.A.use hw) c2 C.own C.K (I.1.one ha) 0 rfl c1 k hk (C.A.use hl) (fun _ q => q) hv d (kk p e s m args below meth c H locs cells slots L zP C I)
theorem yr_lald {a n j : Nat} {f : Nat → Int64} {i : Int32} (ha : h.2 a = some (.inl (K.2 2, n, .inr (.inl f)))) (hx : xix i n j) (d : decode cc pc = .ok (.laload, 1)) (kk : yT PS ZP K B l F own ini cc nL ret mc ms rc rs (pc + 1) ls (.long (f j) :: st) h) : yT PS ZP K B l F own ini cc nL ret mc ms rc rs pc ls (.int i :: .ref a :: st) h := by
  intro p e s m args below meth c H locs cells slots L zP C I
  obtain ⟨hx, rfl⟩ := hx
  exact va_lald C.1 C.2.1 C.K (I.1.one ha) 0 2 rfl rfl hx d (kk p e s m args below meth c H locs cells slots L zP C I)
theorem yr_last {a n j : Nat} {f : Nat → Int64} {i : Int32} {x : Int64} (ha : h.2 a = some (.inl (K.2 2, n, .inr (.inl f)))) (hx : xix i n j) (d : decode cc pc = .ok (.lastore, 1)) (kk : yT PS ZP K B l F own ini cc nL ret mc ms rc rs (pc + 1) ls st (xup h a (.inl (K.2 2, n, .inr (.inl (vp_updL f j x)))))) : yT PS ZP K B l F own ini cc nL ret mc ms rc rs pc ls (.long x :: .int i :: .ref a :: st) h := by
  intro p e s m args below meth c H locs cells slots L zP C I
  obtain ⟨hx, rfl⟩ := hx
  have hP := I.1.one ha
  refine W.last C.1 C.2.1 (hP 0 _ rfl) ((C.K.2 2 _ rfl).1 n (fun j => .long (f j))) (fun q => by cases q) (by show ¬ (i < 0 ∨ (arrV _ _ _).slots.size ≤ _); rw [arrV_size]; exact hx) rfl rfl d fun H1 e9 z oq => ?_
  refine kk p e s m args below meth c H1 _ cells slots L zP C (I.up ha ?_ z oq)
  show H1[a]? = some (vp_cell _ _)
  rw [e9, vp_cell_l, vp_cell_l, arrV_store]
  congr 2
  funext q
  by_cases hq : q = i.toNatClampNeg
  · subst hq
    simp [updV, vp_updL]
  · simp [updV, vp_updL, hq]
theorem yr_new {ci index N : Nat} {Cn : String} {T : u_T} {ty0 : Nat → FieldType} {fs : List Value} (hc : xCl ci Cn T N ty0) (h1 : Cond.classLink own index Cn ∈ xW) (h2 : Cond.instantiable Cn N ∈ xW) (h3 : Cond.initialized Cn ∈ xW) (hfs : ∀ j, j < N → defaultValue (ty0 j) = vp_V fs j) (hrc : rc' + 1 = rc) (hrs : rs' + N = rs) (d : decode cc pc = .ok (.new index, 3)) (kk : yT PS ZP K B l F own ini cc nL ret mc ms rc' rs' (pc + 3) ls (.ref h.1 :: st) (xnew h (.inr (ci, fs)))) : yT PS ZP K B l F own ini cc nL ret mc ms rc rs pc ls st h := by
  intro p e s m args below meth c H locs cells slots L zP C I
  have hts : ∀ w ∈ xW, w.before args s = true := fun w hw => C.A.use hw
  have hKn := C.K.1 ci _ hc.1
  have hb := I.2.2.2.2
  have hsz := I.1.1
  refine W.newcK C.1 C.2.1 C.own (hts _ h1) (hts _ h2) (hts _ h3) rfl d (by show cells + 1 ≤ mc; omega) (by show slots + N ≤ ms; omega) hKn.2.1 rfl fun H1 kC hkC e1 z1 o1 => ?_
  have k := kk p e s m args below meth c H1 locs (cells + 1) (slots + N) L zP C (I.new hrc hrs ⟨_, hc.1, (u_born ty0 hts hc.2.1 hKn hkC e1 hc.2.2.1).to hfs⟩ z1 o1)
  rw [← hsz] at k
  exact k
theorem yr_newl {n : Int32} {N : Nat} (hw : Cond.arrayClass .long ∈ xW) (hn : ¬ n < 0) (hN : n.toNatClampNeg = N) (hby : N ≤ 10000) (hrc : rc' + 1 = rc) (hrs : rs' + N = rs) (d : decode cc pc = .ok (.newarray .long, 2)) (kk : yT PS ZP K B l F own ini cc nL ret mc ms rc' rs' (pc + 2) ls (.ref h.1 :: st) (xnew h (.inl (K.2 2, N, .inr (.inl (fun _ => 0)))))) : yT PS ZP K B l F own ini cc nL ret mc ms rc rs pc ls (.int n :: st) h := by
  intro p e s m args below meth c H locs cells slots L zP C I
  have hts : ∀ w ∈ xW, w.before args s = true := fun w hw => C.A.use hw
  have hb := I.2.2.2.2
  have hsz := I.1.1
  refine va_newaK (atype := .long) C.1 C.2.1 (hts _ hw) rfl d rfl hn hN (by show N * _ ≤ _; simp only [newarray.typeOf, componentBytes]; omega) (by show cells + 1 ≤ mc; omega) (by show slots + N ≤ ms; omega) rfl fun H1 cA e1 z1 o1 hAr hNm => ?_
  have hcA : cA = K.2 2 := by
    have h9 := (C.K.2 2 _ rfl).2
    exact Option.some.inj (hNm.symm.trans h9)
  subst hcA
  have k := kk p e s m args below meth c H1 locs (cells + 1) (slots + N) L zP C (I.new hrc hrs (by exact e1) z1 o1)
  rw [← hsz] at k
  exact k
theorem yr_after {p : Program} {e : Env} {s : State} {m : MethodId} {args : Array Value} {below : List Frame} {meth : Method} {c : Code} {H : Heap} {locs : List Loc} {cells slots : Nat} {L : Array Slot} {aa : Array Value} (zP : PS s c) (C : xC K own ini cc nL ret p s m meth c) (I : xI K B mc ms rc rs nL s H locs cells slots ls L h) (hrc : mc' + rc' = rc) (hrs : ms' + rs' = rs)
    (hr : va_Run p l e (xRoom F mc ms) s m args below meth c H locs cells slots mc' ms' (F0 m pc L st) rest (xQc K B Q' aa) (fun q => B ≤ q))
    (kk : ∀ (r : Option Value) (g : xH), Q' r g → yT PS ZP K B l F own ini cc nL ret mc ms rc' rs' (pc + 3) ls (r.toList ++ rest) g) : W p l e (xRoom F mc ms) s m args below meth c H locs cells slots (ZP below args s) (F0 m pc L st) := by
  intro T hT X
  obtain ⟨v, st₀, t, T', L', h0, X', hL, e1, e2, ⟨r, g, hv, hq, hR, hz, hk⟩, stp⟩ := hr T hT X
  cases hv
  rw [h0] at hz hk
  obtain ⟨i1, i2, i3, i4, i5, i6⟩ := I
  obtain ⟨t2, a1, b1⟩ := kk v g hq p e s m args below meth c T'.heap (locs ++ L') (cells + mc') (slots + ms') L zP C ⟨by rw [e1]; exact hR, ⟨by rw [e1]; omega, fun q hq' => by rw [e1, hk q hq']; exact i2.2 q hq'⟩, fun q hq' => (List.mem_append.mp hq').elim (i3 q) (hL q), i4, by omega, by omega⟩ T' rfl X'
  exact ⟨t2, stp t2 a1, b1⟩
theorem yr_callV (hS : xV K B l F' M mc' ms' a av h Q') (lk : xLk own index M.1) (hF : F' + 1 ≤ F) (hst : st = av.reverse ++ .ref a :: rest) (hrm : (rest.map fun v => v.category).sum ≤ 8) (hrc : mc' + rc' = rc) (hrs : ms' + rs' = rs) (d : decode cc pc = .ok (.invokevirtual index, 3))
    (kk : ∀ (r : Option Value) (g : xH), Q' r g → yT PS ZP K B l F own ini cc nL ret mc ms rc' rs' (pc + 3) ls (r.toList ++ rest) g) : yT PS ZP K B l F own ini cc nL ret mc ms rc rs pc ls st h := by
  intro p e s m args below meth c H locs cells slots L zP C I
  obtain ⟨⟨ci, fs, T, N, hv, hci⟩, ⟨⟨m1, m2, m3, m4, m5⟩, m6, m7⟩, hM⟩ := hS
  have hA := C.A
  have hb := I.2.2.2.2
  have hcode : (Cond.code M.1 M.2.1 M.2.2.1 M.2.2.2).before args s = true := hA.use m1
  have hpre : PreV s H M.1.cls a (xP K B (.ref a :: av) h) av := by
    refine ⟨xP.blind, ?_, fun U hU hW => ⟨rfl, hA.warm hW, va_K.moved hW.alike C.K, by rw [hU]; exact I.1⟩⟩
    exact va_recv C.K (I.1.one hv) (ci := ci) (q0 := 0) hci rfl
  have hlen : ∀ sig, parseMethodDescriptor M.1.desc = some sig → av.length = sig.parameters.length := fun sig hsig => by
    rw [hsig] at m4
    exact (Option.some.inj m4).symm
  have hws : ∀ w ∈ [Cond.code M.1 M.2.1 M.2.2.1 M.2.2.2], ∀ (a' : Array Value) (U : State), s.WarmedH U.vm → w.before a' U = true := fun w hw a' U hW => by
    rw [List.mem_singleton.mp hw]
    exact xw_at (xok_of m1) hW (hA _ m1)
  have hlo : 8 + (M.2.2.1 + 11) + (xRoom F' mc' ms').locals ≤ (xRoom F mc ms).locals := by
    show 8 + (M.2.2.1 + 11) + 64 * F' ≤ 64 * F
    omega
  refine yr_after (aa := (Value.ref a :: av).toArray) zP C I hrc hrs ?_ kk
  rcases lk with lk | ⟨host, lk⟩
  · exact va_runV (Ts := xW) ⟨C.1, C.2.1, C.2.2.1, C.own, fun w hw => hA.use hw⟩ hM ⟨⟨rfl, rfl, hF, hlo, hws, List.mem_cons_self, hcode, hA.use m2, m3, hlen, hA.use lk⟩, hA.use m6, hA.use m7⟩ hpre rfl rfl I.2.2.2.1.1 hst (lv_room hrm) d ⟨by show cells + mc' ≤ mc; omega, by show slots + ms' ≤ ms; omega⟩
  · exact va_runVN (Ts := xW) ⟨C.1, C.2.1, C.2.2.1, C.own, fun w hw => hA.use hw⟩ hM ⟨⟨⟨rfl, rfl, hF, hlo, hws, List.mem_cons_self⟩, hcode, hA.use m2, m3, hlen, hA.use lk⟩, hA.use m6, hA.use m7⟩ hpre rfl rfl I.2.2.2.1.1 hst (lv_room hrm) d ⟨by show cells + mc' ≤ mc; omega, by show slots + ms' ≤ ms; omega⟩
theorem yr_callI (hS : xN K B l F' M mc' ms' a av h Q') (lk : xLk own index M.1) (hF : F' + 1 ≤ F) (hst : st = av.reverse ++ .ref a :: rest) (hrm : (rest.map fun v => v.category).sum ≤ 8) (hrc : mc' + rc' = rc) (hrs : ms' + rs' = rs) (d : decode cc pc = .ok (.invokespecial index, 3))
    (kk : ∀ (r : Option Value) (g : xH), Q' r g → yT PS ZP K B l F own ini cc nL ret mc ms rc' rs' (pc + 3) ls (r.toList ++ rest) g) : yT PS ZP K B l F own ini cc nL ret mc ms rc rs pc ls st h := by
  intro p e s m args below meth c H locs cells slots L zP C I
  obtain ⟨⟨⟨m1, m2, m3, m4, m5⟩, m6, m7, m8⟩, hM⟩ := hS
  obtain ⟨y, bytes, maxL, rt⟩ := M
  dsimp only at m8
  subst m8
  have hA := C.A
  have hb := I.2.2.2.2
  have hcode : (Cond.code y bytes maxL none).before args s = true := hA.use m1
  have hpre : PreS s H (xP K B (.ref a :: av) h) (.ref a :: av) := ⟨xP.blind, fun U hU hW => ⟨rfl, hA.warm hW, va_K.moved hW.alike C.K, by rw [hU]; exact I.1⟩⟩
  have hlen : ∀ sig, parseMethodDescriptor y.desc = some sig → av.length = sig.parameters.length := fun sig hsig => by
    dsimp only at m4
    rw [hsig] at m4
    exact (Option.some.inj m4).symm
  have hws : ∀ w ∈ [Cond.code y bytes maxL none], ∀ (a' : Array Value) (U : State), s.WarmedH U.vm → w.before a' U = true := fun w hw a' U hW => by
    rw [List.mem_singleton.mp hw]
    exact xw_at (xok_of m1) hW (hA _ m1)
  have hlo : 8 + (maxL + 11) + (xRoom F' mc' ms').locals ≤ (xRoom F mc ms).locals := by
    show 8 + (maxL + 11) + 64 * F' ≤ 64 * F
    dsimp only at m5
    omega
  refine yr_after (aa := (Value.ref a :: av).toArray) zP C I hrc hrs ?_ kk
  rcases lk with lk | ⟨host, lk⟩
  · exact va_runI (Ts := xW) ⟨C.1, C.2.1, C.2.2.1, C.own, fun w hw => hA.use hw⟩ hM ⟨⟨rfl, rfl, hF, hlo, hws, List.mem_cons_self, hcode, hA.use m2, m3, hlen, hA.use lk⟩, m7, hA.use m6⟩ hpre rfl rfl I.2.2.2.1.1 hst (lv_room hrm) d ⟨by show cells + mc' ≤ mc; omega, by show slots + ms' ≤ ms; omega⟩
  · exact va_runIN (Ts := xW) ⟨C.1, C.2.1, C.2.2.1, C.own, fun w hw => hA.use hw⟩ hM ⟨⟨⟨rfl, rfl, hF, hlo, hws, List.mem_cons_self⟩, hcode, hA.use m2, m3, hlen, hA.use lk⟩, m7, hA.use m6⟩ hpre rfl rfl I.2.2.2.1.1 hst (lv_room hrm) d ⟨by show cells + mc' ≤ mc; omega, by show slots + ms' ≤ ms; omega⟩
theorem yr_Vi1 {v1 : Value} {r : Int32} (hS : xV K B l F' M mc' ms' a [v1] h (xQi r h1)) (lk : xLk own index M.1) (hF : F' + 1 ≤ F) (hrm : (st.map fun v => v.category).sum ≤ 8) (hrc : mc' + rc' = rc) (hrs : ms' + rs' = rs) (d : decode cc pc = .ok (.invokevirtual index, 3)) (k : yT PS ZP K B l F own ini cc nL ret mc ms rc' rs' (pc + 3) ls (.int r :: st) h1) : yT PS ZP K B l F own ini cc nL ret mc ms rc rs pc ls (v1 :: .ref a :: st) h :=
  yr_callV hS lk hF rfl hrm hrc hrs d (fun r g q => by obtain ⟨rfl, rfl⟩ := q; exact k)
theorem yr_Vi2 {v1 v2 : Value} {r : Int32} (hS : xV K B l F' M mc' ms' a [v1, v2] h (xQi r h1)) (lk : xLk own index M.1) (hF : F' + 1 ≤ F) (hrm : (st.map fun v => v.category).sum ≤ 8) (hrc : mc' + rc' = rc) (hrs : ms' + rs' = rs) (d : decode cc pc = .ok (.invokevirtual index, 3)) (k : yT PS ZP K B l F own ini cc nL ret mc ms rc' rs' (pc + 3) ls (.int r :: st) h1) : yT PS ZP K B l F own ini cc nL ret mc ms rc rs pc ls (v2 :: v1 :: .ref a :: st) h :=
  yr_callV hS lk hF rfl hrm hrc hrs d (fun r g q => by obtain ⟨rfl, rfl⟩ := q; exact k)
theorem yr_Vl1 {v1 : Value} {r : Int64} (hS : xV K B l F' M mc' ms' a [v1] h (xQl r h1)) (lk : xLk own index M.1) (hF : F' + 1 ≤ F) (hrm : (st.map fun v => v.category).sum ≤ 8) (hrc : mc' + rc' = rc) (hrs : ms' + rs' = rs) (d : decode cc pc = .ok (.invokevirtual index, 3)) (k : yT PS ZP K B l F own ini cc nL ret mc ms rc' rs' (pc + 3) ls (.long r :: st) h1) : yT PS ZP K B l F own ini cc nL ret mc ms rc rs pc ls (v1 :: .ref a :: st) h :=
  yr_callV hS lk hF rfl hrm hrc hrs d (fun r g q => by obtain ⟨rfl, rfl⟩ := q; exact k)
theorem yr_Vpi0 {P : Int32 → xH → Prop} (hS : xV K B l F' M mc' ms' a [] h (xPi P)) (lk : xLk own index M.1) (hF : F' + 1 ≤ F) (hrm : (st.map fun v => v.category).sum ≤ 8) (hrc : mc' + rc' = rc) (hrs : ms' + rs' = rs) (d : decode cc pc = .ok (.invokevirtual index, 3)) (k : ∀ (v : Int32) (g : xH), P v g → yT PS ZP K B l F own ini cc nL ret mc ms rc' rs' (pc + 3) ls (.int v :: st) g) : yT PS ZP K B l F own ini cc nL ret mc ms rc rs pc ls (.ref a :: st) h :=
  yr_callV hS lk hF rfl hrm hrc hrs d (fun r g q => by obtain ⟨v, rfl, q⟩ := q; exact k v g q)
theorem yr_Vpi1 {v1 : Value} {P : Int32 → xH → Prop} (hS : xV K B l F' M mc' ms' a [v1] h (xPi P)) (lk : xLk own index M.1) (hF : F' + 1 ≤ F) (hrm : (st.map fun v => v.category).sum ≤ 8) (hrc : mc' + rc' = rc) (hrs : ms' + rs' = rs) (d : decode cc pc = .ok (.invokevirtual index, 3)) (k : ∀ (v : Int32) (g : xH), P v g → yT PS ZP K B l F own ini cc nL ret mc ms rc' rs' (pc + 3) ls (.int v :: st) g) : yT PS ZP K B l F own ini cc nL ret mc ms rc rs pc ls (v1 :: .ref a :: st) h :=
  yr_callV hS lk hF rfl hrm hrc hrs d (fun r g q => by obtain ⟨v, rfl, q⟩ := q; exact k v g q)
theorem yr_Vpi2 {v1 v2 : Value} {P : Int32 → xH → Prop} (hS : xV K B l F' M mc' ms' a [v1, v2] h (xPi P)) (lk : xLk own index M.1) (hF : F' + 1 ≤ F) (hrm : (st.map fun v => v.category).sum ≤ 8) (hrc : mc' + rc' = rc) (hrs : ms' + rs' = rs) (d : decode cc pc = .ok (.invokevirtual index, 3)) (k : ∀ (v : Int32) (g : xH), P v g → yT PS ZP K B l F own ini cc nL ret mc ms rc' rs' (pc + 3) ls (.int v :: st) g) : yT PS ZP K B l F own ini cc nL ret mc ms rc rs pc ls (v2 :: v1 :: .ref a :: st) h :=
  yr_callV hS lk hF rfl hrm hrc hrs d (fun r g q => by obtain ⟨v, rfl, q⟩ := q; exact k v g q)
theorem yr_Vpi3 {v1 v2 v3 : Value} {P : Int32 → xH → Prop} (hS : xV K B l F' M mc' ms' a [v1, v2, v3] h (xPi P)) (lk : xLk own index M.1) (hF : F' + 1 ≤ F) (hrm : (st.map fun v => v.category).sum ≤ 8) (hrc : mc' + rc' = rc) (hrs : ms' + rs' = rs) (d : decode cc pc = .ok (.invokevirtual index, 3)) (k : ∀ (v : Int32) (g : xH), P v g → yT PS ZP K B l F own ini cc nL ret mc ms rc' rs' (pc + 3) ls (.int v :: st) g) : yT PS ZP K B l F own ini cc nL ret mc ms rc rs pc ls (v3 :: v2 :: v1 :: .ref a :: st) h :=
  yr_callV hS lk hF rfl hrm hrc hrs d (fun r g q => by obtain ⟨v, rfl, q⟩ := q; exact k v g q)
theorem yr_Vpi4 {v1 v2 v3 v4 : Value} {P : Int32 → xH → Prop} (hS : xV K B l F' M mc' ms' a [v1, v2, v3, v4] h (xPi P)) (lk : xLk own index M.1) (hF : F' + 1 ≤ F) (hrm : (st.map fun v => v.category).sum ≤ 8) (hrc : mc' + rc' = rc) (hrs : ms' + rs' = rs) (d : decode cc pc = .ok (.invokevirtual index, 3)) (k : ∀ (v : Int32) (g : xH), P v g → yT PS ZP K B l F own ini cc nL ret mc ms rc' rs' (pc + 3) ls (.int v :: st) g) : yT PS ZP K B l F own ini cc nL ret mc ms rc rs pc ls (v4 :: v3 :: v2 :: v1 :: .ref a :: st) h :=
  yr_callV hS lk hF rfl hrm hrc hrs d (fun r g q => by obtain ⟨v, rfl, q⟩ := q; exact k v g q)
theorem yr_Vpl1 {v1 : Value} {P : Int64 → xH → Prop} (hS : xV K B l F' M mc' ms' a [v1] h (xPl P)) (lk : xLk own index M.1) (hF : F' + 1 ≤ F) (hrm : (st.map fun v => v.category).sum ≤ 8) (hrc : mc' + rc' = rc) (hrs : ms' + rs' = rs) (d : decode cc pc = .ok (.invokevirtual index, 3)) (k : ∀ (v : Int64) (g : xH), P v g → yT PS ZP K B l F own ini cc nL ret mc ms rc' rs' (pc + 3) ls (.long v :: st) g) : yT PS ZP K B l F own ini cc nL ret mc ms rc rs pc ls (v1 :: .ref a :: st) h :=
  yr_callV hS lk hF rfl hrm hrc hrs d (fun r g q => by obtain ⟨v, rfl, q⟩ := q; exact k v g q)
theorem yr_Ipv0 {P : xH → Prop} (hS : xN K B l F' M mc' ms' a [] h (xPv P)) (lk : xLk own index M.1) (hF : F' + 1 ≤ F) (hrm : (st.map fun v => v.category).sum ≤ 8) (hrc : mc' + rc' = rc) (hrs : ms' + rs' = rs) (d : decode cc pc = .ok (.invokespecial index, 3)) (k : ∀ (g : xH), P g → yT PS ZP K B l F own ini cc nL ret mc ms rc' rs' (pc + 3) ls (st) g) : yT PS ZP K B l F own ini cc nL ret mc ms rc rs pc ls (.ref a :: st) h :=
  yr_callI hS lk hF rfl hrm hrc hrs d (fun r g q => by obtain ⟨rfl, q⟩ := q; exact k g q)
end YC
