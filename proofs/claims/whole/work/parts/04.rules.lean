/-! Rules of the logic, one for each instruction (written by wip/whole/gen04.py) -/
section XR
variable {K : xK} {B : Nat} {l : Launch} {F : Nat} {own : String} {ini : Bool} {cc : ByteArray} {nL : Nat} {ret : Option FieldType} {mc ms rc rs : Nat} {Q : Option Value → xH → Prop} {pc : Nat} {ls tl : List (Option Value)} {st : List Value} {h : xH}
theorem xr_icm1 (d : decode cc pc = .ok (.iconst (-1), 1)) (k : xT K B l F own ini cc nL ret mc ms rc rs Q (pc + 1) ls (.int (-1) :: st) h) : xT K B l F own ini cc nL ret mc ms rc rs Q pc ls (st) h :=
  xT.go k (fun _ _ _ _ _ _ _ _ _ _ _ _ _ _ C I w => lv_iconst C.1 C.2.1 d (by decide) w)
theorem xr_ic0 (d : decode cc pc = .ok (.iconst 0, 1)) (k : xT K B l F own ini cc nL ret mc ms rc rs Q (pc + 1) ls (.int 0 :: st) h) : xT K B l F own ini cc nL ret mc ms rc rs Q pc ls (st) h :=
  xT.go k (fun _ _ _ _ _ _ _ _ _ _ _ _ _ _ C I w => lv_iconst C.1 C.2.1 d (by decide) w)
theorem xr_ic1 (d : decode cc pc = .ok (.iconst 1, 1)) (k : xT K B l F own ini cc nL ret mc ms rc rs Q (pc + 1) ls (.int 1 :: st) h) : xT K B l F own ini cc nL ret mc ms rc rs Q pc ls (st) h :=
  xT.go k (fun _ _ _ _ _ _ _ _ _ _ _ _ _ _ C I w => lv_iconst C.1 C.2.1 d (by decide) w)
theorem xr_ic2 (d : decode cc pc = .ok (.iconst 2, 1)) (k : xT K B l F own ini cc nL ret mc ms rc rs Q (pc + 1) ls (.int 2 :: st) h) : xT K B l F own ini cc nL ret mc ms rc rs Q pc ls (st) h :=
  xT.go k (fun _ _ _ _ _ _ _ _ _ _ _ _ _ _ C I w => lv_iconst C.1 C.2.1 d (by decide) w)
theorem xr_ic3 (d : decode cc pc = .ok (.iconst 3, 1)) (k : xT K B l F own ini cc nL ret mc ms rc rs Q (pc + 1) ls (.int 3 :: st) h) : xT K B l F own ini cc nL ret mc ms rc rs Q pc ls (st) h :=
  xT.go k (fun _ _ _ _ _ _ _ _ _ _ _ _ _ _ C I w => lv_iconst C.1 C.2.1 d (by decide) w)
theorem xr_ic4 (d : decode cc pc = .ok (.iconst 4, 1)) (k : xT K B l F own ini cc nL ret mc ms rc rs Q (pc + 1) ls (.int 4 :: st) h) : xT K B l F own ini cc nL ret mc ms rc rs Q pc ls (st) h :=
  xT.go k (fun _ _ _ _ _ _ _ _ _ _ _ _ _ _ C I w => lv_iconst C.1 C.2.1 d (by decide) w)
theorem xr_ic5 (d : decode cc pc = .ok (.iconst 5, 1)) (k : xT K B l F own ini cc nL ret mc ms rc rs Q (pc + 1) ls (.int 5 :: st) h) : xT K B l F own ini cc nL ret mc ms rc rs Q pc ls (st) h :=
  xT.go k (fun _ _ _ _ _ _ _ _ _ _ _ _ _ _ C I w => lv_iconst C.1 C.2.1 d (by decide) w)
theorem xr_bipush {n : Int} {v : Int32} (d : decode cc pc = .ok (.bipush n, 2)) (hv : (Int8.ofInt n).toInt32 = v) (k : xT K B l F own ini cc nL ret mc ms rc rs Q (pc + 2) ls (.int v :: st) h) : xT K B l F own ini cc nL ret mc ms rc rs Q pc ls (st) h :=
  xT.go k (fun _ _ _ _ _ _ _ _ _ _ _ _ _ _ C I w => lv_bipush C.1 C.2.1 d hv w)
theorem xr_sipush {n : Int} {v : Int32} (d : decode cc pc = .ok (.sipush n, 3)) (hv : (Int16.ofInt n).toInt32 = v) (k : xT K B l F own ini cc nL ret mc ms rc rs Q (pc + 3) ls (.int v :: st) h) : xT K B l F own ini cc nL ret mc ms rc rs Q pc ls (st) h :=
  xT.go k (fun _ _ _ _ _ _ _ _ _ _ _ _ _ _ C I w => lv_sipush C.1 C.2.1 d hv w)
theorem xr_lc0 (d : decode cc pc = .ok (.lconst 0, 1)) (k : xT K B l F own ini cc nL ret mc ms rc rs Q (pc + 1) ls (.long 0 :: st) h) : xT K B l F own ini cc nL ret mc ms rc rs Q pc ls (st) h :=
  xT.go k (fun _ _ _ _ _ _ _ _ _ _ _ _ _ _ C I w => lv_lconst C.1 C.2.1 d (by decide) w)
theorem xr_lc1 (d : decode cc pc = .ok (.lconst 1, 1)) (k : xT K B l F own ini cc nL ret mc ms rc rs Q (pc + 1) ls (.long 1 :: st) h) : xT K B l F own ini cc nL ret mc ms rc rs Q pc ls (st) h :=
  xT.go k (fun _ _ _ _ _ _ _ _ _ _ _ _ _ _ C I w => lv_lconst C.1 C.2.1 d (by decide) w)
theorem xr_il0 {x : Int32} (d : decode cc pc = .ok (.iload_n 0, 1)) (k : xT K B l F own ini cc nL ret mc ms rc rs Q (pc + 1) (some (.int x) :: tl) (.int x :: st) h) : xT K B l F own ini cc nL ret mc ms rc rs Q pc (some (.int x) :: tl) st h :=
  xT.go k (fun _ _ _ _ _ _ _ _ _ _ _ _ _ _ C I w => lv_iload_n C.1 C.2.1 d rfl (I.2.2 0 _ rfl) w)
theorem xr_al0 {x : Nat} (d : decode cc pc = .ok (.aload_n 0, 1)) (k : xT K B l F own ini cc nL ret mc ms rc rs Q (pc + 1) (some (.ref x) :: tl) (.ref x :: st) h) : xT K B l F own ini cc nL ret mc ms rc rs Q pc (some (.ref x) :: tl) st h :=
  xT.go k (fun _ _ _ _ _ _ _ _ _ _ _ _ _ _ C I w => lv_aload_n C.1 C.2.1 d rfl (I.2.2 0 _ rfl) w)
theorem xr_ll0 {x : Int64} (d : decode cc pc = .ok (.lload_n 0, 1)) (k : xT K B l F own ini cc nL ret mc ms rc rs Q (pc + 1) (some (.long x) :: tl) (.long x :: st) h) : xT K B l F own ini cc nL ret mc ms rc rs Q pc (some (.long x) :: tl) st h :=
  xT.go k (fun _ _ _ _ _ _ _ _ _ _ _ _ _ _ C I w => lv_lload_n C.1 C.2.1 d rfl (I.2.2 0 _ rfl) w)
theorem xr_il1 {y0 : Option Value} {x : Int32} (d : decode cc pc = .ok (.iload_n 1, 1)) (k : xT K B l F own ini cc nL ret mc ms rc rs Q (pc + 1) (y0 :: some (.int x) :: tl) (.int x :: st) h) : xT K B l F own ini cc nL ret mc ms rc rs Q pc (y0 :: some (.int x) :: tl) st h :=
  xT.go k (fun _ _ _ _ _ _ _ _ _ _ _ _ _ _ C I w => lv_iload_n C.1 C.2.1 d rfl (I.2.2 1 _ rfl) w)
theorem xr_al1 {y0 : Option Value} {x : Nat} (d : decode cc pc = .ok (.aload_n 1, 1)) (k : xT K B l F own ini cc nL ret mc ms rc rs Q (pc + 1) (y0 :: some (.ref x) :: tl) (.ref x :: st) h) : xT K B l F own ini cc nL ret mc ms rc rs Q pc (y0 :: some (.ref x) :: tl) st h :=
  xT.go k (fun _ _ _ _ _ _ _ _ _ _ _ _ _ _ C I w => lv_aload_n C.1 C.2.1 d rfl (I.2.2 1 _ rfl) w)
theorem xr_ll1 {y0 : Option Value} {x : Int64} (d : decode cc pc = .ok (.lload_n 1, 1)) (k : xT K B l F own ini cc nL ret mc ms rc rs Q (pc + 1) (y0 :: some (.long x) :: tl) (.long x :: st) h) : xT K B l F own ini cc nL ret mc ms rc rs Q pc (y0 :: some (.long x) :: tl) st h :=
  xT.go k (fun _ _ _ _ _ _ _ _ _ _ _ _ _ _ C I w => lv_lload_n C.1 C.2.1 d rfl (I.2.2 1 _ rfl) w)
theorem xr_il2 {y0 y1 : Option Value} {x : Int32} (d : decode cc pc = .ok (.iload_n 2, 1)) (k : xT K B l F own ini cc nL ret mc ms rc rs Q (pc + 1) (y0 :: y1 :: some (.int x) :: tl) (.int x :: st) h) : xT K B l F own ini cc nL ret mc ms rc rs Q pc (y0 :: y1 :: some (.int x) :: tl) st h :=
  xT.go k (fun _ _ _ _ _ _ _ _ _ _ _ _ _ _ C I w => lv_iload_n C.1 C.2.1 d rfl (I.2.2 2 _ rfl) w)
theorem xr_al2 {y0 y1 : Option Value} {x : Nat} (d : decode cc pc = .ok (.aload_n 2, 1)) (k : xT K B l F own ini cc nL ret mc ms rc rs Q (pc + 1) (y0 :: y1 :: some (.ref x) :: tl) (.ref x :: st) h) : xT K B l F own ini cc nL ret mc ms rc rs Q pc (y0 :: y1 :: some (.ref x) :: tl) st h :=
  xT.go k (fun _ _ _ _ _ _ _ _ _ _ _ _ _ _ C I w => lv_aload_n C.1 C.2.1 d rfl (I.2.2 2 _ rfl) w)
theorem xr_ll2 {y0 y1 : Option Value} {x : Int64} (d : decode cc pc = .ok (.lload_n 2, 1)) (k : xT K B l F own ini cc nL ret mc ms rc rs Q (pc + 1) (y0 :: y1 :: some (.long x) :: tl) (.long x :: st) h) : xT K B l F own ini cc nL ret mc ms rc rs Q pc (y0 :: y1 :: some (.long x) :: tl) st h :=
  xT.go k (fun _ _ _ _ _ _ _ _ _ _ _ _ _ _ C I w => lv_lload_n C.1 C.2.1 d rfl (I.2.2 2 _ rfl) w)
theorem xr_il3 {y0 y1 y2 : Option Value} {x : Int32} (d : decode cc pc = .ok (.iload_n 3, 1)) (k : xT K B l F own ini cc nL ret mc ms rc rs Q (pc + 1) (y0 :: y1 :: y2 :: some (.int x) :: tl) (.int x :: st) h) : xT K B l F own ini cc nL ret mc ms rc rs Q pc (y0 :: y1 :: y2 :: some (.int x) :: tl) st h :=
  xT.go k (fun _ _ _ _ _ _ _ _ _ _ _ _ _ _ C I w => lv_iload_n C.1 C.2.1 d rfl (I.2.2 3 _ rfl) w)
theorem xr_al3 {y0 y1 y2 : Option Value} {x : Nat} (d : decode cc pc = .ok (.aload_n 3, 1)) (k : xT K B l F own ini cc nL ret mc ms rc rs Q (pc + 1) (y0 :: y1 :: y2 :: some (.ref x) :: tl) (.ref x :: st) h) : xT K B l F own ini cc nL ret mc ms rc rs Q pc (y0 :: y1 :: y2 :: some (.ref x) :: tl) st h :=
  xT.go k (fun _ _ _ _ _ _ _ _ _ _ _ _ _ _ C I w => lv_aload_n C.1 C.2.1 d rfl (I.2.2 3 _ rfl) w)
theorem xr_ll3 {y0 y1 y2 : Option Value} {x : Int64} (d : decode cc pc = .ok (.lload_n 3, 1)) (k : xT K B l F own ini cc nL ret mc ms rc rs Q (pc + 1) (y0 :: y1 :: y2 :: some (.long x) :: tl) (.long x :: st) h) : xT K B l F own ini cc nL ret mc ms rc rs Q pc (y0 :: y1 :: y2 :: some (.long x) :: tl) st h :=
  xT.go k (fun _ _ _ _ _ _ _ _ _ _ _ _ _ _ C I w => lv_lload_n C.1 C.2.1 d rfl (I.2.2 3 _ rfl) w)
theorem xr_il4 {y0 y1 y2 y3 : Option Value} {x : Int32} (d : decode cc pc = .ok (.iload 4, 2)) (k : xT K B l F own ini cc nL ret mc ms rc rs Q (pc + 2) (y0 :: y1 :: y2 :: y3 :: some (.int x) :: tl) (.int x :: st) h) : xT K B l F own ini cc nL ret mc ms rc rs Q pc (y0 :: y1 :: y2 :: y3 :: some (.int x) :: tl) st h :=
  xT.go k (fun _ _ _ _ _ _ _ _ _ _ _ _ _ _ C I w => lv_iload C.1 C.2.1 d (I.2.2 4 _ rfl) w)
theorem xr_al4 {y0 y1 y2 y3 : Option Value} {x : Nat} (d : decode cc pc = .ok (.aload 4, 2)) (k : xT K B l F own ini cc nL ret mc ms rc rs Q (pc + 2) (y0 :: y1 :: y2 :: y3 :: some (.ref x) :: tl) (.ref x :: st) h) : xT K B l F own ini cc nL ret mc ms rc rs Q pc (y0 :: y1 :: y2 :: y3 :: some (.ref x) :: tl) st h :=
  xT.go k (fun _ _ _ _ _ _ _ _ _ _ _ _ _ _ C I w => lv_aload C.1 C.2.1 d (I.2.2 4 _ rfl) w)
theorem xr_ll4 {y0 y1 y2 y3 : Option Value} {x : Int64} (d : decode cc pc = .ok (.lload 4, 2)) (k : xT K B l F own ini cc nL ret mc ms rc rs Q (pc + 2) (y0 :: y1 :: y2 :: y3 :: some (.long x) :: tl) (.long x :: st) h) : xT K B l F own ini cc nL ret mc ms rc rs Q pc (y0 :: y1 :: y2 :: y3 :: some (.long x) :: tl) st h :=
  xT.go k (fun _ _ _ _ _ _ _ _ _ _ _ _ _ _ C I w => lv_lload C.1 C.2.1 d (I.2.2 4 _ rfl) w)
theorem xr_il5 {y0 y1 y2 y3 y4 : Option Value} {x : Int32} (d : decode cc pc = .ok (.iload 5, 2)) (k : xT K B l F own ini cc nL ret mc ms rc rs Q (pc + 2) (y0 :: y1 :: y2 :: y3 :: y4 :: some (.int x) :: tl) (.int x :: st) h) : xT K B l F own ini cc nL ret mc ms rc rs Q pc (y0 :: y1 :: y2 :: y3 :: y4 :: some (.int x) :: tl) st h :=
  xT.go k (fun _ _ _ _ _ _ _ _ _ _ _ _ _ _ C I w => lv_iload C.1 C.2.1 d (I.2.2 5 _ rfl) w)
theorem xr_al5 {y0 y1 y2 y3 y4 : Option Value} {x : Nat} (d : decode cc pc = .ok (.aload 5, 2)) (k : xT K B l F own ini cc nL ret mc ms rc rs Q (pc + 2) (y0 :: y1 :: y2 :: y3 :: y4 :: some (.ref x) :: tl) (.ref x :: st) h) : xT K B l F own ini cc nL ret mc ms rc rs Q pc (y0 :: y1 :: y2 :: y3 :: y4 :: some (.ref x) :: tl) st h :=
  xT.go k (fun _ _ _ _ _ _ _ _ _ _ _ _ _ _ C I w => lv_aload C.1 C.2.1 d (I.2.2 5 _ rfl) w)
theorem xr_ll5 {y0 y1 y2 y3 y4 : Option Value} {x : Int64} (d : decode cc pc = .ok (.lload 5, 2)) (k : xT K B l F own ini cc nL ret mc ms rc rs Q (pc + 2) (y0 :: y1 :: y2 :: y3 :: y4 :: some (.long x) :: tl) (.long x :: st) h) : xT K B l F own ini cc nL ret mc ms rc rs Q pc (y0 :: y1 :: y2 :: y3 :: y4 :: some (.long x) :: tl) st h :=
  xT.go k (fun _ _ _ _ _ _ _ _ _ _ _ _ _ _ C I w => lv_lload C.1 C.2.1 d (I.2.2 5 _ rfl) w)
theorem xr_il6 {y0 y1 y2 y3 y4 y5 : Option Value} {x : Int32} (d : decode cc pc = .ok (.iload 6, 2)) (k : xT K B l F own ini cc nL ret mc ms rc rs Q (pc + 2) (y0 :: y1 :: y2 :: y3 :: y4 :: y5 :: some (.int x) :: tl) (.int x :: st) h) : xT K B l F own ini cc nL ret mc ms rc rs Q pc (y0 :: y1 :: y2 :: y3 :: y4 :: y5 :: some (.int x) :: tl) st h :=
  xT.go k (fun _ _ _ _ _ _ _ _ _ _ _ _ _ _ C I w => lv_iload C.1 C.2.1 d (I.2.2 6 _ rfl) w)
theorem xr_al6 {y0 y1 y2 y3 y4 y5 : Option Value} {x : Nat} (d : decode cc pc = .ok (.aload 6, 2)) (k : xT K B l F own ini cc nL ret mc ms rc rs Q (pc + 2) (y0 :: y1 :: y2 :: y3 :: y4 :: y5 :: some (.ref x) :: tl) (.ref x :: st) h) : xT K B l F own ini cc nL ret mc ms rc rs Q pc (y0 :: y1 :: y2 :: y3 :: y4 :: y5 :: some (.ref x) :: tl) st h :=
  xT.go k (fun _ _ _ _ _ _ _ _ _ _ _ _ _ _ C I w => lv_aload C.1 C.2.1 d (I.2.2 6 _ rfl) w)
theorem xr_ll6 {y0 y1 y2 y3 y4 y5 : Option Value} {x : Int64} (d : decode cc pc = .ok (.lload 6, 2)) (k : xT K B l F own ini cc nL ret mc ms rc rs Q (pc + 2) (y0 :: y1 :: y2 :: y3 :: y4 :: y5 :: some (.long x) :: tl) (.long x :: st) h) : xT K B l F own ini cc nL ret mc ms rc rs Q pc (y0 :: y1 :: y2 :: y3 :: y4 :: y5 :: some (.long x) :: tl) st h :=
  xT.go k (fun _ _ _ _ _ _ _ _ _ _ _ _ _ _ C I w => lv_lload C.1 C.2.1 d (I.2.2 6 _ rfl) w)
theorem xr_il7 {y0 y1 y2 y3 y4 y5 y6 : Option Value} {x : Int32} (d : decode cc pc = .ok (.iload 7, 2)) (k : xT K B l F own ini cc nL ret mc ms rc rs Q (pc + 2) (y0 :: y1 :: y2 :: y3 :: y4 :: y5 :: y6 :: some (.int x) :: tl) (.int x :: st) h) : xT K B l F own ini cc nL ret mc ms rc rs Q pc (y0 :: y1 :: y2 :: y3 :: y4 :: y5 :: y6 :: some (.int x) :: tl) st h :=
  xT.go k (fun _ _ _ _ _ _ _ _ _ _ _ _ _ _ C I w => lv_iload C.1 C.2.1 d (I.2.2 7 _ rfl) w)
theorem xr_al7 {y0 y1 y2 y3 y4 y5 y6 : Option Value} {x : Nat} (d : decode cc pc = .ok (.aload 7, 2)) (k : xT K B l F own ini cc nL ret mc ms rc rs Q (pc + 2) (y0 :: y1 :: y2 :: y3 :: y4 :: y5 :: y6 :: some (.ref x) :: tl) (.ref x :: st) h) : xT K B l F own ini cc nL ret mc ms rc rs Q pc (y0 :: y1 :: y2 :: y3 :: y4 :: y5 :: y6 :: some (.ref x) :: tl) st h :=
  xT.go k (fun _ _ _ _ _ _ _ _ _ _ _ _ _ _ C I w => lv_aload C.1 C.2.1 d (I.2.2 7 _ rfl) w)
theorem xr_ll7 {y0 y1 y2 y3 y4 y5 y6 : Option Value} {x : Int64} (d : decode cc pc = .ok (.lload 7, 2)) (k : xT K B l F own ini cc nL ret mc ms rc rs Q (pc + 2) (y0 :: y1 :: y2 :: y3 :: y4 :: y5 :: y6 :: some (.long x) :: tl) (.long x :: st) h) : xT K B l F own ini cc nL ret mc ms rc rs Q pc (y0 :: y1 :: y2 :: y3 :: y4 :: y5 :: y6 :: some (.long x) :: tl) st h :=
  xT.go k (fun _ _ _ _ _ _ _ _ _ _ _ _ _ _ C I w => lv_lload C.1 C.2.1 d (I.2.2 7 _ rfl) w)
theorem xr_il8 {y0 y1 y2 y3 y4 y5 y6 y7 : Option Value} {x : Int32} (d : decode cc pc = .ok (.iload 8, 2)) (k : xT K B l F own ini cc nL ret mc ms rc rs Q (pc + 2) (y0 :: y1 :: y2 :: y3 :: y4 :: y5 :: y6 :: y7 :: some (.int x) :: tl) (.int x :: st) h) : xT K B l F own ini cc nL ret mc ms rc rs Q pc (y0 :: y1 :: y2 :: y3 :: y4 :: y5 :: y6 :: y7 :: some (.int x) :: tl) st h :=
  xT.go k (fun _ _ _ _ _ _ _ _ _ _ _ _ _ _ C I w => lv_iload C.1 C.2.1 d (I.2.2 8 _ rfl) w)
theorem xr_al8 {y0 y1 y2 y3 y4 y5 y6 y7 : Option Value} {x : Nat} (d : decode cc pc = .ok (.aload 8, 2)) (k : xT K B l F own ini cc nL ret mc ms rc rs Q (pc + 2) (y0 :: y1 :: y2 :: y3 :: y4 :: y5 :: y6 :: y7 :: some (.ref x) :: tl) (.ref x :: st) h) : xT K B l F own ini cc nL ret mc ms rc rs Q pc (y0 :: y1 :: y2 :: y3 :: y4 :: y5 :: y6 :: y7 :: some (.ref x) :: tl) st h :=
  xT.go k (fun _ _ _ _ _ _ _ _ _ _ _ _ _ _ C I w => lv_aload C.1 C.2.1 d (I.2.2 8 _ rfl) w)
theorem xr_ll8 {y0 y1 y2 y3 y4 y5 y6 y7 : Option Value} {x : Int64} (d : decode cc pc = .ok (.lload 8, 2)) (k : xT K B l F own ini cc nL ret mc ms rc rs Q (pc + 2) (y0 :: y1 :: y2 :: y3 :: y4 :: y5 :: y6 :: y7 :: some (.long x) :: tl) (.long x :: st) h) : xT K B l F own ini cc nL ret mc ms rc rs Q pc (y0 :: y1 :: y2 :: y3 :: y4 :: y5 :: y6 :: y7 :: some (.long x) :: tl) st h :=
  xT.go k (fun _ _ _ _ _ _ _ _ _ _ _ _ _ _ C I w => lv_lload C.1 C.2.1 d (I.2.2 8 _ rfl) w)
theorem xr_il9 {y0 y1 y2 y3 y4 y5 y6 y7 y8 : Option Value} {x : Int32} (d : decode cc pc = .ok (.iload 9, 2)) (k : xT K B l F own ini cc nL ret mc ms rc rs Q (pc + 2) (y0 :: y1 :: y2 :: y3 :: y4 :: y5 :: y6 :: y7 :: y8 :: some (.int x) :: tl) (.int x :: st) h) : xT K B l F own ini cc nL ret mc ms rc rs Q pc (y0 :: y1 :: y2 :: y3 :: y4 :: y5 :: y6 :: y7 :: y8 :: some (.int x) :: tl) st h :=
  xT.go k (fun _ _ _ _ _ _ _ _ _ _ _ _ _ _ C I w => lv_iload C.1 C.2.1 d (I.2.2 9 _ rfl) w)
theorem xr_al9 {y0 y1 y2 y3 y4 y5 y6 y7 y8 : Option Value} {x : Nat} (d : decode cc pc = .ok (.aload 9, 2)) (k : xT K B l F own ini cc nL ret mc ms rc rs Q (pc + 2) (y0 :: y1 :: y2 :: y3 :: y4 :: y5 :: y6 :: y7 :: y8 :: some (.ref x) :: tl) (.ref x :: st) h) : xT K B l F own ini cc nL ret mc ms rc rs Q pc (y0 :: y1 :: y2 :: y3 :: y4 :: y5 :: y6 :: y7 :: y8 :: some (.ref x) :: tl) st h :=
  xT.go k (fun _ _ _ _ _ _ _ _ _ _ _ _ _ _ C I w => lv_aload C.1 C.2.1 d (I.2.2 9 _ rfl) w)
theorem xr_ll9 {y0 y1 y2 y3 y4 y5 y6 y7 y8 : Option Value} {x : Int64} (d : decode cc pc = .ok (.lload 9, 2)) (k : xT K B l F own ini cc nL ret mc ms rc rs Q (pc + 2) (y0 :: y1 :: y2 :: y3 :: y4 :: y5 :: y6 :: y7 :: y8 :: some (.long x) :: tl) (.long x :: st) h) : xT K B l F own ini cc nL ret mc ms rc rs Q pc (y0 :: y1 :: y2 :: y3 :: y4 :: y5 :: y6 :: y7 :: y8 :: some (.long x) :: tl) st h :=
  xT.go k (fun _ _ _ _ _ _ _ _ _ _ _ _ _ _ C I w => lv_lload C.1 C.2.1 d (I.2.2 9 _ rfl) w)
theorem xr_il10 {y0 y1 y2 y3 y4 y5 y6 y7 y8 y9 : Option Value} {x : Int32} (d : decode cc pc = .ok (.iload 10, 2)) (k : xT K B l F own ini cc nL ret mc ms rc rs Q (pc + 2) (y0 :: y1 :: y2 :: y3 :: y4 :: y5 :: y6 :: y7 :: y8 :: y9 :: some (.int x) :: tl) (.int x :: st) h) : xT K B l F own ini cc nL ret mc ms rc rs Q pc (y0 :: y1 :: y2 :: y3 :: y4 :: y5 :: y6 :: y7 :: y8 :: y9 :: some (.int x) :: tl) st h :=
  xT.go k (fun _ _ _ _ _ _ _ _ _ _ _ _ _ _ C I w => lv_iload C.1 C.2.1 d (I.2.2 10 _ rfl) w)
theorem xr_al10 {y0 y1 y2 y3 y4 y5 y6 y7 y8 y9 : Option Value} {x : Nat} (d : decode cc pc = .ok (.aload 10, 2)) (k : xT K B l F own ini cc nL ret mc ms rc rs Q (pc + 2) (y0 :: y1 :: y2 :: y3 :: y4 :: y5 :: y6 :: y7 :: y8 :: y9 :: some (.ref x) :: tl) (.ref x :: st) h) : xT K B l F own ini cc nL ret mc ms rc rs Q pc (y0 :: y1 :: y2 :: y3 :: y4 :: y5 :: y6 :: y7 :: y8 :: y9 :: some (.ref x) :: tl) st h :=
  xT.go k (fun _ _ _ _ _ _ _ _ _ _ _ _ _ _ C I w => lv_aload C.1 C.2.1 d (I.2.2 10 _ rfl) w)
theorem xr_ll10 {y0 y1 y2 y3 y4 y5 y6 y7 y8 y9 : Option Value} {x : Int64} (d : decode cc pc = .ok (.lload 10, 2)) (k : xT K B l F own ini cc nL ret mc ms rc rs Q (pc + 2) (y0 :: y1 :: y2 :: y3 :: y4 :: y5 :: y6 :: y7 :: y8 :: y9 :: some (.long x) :: tl) (.long x :: st) h) : xT K B l F own ini cc nL ret mc ms rc rs Q pc (y0 :: y1 :: y2 :: y3 :: y4 :: y5 :: y6 :: y7 :: y8 :: y9 :: some (.long x) :: tl) st h :=
  xT.go k (fun _ _ _ _ _ _ _ _ _ _ _ _ _ _ C I w => lv_lload C.1 C.2.1 d (I.2.2 10 _ rfl) w)
theorem xr_il11 {y0 y1 y2 y3 y4 y5 y6 y7 y8 y9 y10 : Option Value} {x : Int32} (d : decode cc pc = .ok (.iload 11, 2)) (k : xT K B l F own ini cc nL ret mc ms rc rs Q (pc + 2) (y0 :: y1 :: y2 :: y3 :: y4 :: y5 :: y6 :: y7 :: y8 :: y9 :: y10 :: some (.int x) :: tl) (.int x :: st) h) : xT K B l F own ini cc nL ret mc ms rc rs Q pc (y0 :: y1 :: y2 :: y3 :: y4 :: y5 :: y6 :: y7 :: y8 :: y9 :: y10 :: some (.int x) :: tl) st h :=
  xT.go k (fun _ _ _ _ _ _ _ _ _ _ _ _ _ _ C I w => lv_iload C.1 C.2.1 d (I.2.2 11 _ rfl) w)
theorem xr_al11 {y0 y1 y2 y3 y4 y5 y6 y7 y8 y9 y10 : Option Value} {x : Nat} (d : decode cc pc = .ok (.aload 11, 2)) (k : xT K B l F own ini cc nL ret mc ms rc rs Q (pc + 2) (y0 :: y1 :: y2 :: y3 :: y4 :: y5 :: y6 :: y7 :: y8 :: y9 :: y10 :: some (.ref x) :: tl) (.ref x :: st) h) : xT K B l F own ini cc nL ret mc ms rc rs Q pc (y0 :: y1 :: y2 :: y3 :: y4 :: y5 :: y6 :: y7 :: y8 :: y9 :: y10 :: some (.ref x) :: tl) st h :=
  xT.go k (fun _ _ _ _ _ _ _ _ _ _ _ _ _ _ C I w => lv_aload C.1 C.2.1 d (I.2.2 11 _ rfl) w)
theorem xr_ll11 {y0 y1 y2 y3 y4 y5 y6 y7 y8 y9 y10 : Option Value} {x : Int64} (d : decode cc pc = .ok (.lload 11, 2)) (k : xT K B l F own ini cc nL ret mc ms rc rs Q (pc + 2) (y0 :: y1 :: y2 :: y3 :: y4 :: y5 :: y6 :: y7 :: y8 :: y9 :: y10 :: some (.long x) :: tl) (.long x :: st) h) : xT K B l F own ini cc nL ret mc ms rc rs Q pc (y0 :: y1 :: y2 :: y3 :: y4 :: y5 :: y6 :: y7 :: y8 :: y9 :: y10 :: some (.long x) :: tl) st h :=
  xT.go k (fun _ _ _ _ _ _ _ _ _ _ _ _ _ _ C I w => lv_lload C.1 C.2.1 d (I.2.2 11 _ rfl) w)
theorem xr_il12 {y0 y1 y2 y3 y4 y5 y6 y7 y8 y9 y10 y11 : Option Value} {x : Int32} (d : decode cc pc = .ok (.iload 12, 2)) (k : xT K B l F own ini cc nL ret mc ms rc rs Q (pc + 2) (y0 :: y1 :: y2 :: y3 :: y4 :: y5 :: y6 :: y7 :: y8 :: y9 :: y10 :: y11 :: some (.int x) :: tl) (.int x :: st) h) : xT K B l F own ini cc nL ret mc ms rc rs Q pc (y0 :: y1 :: y2 :: y3 :: y4 :: y5 :: y6 :: y7 :: y8 :: y9 :: y10 :: y11 :: some (.int x) :: tl) st h :=
  xT.go k (fun _ _ _ _ _ _ _ _ _ _ _ _ _ _ C I w => lv_iload C.1 C.2.1 d (I.2.2 12 _ rfl) w)
theorem xr_al12 {y0 y1 y2 y3 y4 y5 y6 y7 y8 y9 y10 y11 : Option Value} {x : Nat} (d : decode cc pc = .ok (.aload 12, 2)) (k : xT K B l F own ini cc nL ret mc ms rc rs Q (pc + 2) (y0 :: y1 :: y2 :: y3 :: y4 :: y5 :: y6 :: y7 :: y8 :: y9 :: y10 :: y11 :: some (.ref x) :: tl) (.ref x :: st) h) : xT K B l F own ini cc nL ret mc ms rc rs Q pc (y0 :: y1 :: y2 :: y3 :: y4 :: y5 :: y6 :: y7 :: y8 :: y9 :: y10 :: y11 :: some (.ref x) :: tl) st h :=
  xT.go k (fun _ _ _ _ _ _ _ _ _ _ _ _ _ _ C I w => lv_aload C.1 C.2.1 d (I.2.2 12 _ rfl) w)
theorem xr_ll12 {y0 y1 y2 y3 y4 y5 y6 y7 y8 y9 y10 y11 : Option Value} {x : Int64} (d : decode cc pc = .ok (.lload 12, 2)) (k : xT K B l F own ini cc nL ret mc ms rc rs Q (pc + 2) (y0 :: y1 :: y2 :: y3 :: y4 :: y5 :: y6 :: y7 :: y8 :: y9 :: y10 :: y11 :: some (.long x) :: tl) (.long x :: st) h) : xT K B l F own ini cc nL ret mc ms rc rs Q pc (y0 :: y1 :: y2 :: y3 :: y4 :: y5 :: y6 :: y7 :: y8 :: y9 :: y10 :: y11 :: some (.long x) :: tl) st h :=
  xT.go k (fun _ _ _ _ _ _ _ _ _ _ _ _ _ _ C I w => lv_lload C.1 C.2.1 d (I.2.2 12 _ rfl) w)
theorem xr_il13 {y0 y1 y2 y3 y4 y5 y6 y7 y8 y9 y10 y11 y12 : Option Value} {x : Int32} (d : decode cc pc = .ok (.iload 13, 2)) (k : xT K B l F own ini cc nL ret mc ms rc rs Q (pc + 2) (y0 :: y1 :: y2 :: y3 :: y4 :: y5 :: y6 :: y7 :: y8 :: y9 :: y10 :: y11 :: y12 :: some (.int x) :: tl) (.int x :: st) h) : xT K B l F own ini cc nL ret mc ms rc rs Q pc (y0 :: y1 :: y2 :: y3 :: y4 :: y5 :: y6 :: y7 :: y8 :: y9 :: y10 :: y11 :: y12 :: some (.int x) :: tl) st h :=
  xT.go k (fun _ _ _ _ _ _ _ _ _ _ _ _ _ _ C I w => lv_iload C.1 C.2.1 d (I.2.2 13 _ rfl) w)
theorem xr_al13 {y0 y1 y2 y3 y4 y5 y6 y7 y8 y9 y10 y11 y12 : Option Value} {x : Nat} (d : decode cc pc = .ok (.aload 13, 2)) (k : xT K B l F own ini cc nL ret mc ms rc rs Q (pc + 2) (y0 :: y1 :: y2 :: y3 :: y4 :: y5 :: y6 :: y7 :: y8 :: y9 :: y10 :: y11 :: y12 :: some (.ref x) :: tl) (.ref x :: st) h) : xT K B l F own ini cc nL ret mc ms rc rs Q pc (y0 :: y1 :: y2 :: y3 :: y4 :: y5 :: y6 :: y7 :: y8 :: y9 :: y10 :: y11 :: y12 :: some (.ref x) :: tl) st h :=
  xT.go k (fun _ _ _ _ _ _ _ _ _ _ _ _ _ _ C I w => lv_aload C.1 C.2.1 d (I.2.2 13 _ rfl) w)
theorem xr_ll13 {y0 y1 y2 y3 y4 y5 y6 y7 y8 y9 y10 y11 y12 : Option Value} {x : Int64} (d : decode cc pc = .ok (.lload 13, 2)) (k : xT K B l F own ini cc nL ret mc ms rc rs Q (pc + 2) (y0 :: y1 :: y2 :: y3 :: y4 :: y5 :: y6 :: y7 :: y8 :: y9 :: y10 :: y11 :: y12 :: some (.long x) :: tl) (.long x :: st) h) : xT K B l F own ini cc nL ret mc ms rc rs Q pc (y0 :: y1 :: y2 :: y3 :: y4 :: y5 :: y6 :: y7 :: y8 :: y9 :: y10 :: y11 :: y12 :: some (.long x) :: tl) st h :=
  xT.go k (fun _ _ _ _ _ _ _ _ _ _ _ _ _ _ C I w => lv_lload C.1 C.2.1 d (I.2.2 13 _ rfl) w)
theorem xr_il14 {y0 y1 y2 y3 y4 y5 y6 y7 y8 y9 y10 y11 y12 y13 : Option Value} {x : Int32} (d : decode cc pc = .ok (.iload 14, 2)) (k : xT K B l F own ini cc nL ret mc ms rc rs Q (pc + 2) (y0 :: y1 :: y2 :: y3 :: y4 :: y5 :: y6 :: y7 :: y8 :: y9 :: y10 :: y11 :: y12 :: y13 :: some (.int x) :: tl) (.int x :: st) h) : xT K B l F own ini cc nL ret mc ms rc rs Q pc (y0 :: y1 :: y2 :: y3 :: y4 :: y5 :: y6 :: y7 :: y8 :: y9 :: y10 :: y11 :: y12 :: y13 :: some (.int x) :: tl) st h :=
  xT.go k (fun _ _ _ _ _ _ _ _ _ _ _ _ _ _ C I w => lv_iload C.1 C.2.1 d (I.2.2 14 _ rfl) w)
theorem xr_al14 {y0 y1 y2 y3 y4 y5 y6 y7 y8 y9 y10 y11 y12 y13 : Option Value} {x : Nat} (d : decode cc pc = .ok (.aload 14, 2)) (k : xT K B l F own ini cc nL ret mc ms rc rs Q (pc + 2) (y0 :: y1 :: y2 :: y3 :: y4 :: y5 :: y6 :: y7 :: y8 :: y9 :: y10 :: y11 :: y12 :: y13 :: some (.ref x) :: tl) (.ref x :: st) h) : xT K B l F own ini cc nL ret mc ms rc rs Q pc (y0 :: y1 :: y2 :: y3 :: y4 :: y5 :: y6 :: y7 :: y8 :: y9 :: y10 :: y11 :: y12 :: y13 :: some (.ref x) :: tl) st h :=
  xT.go k (fun _ _ _ _ _ _ _ _ _ _ _ _ _ _ C I w => lv_aload C.1 C.2.1 d (I.2.2 14 _ rfl) w)
theorem xr_ll14 {y0 y1 y2 y3 y4 y5 y6 y7 y8 y9 y10 y11 y12 y13 : Option Value} {x : Int64} (d : decode cc pc = .ok (.lload 14, 2)) (k : xT K B l F own ini cc nL ret mc ms rc rs Q (pc + 2) (y0 :: y1 :: y2 :: y3 :: y4 :: y5 :: y6 :: y7 :: y8 :: y9 :: y10 :: y11 :: y12 :: y13 :: some (.long x) :: tl) (.long x :: st) h) : xT K B l F own ini cc nL ret mc ms rc rs Q pc (y0 :: y1 :: y2 :: y3 :: y4 :: y5 :: y6 :: y7 :: y8 :: y9 :: y10 :: y11 :: y12 :: y13 :: some (.long x) :: tl) st h :=
  xT.go k (fun _ _ _ _ _ _ _ _ _ _ _ _ _ _ C I w => lv_lload C.1 C.2.1 d (I.2.2 14 _ rfl) w)
theorem xr_il15 {y0 y1 y2 y3 y4 y5 y6 y7 y8 y9 y10 y11 y12 y13 y14 : Option Value} {x : Int32} (d : decode cc pc = .ok (.iload 15, 2)) (k : xT K B l F own ini cc nL ret mc ms rc rs Q (pc + 2) (y0 :: y1 :: y2 :: y3 :: y4 :: y5 :: y6 :: y7 :: y8 :: y9 :: y10 :: y11 :: y12 :: y13 :: y14 :: some (.int x) :: tl) (.int x :: st) h) : xT K B l F own ini cc nL ret mc ms rc rs Q pc (y0 :: y1 :: y2 :: y3 :: y4 :: y5 :: y6 :: y7 :: y8 :: y9 :: y10 :: y11 :: y12 :: y13 :: y14 :: some (.int x) :: tl) st h :=
  xT.go k (fun _ _ _ _ _ _ _ _ _ _ _ _ _ _ C I w => lv_iload C.1 C.2.1 d (I.2.2 15 _ rfl) w)
theorem xr_al15 {y0 y1 y2 y3 y4 y5 y6 y7 y8 y9 y10 y11 y12 y13 y14 : Option Value} {x : Nat} (d : decode cc pc = .ok (.aload 15, 2)) (k : xT K B l F own ini cc nL ret mc ms rc rs Q (pc + 2) (y0 :: y1 :: y2 :: y3 :: y4 :: y5 :: y6 :: y7 :: y8 :: y9 :: y10 :: y11 :: y12 :: y13 :: y14 :: some (.ref x) :: tl) (.ref x :: st) h) : xT K B l F own ini cc nL ret mc ms rc rs Q pc (y0 :: y1 :: y2 :: y3 :: y4 :: y5 :: y6 :: y7 :: y8 :: y9 :: y10 :: y11 :: y12 :: y13 :: y14 :: some (.ref x) :: tl) st h :=
  xT.go k (fun _ _ _ _ _ _ _ _ _ _ _ _ _ _ C I w => lv_aload C.1 C.2.1 d (I.2.2 15 _ rfl) w)
theorem xr_ll15 {y0 y1 y2 y3 y4 y5 y6 y7 y8 y9 y10 y11 y12 y13 y14 : Option Value} {x : Int64} (d : decode cc pc = .ok (.lload 15, 2)) (k : xT K B l F own ini cc nL ret mc ms rc rs Q (pc + 2) (y0 :: y1 :: y2 :: y3 :: y4 :: y5 :: y6 :: y7 :: y8 :: y9 :: y10 :: y11 :: y12 :: y13 :: y14 :: some (.long x) :: tl) (.long x :: st) h) : xT K B l F own ini cc nL ret mc ms rc rs Q pc (y0 :: y1 :: y2 :: y3 :: y4 :: y5 :: y6 :: y7 :: y8 :: y9 :: y10 :: y11 :: y12 :: y13 :: y14 :: some (.long x) :: tl) st h :=
  xT.go k (fun _ _ _ _ _ _ _ _ _ _ _ _ _ _ C I w => lv_lload C.1 C.2.1 d (I.2.2 15 _ rfl) w)
theorem xr_il16 {y0 y1 y2 y3 y4 y5 y6 y7 y8 y9 y10 y11 y12 y13 y14 y15 : Option Value} {x : Int32} (d : decode cc pc = .ok (.iload 16, 2)) (k : xT K B l F own ini cc nL ret mc ms rc rs Q (pc + 2) (y0 :: y1 :: y2 :: y3 :: y4 :: y5 :: y6 :: y7 :: y8 :: y9 :: y10 :: y11 :: y12 :: y13 :: y14 :: y15 :: some (.int x) :: tl) (.int x :: st) h) : xT K B l F own ini cc nL ret mc ms rc rs Q pc (y0 :: y1 :: y2 :: y3 :: y4 :: y5 :: y6 :: y7 :: y8 :: y9 :: y10 :: y11 :: y12 :: y13 :: y14 :: y15 :: some (.int x) :: tl) st h :=
  xT.go k (fun _ _ _ _ _ _ _ _ _ _ _ _ _ _ C I w => lv_iload C.1 C.2.1 d (I.2.2 16 _ rfl) w)
theorem xr_al16 {y0 y1 y2 y3 y4 y5 y6 y7 y8 y9 y10 y11 y12 y13 y14 y15 : Option Value} {x : Nat} (d : decode cc pc = .ok (.aload 16, 2)) (k : xT K B l F own ini cc nL ret mc ms rc rs Q (pc + 2) (y0 :: y1 :: y2 :: y3 :: y4 :: y5 :: y6 :: y7 :: y8 :: y9 :: y10 :: y11 :: y12 :: y13 :: y14 :: y15 :: some (.ref x) :: tl) (.ref x :: st) h) : xT K B l F own ini cc nL ret mc ms rc rs Q pc (y0 :: y1 :: y2 :: y3 :: y4 :: y5 :: y6 :: y7 :: y8 :: y9 :: y10 :: y11 :: y12 :: y13 :: y14 :: y15 :: some (.ref x) :: tl) st h :=
  xT.go k (fun _ _ _ _ _ _ _ _ _ _ _ _ _ _ C I w => lv_aload C.1 C.2.1 d (I.2.2 16 _ rfl) w)
theorem xr_ll16 {y0 y1 y2 y3 y4 y5 y6 y7 y8 y9 y10 y11 y12 y13 y14 y15 : Option Value} {x : Int64} (d : decode cc pc = .ok (.lload 16, 2)) (k : xT K B l F own ini cc nL ret mc ms rc rs Q (pc + 2) (y0 :: y1 :: y2 :: y3 :: y4 :: y5 :: y6 :: y7 :: y8 :: y9 :: y10 :: y11 :: y12 :: y13 :: y14 :: y15 :: some (.long x) :: tl) (.long x :: st) h) : xT K B l F own ini cc nL ret mc ms rc rs Q pc (y0 :: y1 :: y2 :: y3 :: y4 :: y5 :: y6 :: y7 :: y8 :: y9 :: y10 :: y11 :: y12 :: y13 :: y14 :: y15 :: some (.long x) :: tl) st h :=
  xT.go k (fun _ _ _ _ _ _ _ _ _ _ _ _ _ _ C I w => lv_lload C.1 C.2.1 d (I.2.2 16 _ rfl) w)
theorem xr_il17 {y0 y1 y2 y3 y4 y5 y6 y7 y8 y9 y10 y11 y12 y13 y14 y15 y16 : Option Value} {x : Int32} (d : decode cc pc = .ok (.iload 17, 2)) (k : xT K B l F own ini cc nL ret mc ms rc rs Q (pc + 2) (y0 :: y1 :: y2 :: y3 :: y4 :: y5 :: y6 :: y7 :: y8 :: y9 :: y10 :: y11 :: y12 :: y13 :: y14 :: y15 :: y16 :: some (.int x) :: tl) (.int x :: st) h) : xT K B l F own ini cc nL ret mc ms rc rs Q pc (y0 :: y1 :: y2 :: y3 :: y4 :: y5 :: y6 :: y7 :: y8 :: y9 :: y10 :: y11 :: y12 :: y13 :: y14 :: y15 :: y16 :: some (.int x) :: tl) st h :=
  xT.go k (fun _ _ _ _ _ _ _ _ _ _ _ _ _ _ C I w => lv_iload C.1 C.2.1 d (I.2.2 17 _ rfl) w)
theorem xr_al17 {y0 y1 y2 y3 y4 y5 y6 y7 y8 y9 y10 y11 y12 y13 y14 y15 y16 : Option Value} {x : Nat} (d : decode cc pc = .ok (.aload 17, 2)) (k : xT K B l F own ini cc nL ret mc ms rc rs Q (pc + 2) (y0 :: y1 :: y2 :: y3 :: y4 :: y5 :: y6 :: y7 :: y8 :: y9 :: y10 :: y11 :: y12 :: y13 :: y14 :: y15 :: y16 :: some (.ref x) :: tl) (.ref x :: st) h) : xT K B l F own ini cc nL ret mc ms rc rs Q pc (y0 :: y1 :: y2 :: y3 :: y4 :: y5 :: y6 :: y7 :: y8 :: y9 :: y10 :: y11 :: y12 :: y13 :: y14 :: y15 :: y16 :: some (.ref x) :: tl) st h :=
  xT.go k (fun _ _ _ _ _ _ _ _ _ _ _ _ _ _ C I w => lv_aload C.1 C.2.1 d (I.2.2 17 _ rfl) w)
theorem xr_ll17 {y0 y1 y2 y3 y4 y5 y6 y7 y8 y9 y10 y11 y12 y13 y14 y15 y16 : Option Value} {x : Int64} (d : decode cc pc = .ok (.lload 17, 2)) (k : xT K B l F own ini cc nL ret mc ms rc rs Q (pc + 2) (y0 :: y1 :: y2 :: y3 :: y4 :: y5 :: y6 :: y7 :: y8 :: y9 :: y10 :: y11 :: y12 :: y13 :: y14 :: y15 :: y16 :: some (.long x) :: tl) (.long x :: st) h) : xT K B l F own ini cc nL ret mc ms rc rs Q pc (y0 :: y1 :: y2 :: y3 :: y4 :: y5 :: y6 :: y7 :: y8 :: y9 :: y10 :: y11 :: y12 :: y13 :: y14 :: y15 :: y16 :: some (.long x) :: tl) st h :=
  xT.go k (fun _ _ _ _ _ _ _ _ _ _ _ _ _ _ C I w => lv_lload C.1 C.2.1 d (I.2.2 17 _ rfl) w)
theorem xr_il18 {y0 y1 y2 y3 y4 y5 y6 y7 y8 y9 y10 y11 y12 y13 y14 y15 y16 y17 : Option Value} {x : Int32} (d : decode cc pc = .ok (.iload 18, 2)) (k : xT K B l F own ini cc nL ret mc ms rc rs Q (pc + 2) (y0 :: y1 :: y2 :: y3 :: y4 :: y5 :: y6 :: y7 :: y8 :: y9 :: y10 :: y11 :: y12 :: y13 :: y14 :: y15 :: y16 :: y17 :: some (.int x) :: tl) (.int x :: st) h) : xT K B l F own ini cc nL ret mc ms rc rs Q pc (y0 :: y1 :: y2 :: y3 :: y4 :: y5 :: y6 :: y7 :: y8 :: y9 :: y10 :: y11 :: y12 :: y13 :: y14 :: y15 :: y16 :: y17 :: some (.int x) :: tl) st h :=
  xT.go k (fun _ _ _ _ _ _ _ _ _ _ _ _ _ _ C I w => lv_iload C.1 C.2.1 d (I.2.2 18 _ rfl) w)
theorem xr_al18 {y0 y1 y2 y3 y4 y5 y6 y7 y8 y9 y10 y11 y12 y13 y14 y15 y16 y17 : Option Value} {x : Nat} (d : decode cc pc = .ok (.aload 18, 2)) (k : xT K B l F own ini cc nL ret mc ms rc rs Q (pc + 2) (y0 :: y1 :: y2 :: y3 :: y4 :: y5 :: y6 :: y7 :: y8 :: y9 :: y10 :: y11 :: y12 :: y13 :: y14 :: y15 :: y16 :: y17 :: some (.ref x) :: tl) (.ref x :: st) h) : xT K B l F own ini cc nL ret mc ms rc rs Q pc (y0 :: y1 :: y2 :: y3 :: y4 :: y5 :: y6 :: y7 :: y8 :: y9 :: y10 :: y11 :: y12 :: y13 :: y14 :: y15 :: y16 :: y17 :: some (.ref x) :: tl) st h :=
  xT.go k (fun _ _ _ _ _ _ _ _ _ _ _ _ _ _ C I w => lv_aload C.1 C.2.1 d (I.2.2 18 _ rfl) w)
theorem xr_ll18 {y0 y1 y2 y3 y4 y5 y6 y7 y8 y9 y10 y11 y12 y13 y14 y15 y16 y17 : Option Value} {x : Int64} (d : decode cc pc = .ok (.lload 18, 2)) (k : xT K B l F own ini cc nL ret mc ms rc rs Q (pc + 2) (y0 :: y1 :: y2 :: y3 :: y4 :: y5 :: y6 :: y7 :: y8 :: y9 :: y10 :: y11 :: y12 :: y13 :: y14 :: y15 :: y16 :: y17 :: some (.long x) :: tl) (.long x :: st) h) : xT K B l F own ini cc nL ret mc ms rc rs Q pc (y0 :: y1 :: y2 :: y3 :: y4 :: y5 :: y6 :: y7 :: y8 :: y9 :: y10 :: y11 :: y12 :: y13 :: y14 :: y15 :: y16 :: y17 :: some (.long x) :: tl) st h :=
  xT.go k (fun _ _ _ _ _ _ _ _ _ _ _ _ _ _ C I w => lv_lload C.1 C.2.1 d (I.2.2 18 _ rfl) w)
theorem xr_il19 {y0 y1 y2 y3 y4 y5 y6 y7 y8 y9 y10 y11 y12 y13 y14 y15 y16 y17 y18 : Option Value} {x : Int32} (d : decode cc pc = .ok (.iload 19, 2)) (k : xT K B l F own ini cc nL ret mc ms rc rs Q (pc + 2) (y0 :: y1 :: y2 :: y3 :: y4 :: y5 :: y6 :: y7 :: y8 :: y9 :: y10 :: y11 :: y12 :: y13 :: y14 :: y15 :: y16 :: y17 :: y18 :: some (.int x) :: tl) (.int x :: st) h) : xT K B l F own ini cc nL ret mc ms rc rs Q pc (y0 :: y1 :: y2 :: y3 :: y4 :: y5 :: y6 :: y7 :: y8 :: y9 :: y10 :: y11 :: y12 :: y13 :: y14 :: y15 :: y16 :: y17 :: y18 :: some (.int x) :: tl) st h :=
  xT.go k (fun _ _ _ _ _ _ _ _ _ _ _ _ _ _ C I w => lv_iload C.1 C.2.1 d (I.2.2 19 _ rfl) w)
theorem xr_al19 {y0 y1 y2 y3 y4 y5 y6 y7 y8 y9 y10 y11 y12 y13 y14 y15 y16 y17 y18 : Option Value} {x : Nat} (d : decode cc pc = .ok (.aload 19, 2)) (k : xT K B l F own ini cc nL ret mc ms rc rs Q (pc + 2) (y0 :: y1 :: y2 :: y3 :: y4 :: y5 :: y6 :: y7 :: y8 :: y9 :: y10 :: y11 :: y12 :: y13 :: y14 :: y15 :: y16 :: y17 :: y18 :: some (.ref x) :: tl) (.ref x :: st) h) : xT K B l F own ini cc nL ret mc ms rc rs Q pc (y0 :: y1 :: y2 :: y3 :: y4 :: y5 :: y6 :: y7 :: y8 :: y9 :: y10 :: y11 :: y12 :: y13 :: y14 :: y15 :: y16 :: y17 :: y18 :: some (.ref x) :: tl) st h :=
  xT.go k (fun _ _ _ _ _ _ _ _ _ _ _ _ _ _ C I w => lv_aload C.1 C.2.1 d (I.2.2 19 _ rfl) w)
theorem xr_ll19 {y0 y1 y2 y3 y4 y5 y6 y7 y8 y9 y10 y11 y12 y13 y14 y15 y16 y17 y18 : Option Value} {x : Int64} (d : decode cc pc = .ok (.lload 19, 2)) (k : xT K B l F own ini cc nL ret mc ms rc rs Q (pc + 2) (y0 :: y1 :: y2 :: y3 :: y4 :: y5 :: y6 :: y7 :: y8 :: y9 :: y10 :: y11 :: y12 :: y13 :: y14 :: y15 :: y16 :: y17 :: y18 :: some (.long x) :: tl) (.long x :: st) h) : xT K B l F own ini cc nL ret mc ms rc rs Q pc (y0 :: y1 :: y2 :: y3 :: y4 :: y5 :: y6 :: y7 :: y8 :: y9 :: y10 :: y11 :: y12 :: y13 :: y14 :: y15 :: y16 :: y17 :: y18 :: some (.long x) :: tl) st h :=
  xT.go k (fun _ _ _ _ _ _ _ _ _ _ _ _ _ _ C I w => lv_lload C.1 C.2.1 d (I.2.2 19 _ rfl) w)
theorem xr_il20 {y0 y1 y2 y3 y4 y5 y6 y7 y8 y9 y10 y11 y12 y13 y14 y15 y16 y17 y18 y19 : Option Value} {x : Int32} (d : decode cc pc = .ok (.iload 20, 2)) (k : xT K B l F own ini cc nL ret mc ms rc rs Q (pc + 2) (y0 :: y1 :: y2 :: y3 :: y4 :: y5 :: y6 :: y7 :: y8 :: y9 :: y10 :: y11 :: y12 :: y13 :: y14 :: y15 :: y16 :: y17 :: y18 :: y19 :: some (.int x) :: tl) (.int x :: st) h) : xT K B l F own ini cc nL ret mc ms rc rs Q pc (y0 :: y1 :: y2 :: y3 :: y4 :: y5 :: y6 :: y7 :: y8 :: y9 :: y10 :: y11 :: y12 :: y13 :: y14 :: y15 :: y16 :: y17 :: y18 :: y19 :: some (.int x) :: tl) st h :=
  xT.go k (fun _ _ _ _ _ _ _ _ _ _ _ _ _ _ C I w => lv_iload C.1 C.2.1 d (I.2.2 20 _ rfl) w)
theorem xr_al20 {y0 y1 y2 y3 y4 y5 y6 y7 y8 y9 y10 y11 y12 y13 y14 y15 y16 y17 y18 y19 : Option Value} {x : Nat} (d : decode cc pc = .ok (.aload 20, 2)) (k : xT K B l F own ini cc nL ret mc ms rc rs Q (pc + 2) (y0 :: y1 :: y2 :: y3 :: y4 :: y5 :: y6 :: y7 :: y8 :: y9 :: y10 :: y11 :: y12 :: y13 :: y14 :: y15 :: y16 :: y17 :: y18 :: y19 :: some (.ref x) :: tl) (.ref x :: st) h) : xT K B l F own ini cc nL ret mc ms rc rs Q pc (y0 :: y1 :: y2 :: y3 :: y4 :: y5 :: y6 :: y7 :: y8 :: y9 :: y10 :: y11 :: y12 :: y13 :: y14 :: y15 :: y16 :: y17 :: y18 :: y19 :: some (.ref x) :: tl) st h :=
  xT.go k (fun _ _ _ _ _ _ _ _ _ _ _ _ _ _ C I w => lv_aload C.1 C.2.1 d (I.2.2 20 _ rfl) w)
theorem xr_ll20 {y0 y1 y2 y3 y4 y5 y6 y7 y8 y9 y10 y11 y12 y13 y14 y15 y16 y17 y18 y19 : Option Value} {x : Int64} (d : decode cc pc = .ok (.lload 20, 2)) (k : xT K B l F own ini cc nL ret mc ms rc rs Q (pc + 2) (y0 :: y1 :: y2 :: y3 :: y4 :: y5 :: y6 :: y7 :: y8 :: y9 :: y10 :: y11 :: y12 :: y13 :: y14 :: y15 :: y16 :: y17 :: y18 :: y19 :: some (.long x) :: tl) (.long x :: st) h) : xT K B l F own ini cc nL ret mc ms rc rs Q pc (y0 :: y1 :: y2 :: y3 :: y4 :: y5 :: y6 :: y7 :: y8 :: y9 :: y10 :: y11 :: y12 :: y13 :: y14 :: y15 :: y16 :: y17 :: y18 :: y19 :: some (.long x) :: tl) st h :=
  xT.go k (fun _ _ _ _ _ _ _ _ _ _ _ _ _ _ C I w => lv_lload C.1 C.2.1 d (I.2.2 20 _ rfl) w)
theorem xr_il21 {y0 y1 y2 y3 y4 y5 y6 y7 y8 y9 y10 y11 y12 y13 y14 y15 y16 y17 y18 y19 y20 : Option Value} {x : Int32} (d : decode cc pc = .ok (.iload 21, 2)) (k : xT K B l F own ini cc nL ret mc ms rc rs Q (pc + 2) (y0 :: y1 :: y2 :: y3 :: y4 :: y5 :: y6 :: y7 :: y8 :: y9 :: y10 :: y11 :: y12 :: y13 :: y14 :: y15 :: y16 :: y17 :: y18 :: y19 :: y20 :: some (.int x) :: tl) (.int x :: st) h) : xT K B l F own ini cc nL ret mc ms rc rs Q pc (y0 :: y1 :: y2 :: y3 :: y4 :: y5 :: y6 :: y7 :: y8 :: y9 :: y10 :: y11 :: y12 :: y13 :: y14 :: y15 :: y16 :: y17 :: y18 :: y19 :: y20 :: some (.int x) :: tl) st h :=
  xT.go k (fun _ _ _ _ _ _ _ _ _ _ _ _ _ _ C I w => lv_iload C.1 C.2.1 d (I.2.2 21 _ rfl) w)
theorem xr_al21 {y0 y1 y2 y3 y4 y5 y6 y7 y8 y9 y10 y11 y12 y13 y14 y15 y16 y17 y18 y19 y20 : Option Value} {x : Nat} (d : decode cc pc = .ok (.aload 21, 2)) (k : xT K B l F own ini cc nL ret mc ms rc rs Q (pc + 2) (y0 :: y1 :: y2 :: y3 :: y4 :: y5 :: y6 :: y7 :: y8 :: y9 :: y10 :: y11 :: y12 :: y13 :: y14 :: y15 :: y16 :: y17 :: y18 :: y19 :: y20 :: some (.ref x) :: tl) (.ref x :: st) h) : xT K B l F own ini cc nL ret mc ms rc rs Q pc (y0 :: y1 :: y2 :: y3 :: y4 :: y5 :: y6 :: y7 :: y8 :: y9 :: y10 :: y11 :: y12 :: y13 :: y14 :: y15 :: y16 :: y17 :: y18 :: y19 :: y20 :: some (.ref x) :: tl) st h :=
  xT.go k (fun _ _ _ _ _ _ _ _ _ _ _ _ _ _ C I w => lv_aload C.1 C.2.1 d (I.2.2 21 _ rfl) w)
theorem xr_ll21 {y0 y1 y2 y3 y4 y5 y6 y7 y8 y9 y10 y11 y12 y13 y14 y15 y16 y17 y18 y19 y20 : Option Value} {x : Int64} (d : decode cc pc = .ok (.lload 21, 2)) (k : xT K B l F own ini cc nL ret mc ms rc rs Q (pc + 2) (y0 :: y1 :: y2 :: y3 :: y4 :: y5 :: y6 :: y7 :: y8 :: y9 :: y10 :: y11 :: y12 :: y13 :: y14 :: y15 :: y16 :: y17 :: y18 :: y19 :: y20 :: some (.long x) :: tl) (.long x :: st) h) : xT K B l F own ini cc nL ret mc ms rc rs Q pc (y0 :: y1 :: y2 :: y3 :: y4 :: y5 :: y6 :: y7 :: y8 :: y9 :: y10 :: y11 :: y12 :: y13 :: y14 :: y15 :: y16 :: y17 :: y18 :: y19 :: y20 :: some (.long x) :: tl) st h :=
  xT.go k (fun _ _ _ _ _ _ _ _ _ _ _ _ _ _ C I w => lv_lload C.1 C.2.1 d (I.2.2 21 _ rfl) w)
def xn2 : Option Value → Bool
  | some v => v.category != 2
  | none => true
theorem xnp_of {ls : List (Option Value)} {j : Nat} {y : Option Value} (h : ls[j]? = some y) (hy : xn2 y = true) : xnp ls (j + 1) = true := by
  unfold xnp
  simp only [h]
  cases y with
  | none => rfl
  | some v => exact hy
theorem xr_is0 {y0 : Option Value} {x : Int32} (d : decode cc pc = .ok (.istore_n 0, 1)) (hn : (0 < nL)) (k : xT K B l F own ini cc nL ret mc ms rc rs Q (pc + 1) (some (.int x) :: tl) st h) : xT K B l F own ini cc nL ret mc ms rc rs Q pc (y0 :: tl) (.int x :: st) h := by
  intro p e s m args below meth c H locs cells slots L C I
  obtain ⟨i1, i2, i3, i4, i5⟩ := I
  refine lv_istore_n C.1 C.2.1 d rfl i4.has hn rfl (fun L' hl => ?_)
  exact k p e s m args below meth c H locs cells slots L' C ⟨i1, i2, i3, xL.st1 (ls := y0 :: tl) rfl hl, i5⟩
theorem xr_as0 {y0 : Option Value} {x : Nat} (d : decode cc pc = .ok (.astore_n 0, 1)) (hn : (0 < nL)) (k : xT K B l F own ini cc nL ret mc ms rc rs Q (pc + 1) (some (.ref x) :: tl) st h) : xT K B l F own ini cc nL ret mc ms rc rs Q pc (y0 :: tl) (.ref x :: st) h := by
  intro p e s m args below meth c H locs cells slots L C I
  obtain ⟨i1, i2, i3, i4, i5⟩ := I
  refine lv_astore_n C.1 C.2.1 d rfl i4.has hn rfl (fun L' hl => ?_)
  exact k p e s m args below meth c H locs cells slots L' C ⟨i1, i2, i3, xL.st1 (ls := y0 :: tl) rfl hl, i5⟩
theorem xr_ls0 {y0 y1 : Option Value} {x : Int64} (d : decode cc pc = .ok (.lstore_n 0, 1)) (hn : (0 + 1 < nL)) (k : xT K B l F own ini cc nL ret mc ms rc rs Q (pc + 1) (some (.long x) :: none :: tl) st h) : xT K B l F own ini cc nL ret mc ms rc rs Q pc (y0 :: y1 :: tl) (.long x :: st) h := by
  intro p e s m args below meth c H locs cells slots L C I
  obtain ⟨i1, i2, i3, i4, i5⟩ := I
  refine lv_lstore_n C.1 C.2.1 d rfl i4.has hn rfl (fun L' hl => ?_)
  exact k p e s m args below meth c H locs cells slots L' C ⟨i1, i2, i3, xL.st2 (ls := y0 :: y1 :: tl) rfl hl, i5⟩
theorem xr_inc0 {x v : Int32} {n : Int} (d : decode cc pc = .ok (.iinc 0 n, 3)) (hv : x + Int32.ofInt n = v) (hn : 0 < nL) (k : xT K B l F own ini cc nL ret mc ms rc rs Q (pc + 3) (some (.int v) :: tl) st h) : xT K B l F own ini cc nL ret mc ms rc rs Q pc (some (.int x) :: tl) st h := by
  intro p e s m args below meth c H locs cells slots L C I
  obtain ⟨i1, i2, i3, i4, i5⟩ := I
  obtain ⟨kx, hkx⟩ := List.getElem?_of_mem (xas_mem.mpr (show (some (.int x) :: tl)[0]? = some (some (.int x)) from rfl))
  refine lv_iinc C.1 C.2.1 d i4.has hkx hv hn rfl (fun L' hl => ?_)
  exact k p e s m args below meth c H locs cells slots L' C ⟨i1, i2, i3, xL.st1 (ls := some (.int x) :: tl) rfl hl, i5⟩
theorem xr_fg0 {y0 : Option Value} (k : xT K B l F own ini cc nL ret mc ms rc rs Q pc (none :: tl) st h) : xT K B l F own ini cc nL ret mc ms rc rs Q pc (y0 :: tl) st h := by
  refine xT.weak (fun j v hj => ?_) k
  cases j with
  | zero => cases hj
  | succ j =>
  exact hj
theorem xr_is1 {y0 y1 : Option Value} {x : Int32} (d : decode cc pc = .ok (.istore_n 1, 1)) (hn : (1 < nL)) (hp : xn2 y0 = true) (k : xT K B l F own ini cc nL ret mc ms rc rs Q (pc + 1) (y0 :: some (.int x) :: tl) st h) : xT K B l F own ini cc nL ret mc ms rc rs Q pc (y0 :: y1 :: tl) (.int x :: st) h := by
  intro p e s m args below meth c H locs cells slots L C I
  obtain ⟨i1, i2, i3, i4, i5⟩ := I
  refine lv_istore_n C.1 C.2.1 d rfl i4.has hn rfl (fun L' hl => ?_)
  exact k p e s m args below meth c H locs cells slots L' C ⟨i1, i2, i3, xL.st1 (ls := y0 :: y1 :: tl) (xnp_of (j := 0) rfl hp) hl, i5⟩
theorem xr_as1 {y0 y1 : Option Value} {x : Nat} (d : decode cc pc = .ok (.astore_n 1, 1)) (hn : (1 < nL)) (hp : xn2 y0 = true) (k : xT K B l F own ini cc nL ret mc ms rc rs Q (pc + 1) (y0 :: some (.ref x) :: tl) st h) : xT K B l F own ini cc nL ret mc ms rc rs Q pc (y0 :: y1 :: tl) (.ref x :: st) h := by
  intro p e s m args below meth c H locs cells slots L C I
  obtain ⟨i1, i2, i3, i4, i5⟩ := I
  refine lv_astore_n C.1 C.2.1 d rfl i4.has hn rfl (fun L' hl => ?_)
  exact k p e s m args below meth c H locs cells slots L' C ⟨i1, i2, i3, xL.st1 (ls := y0 :: y1 :: tl) (xnp_of (j := 0) rfl hp) hl, i5⟩
theorem xr_ls1 {y0 y1 y2 : Option Value} {x : Int64} (d : decode cc pc = .ok (.lstore_n 1, 1)) (hn : (1 + 1 < nL)) (hp : xn2 y0 = true) (k : xT K B l F own ini cc nL ret mc ms rc rs Q (pc + 1) (y0 :: some (.long x) :: none :: tl) st h) : xT K B l F own ini cc nL ret mc ms rc rs Q pc (y0 :: y1 :: y2 :: tl) (.long x :: st) h := by
  intro p e s m args below meth c H locs cells slots L C I
  obtain ⟨i1, i2, i3, i4, i5⟩ := I
  refine lv_lstore_n C.1 C.2.1 d rfl i4.has hn rfl (fun L' hl => ?_)
  exact k p e s m args below meth c H locs cells slots L' C ⟨i1, i2, i3, xL.st2 (ls := y0 :: y1 :: y2 :: tl) (xnp_of (j := 0) rfl hp) hl, i5⟩
theorem xr_inc1 {y0 : Option Value} {x v : Int32} {n : Int} (d : decode cc pc = .ok (.iinc 1 n, 3)) (hv : x + Int32.ofInt n = v) (hn : 1 < nL) (hp : xn2 y0 = true) (k : xT K B l F own ini cc nL ret mc ms rc rs Q (pc + 3) (y0 :: some (.int v) :: tl) st h) : xT K B l F own ini cc nL ret mc ms rc rs Q pc (y0 :: some (.int x) :: tl) st h := by
  intro p e s m args below meth c H locs cells slots L C I
  obtain ⟨i1, i2, i3, i4, i5⟩ := I
  obtain ⟨kx, hkx⟩ := List.getElem?_of_mem (xas_mem.mpr (show (y0 :: some (.int x) :: tl)[1]? = some (some (.int x)) from rfl))
  refine lv_iinc C.1 C.2.1 d i4.has hkx hv hn rfl (fun L' hl => ?_)
  exact k p e s m args below meth c H locs cells slots L' C ⟨i1, i2, i3, xL.st1 (ls := y0 :: some (.int x) :: tl) (xnp_of (j := 0) rfl hp) hl, i5⟩
theorem xr_fg1 {y0 y1 : Option Value} (k : xT K B l F own ini cc nL ret mc ms rc rs Q pc (y0 :: none :: tl) st h) : xT K B l F own ini cc nL ret mc ms rc rs Q pc (y0 :: y1 :: tl) st h := by
  refine xT.weak (fun j v hj => ?_) k
  cases j with
  | zero => exact hj
  | succ j =>
  cases j with
  | zero => cases hj
  | succ j =>
  exact hj
theorem xr_is2 {y0 y1 y2 : Option Value} {x : Int32} (d : decode cc pc = .ok (.istore_n 2, 1)) (hn : (2 < nL)) (hp : xn2 y1 = true) (k : xT K B l F own ini cc nL ret mc ms rc rs Q (pc + 1) (y0 :: y1 :: some (.int x) :: tl) st h) : xT K B l F own ini cc nL ret mc ms rc rs Q pc (y0 :: y1 :: y2 :: tl) (.int x :: st) h := by
  intro p e s m args below meth c H locs cells slots L C I
  obtain ⟨i1, i2, i3, i4, i5⟩ := I
  refine lv_istore_n C.1 C.2.1 d rfl i4.has hn rfl (fun L' hl => ?_)
  exact k p e s m args below meth c H locs cells slots L' C ⟨i1, i2, i3, xL.st1 (ls := y0 :: y1 :: y2 :: tl) (xnp_of (j := 1) rfl hp) hl, i5⟩
theorem xr_as2 {y0 y1 y2 : Option Value} {x : Nat} (d : decode cc pc = .ok (.astore_n 2, 1)) (hn : (2 < nL)) (hp : xn2 y1 = true) (k : xT K B l F own ini cc nL ret mc ms rc rs Q (pc + 1) (y0 :: y1 :: some (.ref x) :: tl) st h) : xT K B l F own ini cc nL ret mc ms rc rs Q pc (y0 :: y1 :: y2 :: tl) (.ref x :: st) h := by
  intro p e s m args below meth c H locs cells slots L C I
  obtain ⟨i1, i2, i3, i4, i5⟩ := I
  refine lv_astore_n C.1 C.2.1 d rfl i4.has hn rfl (fun L' hl => ?_)
  exact k p e s m args below meth c H locs cells slots L' C ⟨i1, i2, i3, xL.st1 (ls := y0 :: y1 :: y2 :: tl) (xnp_of (j := 1) rfl hp) hl, i5⟩
theorem xr_ls2 {y0 y1 y2 y3 : Option Value} {x : Int64} (d : decode cc pc = .ok (.lstore_n 2, 1)) (hn : (2 + 1 < nL)) (hp : xn2 y1 = true) (k : xT K B l F own ini cc nL ret mc ms rc rs Q (pc + 1) (y0 :: y1 :: some (.long x) :: none :: tl) st h) : xT K B l F own ini cc nL ret mc ms rc rs Q pc (y0 :: y1 :: y2 :: y3 :: tl) (.long x :: st) h := by
  intro p e s m args below meth c H locs cells slots L C I
  obtain ⟨i1, i2, i3, i4, i5⟩ := I
  refine lv_lstore_n C.1 C.2.1 d rfl i4.has hn rfl (fun L' hl => ?_)
  exact k p e s m args below meth c H locs cells slots L' C ⟨i1, i2, i3, xL.st2 (ls := y0 :: y1 :: y2 :: y3 :: tl) (xnp_of (j := 1) rfl hp) hl, i5⟩
theorem xr_inc2 {y0 y1 : Option Value} {x v : Int32} {n : Int} (d : decode cc pc = .ok (.iinc 2 n, 3)) (hv : x + Int32.ofInt n = v) (hn : 2 < nL) (hp : xn2 y1 = true) (k : xT K B l F own ini cc nL ret mc ms rc rs Q (pc + 3) (y0 :: y1 :: some (.int v) :: tl) st h) : xT K B l F own ini cc nL ret mc ms rc rs Q pc (y0 :: y1 :: some (.int x) :: tl) st h := by
  intro p e s m args below meth c H locs cells slots L C I
  obtain ⟨i1, i2, i3, i4, i5⟩ := I
  obtain ⟨kx, hkx⟩ := List.getElem?_of_mem (xas_mem.mpr (show (y0 :: y1 :: some (.int x) :: tl)[2]? = some (some (.int x)) from rfl))
  refine lv_iinc C.1 C.2.1 d i4.has hkx hv hn rfl (fun L' hl => ?_)
  exact k p e s m args below meth c H locs cells slots L' C ⟨i1, i2, i3, xL.st1 (ls := y0 :: y1 :: some (.int x) :: tl) (xnp_of (j := 1) rfl hp) hl, i5⟩
theorem xr_fg2 {y0 y1 y2 : Option Value} (k : xT K B l F own ini cc nL ret mc ms rc rs Q pc (y0 :: y1 :: none :: tl) st h) : xT K B l F own ini cc nL ret mc ms rc rs Q pc (y0 :: y1 :: y2 :: tl) st h := by
  refine xT.weak (fun j v hj => ?_) k
  cases j with
  | zero => exact hj
  | succ j =>
  cases j with
  | zero => exact hj
  | succ j =>
  cases j with
  | zero => cases hj
  | succ j =>
  exact hj
theorem xr_is3 {y0 y1 y2 y3 : Option Value} {x : Int32} (d : decode cc pc = .ok (.istore_n 3, 1)) (hn : (3 < nL)) (hp : xn2 y2 = true) (k : xT K B l F own ini cc nL ret mc ms rc rs Q (pc + 1) (y0 :: y1 :: y2 :: some (.int x) :: tl) st h) : xT K B l F own ini cc nL ret mc ms rc rs Q pc (y0 :: y1 :: y2 :: y3 :: tl) (.int x :: st) h := by
  intro p e s m args below meth c H locs cells slots L C I
  obtain ⟨i1, i2, i3, i4, i5⟩ := I
  refine lv_istore_n C.1 C.2.1 d rfl i4.has hn rfl (fun L' hl => ?_)
  exact k p e s m args below meth c H locs cells slots L' C ⟨i1, i2, i3, xL.st1 (ls := y0 :: y1 :: y2 :: y3 :: tl) (xnp_of (j := 2) rfl hp) hl, i5⟩
theorem xr_as3 {y0 y1 y2 y3 : Option Value} {x : Nat} (d : decode cc pc = .ok (.astore_n 3, 1)) (hn : (3 < nL)) (hp : xn2 y2 = true) (k : xT K B l F own ini cc nL ret mc ms rc rs Q (pc + 1) (y0 :: y1 :: y2 :: some (.ref x) :: tl) st h) : xT K B l F own ini cc nL ret mc ms rc rs Q pc (y0 :: y1 :: y2 :: y3 :: tl) (.ref x :: st) h := by
  intro p e s m args below meth c H locs cells slots L C I
  obtain ⟨i1, i2, i3, i4, i5⟩ := I
  refine lv_astore_n C.1 C.2.1 d rfl i4.has hn rfl (fun L' hl => ?_)
  exact k p e s m args below meth c H locs cells slots L' C ⟨i1, i2, i3, xL.st1 (ls := y0 :: y1 :: y2 :: y3 :: tl) (xnp_of (j := 2) rfl hp) hl, i5⟩
theorem xr_ls3 {y0 y1 y2 y3 y4 : Option Value} {x : Int64} (d : decode cc pc = .ok (.lstore_n 3, 1)) (hn : (3 + 1 < nL)) (hp : xn2 y2 = true) (k : xT K B l F own ini cc nL ret mc ms rc rs Q (pc + 1) (y0 :: y1 :: y2 :: some (.long x) :: none :: tl) st h) : xT K B l F own ini cc nL ret mc ms rc rs Q pc (y0 :: y1 :: y2 :: y3 :: y4 :: tl) (.long x :: st) h := by
  intro p e s m args below meth c H locs cells slots L C I
  obtain ⟨i1, i2, i3, i4, i5⟩ := I
  refine lv_lstore_n C.1 C.2.1 d rfl i4.has hn rfl (fun L' hl => ?_)
  exact k p e s m args below meth c H locs cells slots L' C ⟨i1, i2, i3, xL.st2 (ls := y0 :: y1 :: y2 :: y3 :: y4 :: tl) (xnp_of (j := 2) rfl hp) hl, i5⟩
theorem xr_inc3 {y0 y1 y2 : Option Value} {x v : Int32} {n : Int} (d : decode cc pc = .ok (.iinc 3 n, 3)) (hv : x + Int32.ofInt n = v) (hn : 3 < nL) (hp : xn2 y2 = true) (k : xT K B l F own ini cc nL ret mc ms rc rs Q (pc + 3) (y0 :: y1 :: y2 :: some (.int v) :: tl) st h) : xT K B l F own ini cc nL ret mc ms rc rs Q pc (y0 :: y1 :: y2 :: some (.int x) :: tl) st h := by
  intro p e s m args below meth c H locs cells slots L C I
  obtain ⟨i1, i2, i3, i4, i5⟩ := I
  obtain ⟨kx, hkx⟩ := List.getElem?_of_mem (xas_mem.mpr (show (y0 :: y1 :: y2 :: some (.int x) :: tl)[3]? = some (some (.int x)) from rfl))
  refine lv_iinc C.1 C.2.1 d i4.has hkx hv hn rfl (fun L' hl => ?_)
  exact k p e s m args below meth c H locs cells slots L' C ⟨i1, i2, i3, xL.st1 (ls := y0 :: y1 :: y2 :: some (.int x) :: tl) (xnp_of (j := 2) rfl hp) hl, i5⟩
theorem xr_fg3 {y0 y1 y2 y3 : Option Value} (k : xT K B l F own ini cc nL ret mc ms rc rs Q pc (y0 :: y1 :: y2 :: none :: tl) st h) : xT K B l F own ini cc nL ret mc ms rc rs Q pc (y0 :: y1 :: y2 :: y3 :: tl) st h := by
  refine xT.weak (fun j v hj => ?_) k
  cases j with
  | zero => exact hj
  | succ j =>
  cases j with
  | zero => exact hj
  | succ j =>
  cases j with
  | zero => exact hj
  | succ j =>
  cases j with
  | zero => cases hj
  | succ j =>
  exact hj
theorem xr_is4 {y0 y1 y2 y3 y4 : Option Value} {x : Int32} (d : decode cc pc = .ok (.istore 4, 2)) (hn : (4 < nL)) (hp : xn2 y3 = true) (k : xT K B l F own ini cc nL ret mc ms rc rs Q (pc + 2) (y0 :: y1 :: y2 :: y3 :: some (.int x) :: tl) st h) : xT K B l F own ini cc nL ret mc ms rc rs Q pc (y0 :: y1 :: y2 :: y3 :: y4 :: tl) (.int x :: st) h := by
  intro p e s m args below meth c H locs cells slots L C I
  obtain ⟨i1, i2, i3, i4, i5⟩ := I
  refine lv_istore C.1 C.2.1 d i4.has hn rfl (fun L' hl => ?_)
  exact k p e s m args below meth c H locs cells slots L' C ⟨i1, i2, i3, xL.st1 (ls := y0 :: y1 :: y2 :: y3 :: y4 :: tl) (xnp_of (j := 3) rfl hp) hl, i5⟩
theorem xr_as4 {y0 y1 y2 y3 y4 : Option Value} {x : Nat} (d : decode cc pc = .ok (.astore 4, 2)) (hn : (4 < nL)) (hp : xn2 y3 = true) (k : xT K B l F own ini cc nL ret mc ms rc rs Q (pc + 2) (y0 :: y1 :: y2 :: y3 :: some (.ref x) :: tl) st h) : xT K B l F own ini cc nL ret mc ms rc rs Q pc (y0 :: y1 :: y2 :: y3 :: y4 :: tl) (.ref x :: st) h := by
  intro p e s m args below meth c H locs cells slots L C I
  obtain ⟨i1, i2, i3, i4, i5⟩ := I
  refine lv_astore C.1 C.2.1 d i4.has hn rfl (fun L' hl => ?_)
  exact k p e s m args below meth c H locs cells slots L' C ⟨i1, i2, i3, xL.st1 (ls := y0 :: y1 :: y2 :: y3 :: y4 :: tl) (xnp_of (j := 3) rfl hp) hl, i5⟩
theorem xr_ls4 {y0 y1 y2 y3 y4 y5 : Option Value} {x : Int64} (d : decode cc pc = .ok (.lstore 4, 2)) (hn : (4 + 1 < nL)) (hp : xn2 y3 = true) (k : xT K B l F own ini cc nL ret mc ms rc rs Q (pc + 2) (y0 :: y1 :: y2 :: y3 :: some (.long x) :: none :: tl) st h) : xT K B l F own ini cc nL ret mc ms rc rs Q pc (y0 :: y1 :: y2 :: y3 :: y4 :: y5 :: tl) (.long x :: st) h := by
  intro p e s m args below meth c H locs cells slots L C I
  obtain ⟨i1, i2, i3, i4, i5⟩ := I
  refine lv_lstore C.1 C.2.1 d i4.has hn rfl (fun L' hl => ?_)
  exact k p e s m args below meth c H locs cells slots L' C ⟨i1, i2, i3, xL.st2 (ls := y0 :: y1 :: y2 :: y3 :: y4 :: y5 :: tl) (xnp_of (j := 3) rfl hp) hl, i5⟩
theorem xr_inc4 {y0 y1 y2 y3 : Option Value} {x v : Int32} {n : Int} (d : decode cc pc = .ok (.iinc 4 n, 3)) (hv : x + Int32.ofInt n = v) (hn : 4 < nL) (hp : xn2 y3 = true) (k : xT K B l F own ini cc nL ret mc ms rc rs Q (pc + 3) (y0 :: y1 :: y2 :: y3 :: some (.int v) :: tl) st h) : xT K B l F own ini cc nL ret mc ms rc rs Q pc (y0 :: y1 :: y2 :: y3 :: some (.int x) :: tl) st h := by
  intro p e s m args below meth c H locs cells slots L C I
  obtain ⟨i1, i2, i3, i4, i5⟩ := I
  obtain ⟨kx, hkx⟩ := List.getElem?_of_mem (xas_mem.mpr (show (y0 :: y1 :: y2 :: y3 :: some (.int x) :: tl)[4]? = some (some (.int x)) from rfl))
  refine lv_iinc C.1 C.2.1 d i4.has hkx hv hn rfl (fun L' hl => ?_)
  exact k p e s m args below meth c H locs cells slots L' C ⟨i1, i2, i3, xL.st1 (ls := y0 :: y1 :: y2 :: y3 :: some (.int x) :: tl) (xnp_of (j := 3) rfl hp) hl, i5⟩
theorem xr_fg4 {y0 y1 y2 y3 y4 : Option Value} (k : xT K B l F own ini cc nL ret mc ms rc rs Q pc (y0 :: y1 :: y2 :: y3 :: none :: tl) st h) : xT K B l F own ini cc nL ret mc ms rc rs Q pc (y0 :: y1 :: y2 :: y3 :: y4 :: tl) st h := by
  refine xT.weak (fun j v hj => ?_) k
  cases j with
  | zero => exact hj
  | succ j =>
  cases j with
  | zero => exact hj
  | succ j =>
  cases j with
  | zero => exact hj
  | succ j =>
  cases j with
  | zero => exact hj
  | succ j =>
  cases j with
  | zero => cases hj
  | succ j =>
  exact hj
theorem xr_is5 {y0 y1 y2 y3 y4 y5 : Option Value} {x : Int32} (d : decode cc pc = .ok (.istore 5, 2)) (hn : (5 < nL)) (hp : xn2 y4 = true) (k : xT K B l F own ini cc nL ret mc ms rc rs Q (pc + 2) (y0 :: y1 :: y2 :: y3 :: y4 :: some (.int x) :: tl) st h) : xT K B l F own ini cc nL ret mc ms rc rs Q pc (y0 :: y1 :: y2 :: y3 :: y4 :: y5 :: tl) (.int x :: st) h := by
  intro p e s m args below meth c H locs cells slots L C I
  obtain ⟨i1, i2, i3, i4, i5⟩ := I
  refine lv_istore C.1 C.2.1 d i4.has hn rfl (fun L' hl => ?_)
  exact k p e s m args below meth c H locs cells slots L' C ⟨i1, i2, i3, xL.st1 (ls := y0 :: y1 :: y2 :: y3 :: y4 :: y5 :: tl) (xnp_of (j := 4) rfl hp) hl, i5⟩
theorem xr_as5 {y0 y1 y2 y3 y4 y5 : Option Value} {x : Nat} (d : decode cc pc = .ok (.astore 5, 2)) (hn : (5 < nL)) (hp : xn2 y4 = true) (k : xT K B l F own ini cc nL ret mc ms rc rs Q (pc + 2) (y0 :: y1 :: y2 :: y3 :: y4 :: some (.ref x) :: tl) st h) : xT K B l F own ini cc nL ret mc ms rc rs Q pc (y0 :: y1 :: y2 :: y3 :: y4 :: y5 :: tl) (.ref x :: st) h := by
  intro p e s m args below meth c H locs cells slots L C I
  obtain ⟨i1, i2, i3, i4, i5⟩ := I
  refine lv_astore C.1 C.2.1 d i4.has hn rfl (fun L' hl => ?_)
  exact k p e s m args below meth c H locs cells slots L' C ⟨i1, i2, i3, xL.st1 (ls := y0 :: y1 :: y2 :: y3 :: y4 :: y5 :: tl) (xnp_of (j := 4) rfl hp) hl, i5⟩
theorem xr_ls5 {y0 y1 y2 y3 y4 y5 y6 : Option Value} {x : Int64} (d : decode cc pc = .ok (.lstore 5, 2)) (hn : (5 + 1 < nL)) (hp : xn2 y4 = true) (k : xT K B l F own ini cc nL ret mc ms rc rs Q (pc + 2) (y0 :: y1 :: y2 :: y3 :: y4 :: some (.long x) :: none :: tl) st h) : xT K B l F own ini cc nL ret mc ms rc rs Q pc (y0 :: y1 :: y2 :: y3 :: y4 :: y5 :: y6 :: tl) (.long x :: st) h := by
  intro p e s m args below meth c H locs cells slots L C I
  obtain ⟨i1, i2, i3, i4, i5⟩ := I
  refine lv_lstore C.1 C.2.1 d i4.has hn rfl (fun L' hl => ?_)
  exact k p e s m args below meth c H locs cells slots L' C ⟨i1, i2, i3, xL.st2 (ls := y0 :: y1 :: y2 :: y3 :: y4 :: y5 :: y6 :: tl) (xnp_of (j := 4) rfl hp) hl, i5⟩
theorem xr_inc5 {y0 y1 y2 y3 y4 : Option Value} {x v : Int32} {n : Int} (d : decode cc pc = .ok (.iinc 5 n, 3)) (hv : x + Int32.ofInt n = v) (hn : 5 < nL) (hp : xn2 y4 = true) (k : xT K B l F own ini cc nL ret mc ms rc rs Q (pc + 3) (y0 :: y1 :: y2 :: y3 :: y4 :: some (.int v) :: tl) st h) : xT K B l F own ini cc nL ret mc ms rc rs Q pc (y0 :: y1 :: y2 :: y3 :: y4 :: some (.int x) :: tl) st h := by
  intro p e s m args below meth c H locs cells slots L C I
  obtain ⟨i1, i2, i3, i4, i5⟩ := I
  obtain ⟨kx, hkx⟩ := List.getElem?_of_mem (xas_mem.mpr (show (y0 :: y1 :: y2 :: y3 :: y4 :: some (.int x) :: tl)[5]? = some (some (.int x)) from rfl))
  refine lv_iinc C.1 C.2.1 d i4.has hkx hv hn rfl (fun L' hl => ?_)
  exact k p e s m args below meth c H locs cells slots L' C ⟨i1, i2, i3, xL.st1 (ls := y0 :: y1 :: y2 :: y3 :: y4 :: some (.int x) :: tl) (xnp_of (j := 4) rfl hp) hl, i5⟩
theorem xr_fg5 {y0 y1 y2 y3 y4 y5 : Option Value} (k : xT K B l F own ini cc nL ret mc ms rc rs Q pc (y0 :: y1 :: y2 :: y3 :: y4 :: none :: tl) st h) : xT K B l F own ini cc nL ret mc ms rc rs Q pc (y0 :: y1 :: y2 :: y3 :: y4 :: y5 :: tl) st h := by
  refine xT.weak (fun j v hj => ?_) k
  cases j with
  | zero => exact hj
  | succ j =>
  cases j with
  | zero => exact hj
  | succ j =>
  cases j with
  | zero => exact hj
  | succ j =>
  cases j with
  | zero => exact hj
  | succ j =>
  cases j with
  | zero => exact hj
  | succ j =>
  cases j with
  | zero => cases hj
  | succ j =>
  exact hj
theorem xr_is6 {y0 y1 y2 y3 y4 y5 y6 : Option Value} {x : Int32} (d : decode cc pc = .ok (.istore 6, 2)) (hn : (6 < nL)) (hp : xn2 y5 = true) (k : xT K B l F own ini cc nL ret mc ms rc rs Q (pc + 2) (y0 :: y1 :: y2 :: y3 :: y4 :: y5 :: some (.int x) :: tl) st h) : xT K B l F own ini cc nL ret mc ms rc rs Q pc (y0 :: y1 :: y2 :: y3 :: y4 :: y5 :: y6 :: tl) (.int x :: st) h := by
  intro p e s m args below meth c H locs cells slots L C I
  obtain ⟨i1, i2, i3, i4, i5⟩ := I
  refine lv_istore C.1 C.2.1 d i4.has hn rfl (fun L' hl => ?_)
  exact k p e s m args below meth c H locs cells slots L' C ⟨i1, i2, i3, xL.st1 (ls := y0 :: y1 :: y2 :: y3 :: y4 :: y5 :: y6 :: tl) (xnp_of (j := 5) rfl hp) hl, i5⟩
theorem xr_as6 {y0 y1 y2 y3 y4 y5 y6 : Option Value} {x : Nat} (d : decode cc pc = .ok (.astore 6, 2)) (hn : (6 < nL)) (hp : xn2 y5 = true) (k : xT K B l F own ini cc nL ret mc ms rc rs Q (pc + 2) (y0 :: y1 :: y2 :: y3 :: y4 :: y5 :: some (.ref x) :: tl) st h) : xT K B l F own ini cc nL ret mc ms rc rs Q pc (y0 :: y1 :: y2 :: y3 :: y4 :: y5 :: y6 :: tl) (.ref x :: st) h := by
  intro p e s m args below meth c H locs cells slots L C I
  obtain ⟨i1, i2, i3, i4, i5⟩ := I
  refine lv_astore C.1 C.2.1 d i4.has hn rfl (fun L' hl => ?_)
  exact k p e s m args below meth c H locs cells slots L' C ⟨i1, i2, i3, xL.st1 (ls := y0 :: y1 :: y2 :: y3 :: y4 :: y5 :: y6 :: tl) (xnp_of (j := 5) rfl hp) hl, i5⟩
theorem xr_ls6 {y0 y1 y2 y3 y4 y5 y6 y7 : Option Value} {x : Int64} (d : decode cc pc = .ok (.lstore 6, 2)) (hn : (6 + 1 < nL)) (hp : xn2 y5 = true) (k : xT K B l F own ini cc nL ret mc ms rc rs Q (pc + 2) (y0 :: y1 :: y2 :: y3 :: y4 :: y5 :: some (.long x) :: none :: tl) st h) : xT K B l F own ini cc nL ret mc ms rc rs Q pc (y0 :: y1 :: y2 :: y3 :: y4 :: y5 :: y6 :: y7 :: tl) (.long x :: st) h := by
  intro p e s m args below meth c H locs cells slots L C I
  obtain ⟨i1, i2, i3, i4, i5⟩ := I
  refine lv_lstore C.1 C.2.1 d i4.has hn rfl (fun L' hl => ?_)
  exact k p e s m args below meth c H locs cells slots L' C ⟨i1, i2, i3, xL.st2 (ls := y0 :: y1 :: y2 :: y3 :: y4 :: y5 :: y6 :: y7 :: tl) (xnp_of (j := 5) rfl hp) hl, i5⟩
theorem xr_inc6 {y0 y1 y2 y3 y4 y5 : Option Value} {x v : Int32} {n : Int} (d : decode cc pc = .ok (.iinc 6 n, 3)) (hv : x + Int32.ofInt n = v) (hn : 6 < nL) (hp : xn2 y5 = true) (k : xT K B l F own ini cc nL ret mc ms rc rs Q (pc + 3) (y0 :: y1 :: y2 :: y3 :: y4 :: y5 :: some (.int v) :: tl) st h) : xT K B l F own ini cc nL ret mc ms rc rs Q pc (y0 :: y1 :: y2 :: y3 :: y4 :: y5 :: some (.int x) :: tl) st h := by
  intro p e s m args below meth c H locs cells slots L C I
  obtain ⟨i1, i2, i3, i4, i5⟩ := I
  obtain ⟨kx, hkx⟩ := List.getElem?_of_mem (xas_mem.mpr (show (y0 :: y1 :: y2 :: y3 :: y4 :: y5 :: some (.int x) :: tl)[6]? = some (some (.int x)) from rfl))
  refine lv_iinc C.1 C.2.1 d i4.has hkx hv hn rfl (fun L' hl => ?_)
  exact k p e s m args below meth c H locs cells slots L' C ⟨i1, i2, i3, xL.st1 (ls := y0 :: y1 :: y2 :: y3 :: y4 :: y5 :: some (.int x) :: tl) (xnp_of (j := 5) rfl hp) hl, i5⟩
theorem xr_fg6 {y0 y1 y2 y3 y4 y5 y6 : Option Value} (k : xT K B l F own ini cc nL ret mc ms rc rs Q pc (y0 :: y1 :: y2 :: y3 :: y4 :: y5 :: none :: tl) st h) : xT K B l F own ini cc nL ret mc ms rc rs Q pc (y0 :: y1 :: y2 :: y3 :: y4 :: y5 :: y6 :: tl) st h := by
  refine xT.weak (fun j v hj => ?_) k
  cases j with
  | zero => exact hj
  | succ j =>
  cases j with
  | zero => exact hj
  | succ j =>
  cases j with
  | zero => exact hj
  | succ j =>
  cases j with
  | zero => exact hj
  | succ j =>
  cases j with
  | zero => exact hj
  | succ j =>
  cases j with
  | zero => exact hj
  | succ j =>
  cases j with
  | zero => cases hj
  | succ j =>
  exact hj
theorem xr_is7 {y0 y1 y2 y3 y4 y5 y6 y7 : Option Value} {x : Int32} (d : decode cc pc = .ok (.istore 7, 2)) (hn : (7 < nL)) (hp : xn2 y6 = true) (k : xT K B l F own ini cc nL ret mc ms rc rs Q (pc + 2) (y0 :: y1 :: y2 :: y3 :: y4 :: y5 :: y6 :: some (.int x) :: tl) st h) : xT K B l F own ini cc nL ret mc ms rc rs Q pc (y0 :: y1 :: y2 :: y3 :: y4 :: y5 :: y6 :: y7 :: tl) (.int x :: st) h := by
  intro p e s m args below meth c H locs cells slots L C I
  obtain ⟨i1, i2, i3, i4, i5⟩ := I
  refine lv_istore C.1 C.2.1 d i4.has hn rfl (fun L' hl => ?_)
  exact k p e s m args below meth c H locs cells slots L' C ⟨i1, i2, i3, xL.st1 (ls := y0 :: y1 :: y2 :: y3 :: y4 :: y5 :: y6 :: y7 :: tl) (xnp_of (j := 6) rfl hp) hl, i5⟩
theorem xr_as7 {y0 y1 y2 y3 y4 y5 y6 y7 : Option Value} {x : Nat} (d : decode cc pc = .ok (.astore 7, 2)) (hn : (7 < nL)) (hp : xn2 y6 = true) (k : xT K B l F own ini cc nL ret mc ms rc rs Q (pc + 2) (y0 :: y1 :: y2 :: y3 :: y4 :: y5 :: y6 :: some (.ref x) :: tl) st h) : xT K B l F own ini cc nL ret mc ms rc rs Q pc (y0 :: y1 :: y2 :: y3 :: y4 :: y5 :: y6 :: y7 :: tl) (.ref x :: st) h := by
  intro p e s m args below meth c H locs cells slots L C I
  obtain ⟨i1, i2, i3, i4, i5⟩ := I
  refine lv_astore C.1 C.2.1 d i4.has hn rfl (fun L' hl => ?_)
  exact k p e s m args below meth c H locs cells slots L' C ⟨i1, i2, i3, xL.st1 (ls := y0 :: y1 :: y2 :: y3 :: y4 :: y5 :: y6 :: y7 :: tl) (xnp_of (j := 6) rfl hp) hl, i5⟩
theorem xr_ls7 {y0 y1 y2 y3 y4 y5 y6 y7 y8 : Option Value} {x : Int64} (d : decode cc pc = .ok (.lstore 7, 2)) (hn : (7 + 1 < nL)) (hp : xn2 y6 = true) (k : xT K B l F own ini cc nL ret mc ms rc rs Q (pc + 2) (y0 :: y1 :: y2 :: y3 :: y4 :: y5 :: y6 :: some (.long x) :: none :: tl) st h) : xT K B l F own ini cc nL ret mc ms rc rs Q pc (y0 :: y1 :: y2 :: y3 :: y4 :: y5 :: y6 :: y7 :: y8 :: tl) (.long x :: st) h := by
  intro p e s m args below meth c H locs cells slots L C I
  obtain ⟨i1, i2, i3, i4, i5⟩ := I
  refine lv_lstore C.1 C.2.1 d i4.has hn rfl (fun L' hl => ?_)
  exact k p e s m args below meth c H locs cells slots L' C ⟨i1, i2, i3, xL.st2 (ls := y0 :: y1 :: y2 :: y3 :: y4 :: y5 :: y6 :: y7 :: y8 :: tl) (xnp_of (j := 6) rfl hp) hl, i5⟩
theorem xr_inc7 {y0 y1 y2 y3 y4 y5 y6 : Option Value} {x v : Int32} {n : Int} (d : decode cc pc = .ok (.iinc 7 n, 3)) (hv : x + Int32.ofInt n = v) (hn : 7 < nL) (hp : xn2 y6 = true) (k : xT K B l F own ini cc nL ret mc ms rc rs Q (pc + 3) (y0 :: y1 :: y2 :: y3 :: y4 :: y5 :: y6 :: some (.int v) :: tl) st h) : xT K B l F own ini cc nL ret mc ms rc rs Q pc (y0 :: y1 :: y2 :: y3 :: y4 :: y5 :: y6 :: some (.int x) :: tl) st h := by
  intro p e s m args below meth c H locs cells slots L C I
  obtain ⟨i1, i2, i3, i4, i5⟩ := I
  obtain ⟨kx, hkx⟩ := List.getElem?_of_mem (xas_mem.mpr (show (y0 :: y1 :: y2 :: y3 :: y4 :: y5 :: y6 :: some (.int x) :: tl)[7]? = some (some (.int x)) from rfl))
  refine lv_iinc C.1 C.2.1 d i4.has hkx hv hn rfl (fun L' hl => ?_)
  exact k p e s m args below meth c H locs cells slots L' C ⟨i1, i2, i3, xL.st1 (ls := y0 :: y1 :: y2 :: y3 :: y4 :: y5 :: y6 :: some (.int x) :: tl) (xnp_of (j := 6) rfl hp) hl, i5⟩
theorem xr_fg7 {y0 y1 y2 y3 y4 y5 y6 y7 : Option Value} (k : xT K B l F own ini cc nL ret mc ms rc rs Q pc (y0 :: y1 :: y2 :: y3 :: y4 :: y5 :: y6 :: none :: tl) st h) : xT K B l F own ini cc nL ret mc ms rc rs Q pc (y0 :: y1 :: y2 :: y3 :: y4 :: y5 :: y6 :: y7 :: tl) st h := by
  refine xT.weak (fun j v hj => ?_) k
  cases j with
  | zero => exact hj
  | succ j =>
  cases j with
  | zero => exact hj
  | succ j =>
  cases j with
  | zero => exact hj
  | succ j =>
  cases j with
  | zero => exact hj
  | succ j =>
  cases j with
  | zero => exact hj
  | succ j =>
  cases j with
  | zero => exact hj
  | succ j =>
  cases j with
  | zero => exact hj
  | succ j =>
  cases j with
  | zero => cases hj
  | succ j =>
  exact hj
theorem xr_is8 {y0 y1 y2 y3 y4 y5 y6 y7 y8 : Option Value} {x : Int32} (d : decode cc pc = .ok (.istore 8, 2)) (hn : (8 < nL)) (hp : xn2 y7 = true) (k : xT K B l F own ini cc nL ret mc ms rc rs Q (pc + 2) (y0 :: y1 :: y2 :: y3 :: y4 :: y5 :: y6 :: y7 :: some (.int x) :: tl) st h) : xT K B l F own ini cc nL ret mc ms rc rs Q pc (y0 :: y1 :: y2 :: y3 :: y4 :: y5 :: y6 :: y7 :: y8 :: tl) (.int x :: st) h := by
  intro p e s m args below meth c H locs cells slots L C I
  obtain ⟨i1, i2, i3, i4, i5⟩ := I
  refine lv_istore C.1 C.2.1 d i4.has hn rfl (fun L' hl => ?_)
  exact k p e s m args below meth c H locs cells slots L' C ⟨i1, i2, i3, xL.st1 (ls := y0 :: y1 :: y2 :: y3 :: y4 :: y5 :: y6 :: y7 :: y8 :: tl) (xnp_of (j := 7) rfl hp) hl, i5⟩
theorem xr_as8 {y0 y1 y2 y3 y4 y5 y6 y7 y8 : Option Value} {x : Nat} (d : decode cc pc = .ok (.astore 8, 2)) (hn : (8 < nL)) (hp : xn2 y7 = true) (k : xT K B l F own ini cc nL ret mc ms rc rs Q (pc + 2) (y0 :: y1 :: y2 :: y3 :: y4 :: y5 :: y6 :: y7 :: some (.ref x) :: tl) st h) : xT K B l F own ini cc nL ret mc ms rc rs Q pc (y0 :: y1 :: y2 :: y3 :: y4 :: y5 :: y6 :: y7 :: y8 :: tl) (.ref x :: st) h := by
  intro p e s m args below meth c H locs cells slots L C I
  obtain ⟨i1, i2, i3, i4, i5⟩ := I
  refine lv_astore C.1 C.2.1 d i4.has hn rfl (fun L' hl => ?_)
  exact k p e s m args below meth c H locs cells slots L' C ⟨i1, i2, i3, xL.st1 (ls := y0 :: y1 :: y2 :: y3 :: y4 :: y5 :: y6 :: y7 :: y8 :: tl) (xnp_of (j := 7) rfl hp) hl, i5⟩
theorem xr_ls8 {y0 y1 y2 y3 y4 y5 y6 y7 y8 y9 : Option Value} {x : Int64} (d : decode cc pc = .ok (.lstore 8, 2)) (hn : (8 + 1 < nL)) (hp : xn2 y7 = true) (k : xT K B l F own ini cc nL ret mc ms rc rs Q (pc + 2) (y0 :: y1 :: y2 :: y3 :: y4 :: y5 :: y6 :: y7 :: some (.long x) :: none :: tl) st h) : xT K B l F own ini cc nL ret mc ms rc rs Q pc (y0 :: y1 :: y2 :: y3 :: y4 :: y5 :: y6 :: y7 :: y8 :: y9 :: tl) (.long x :: st) h := by
  intro p e s m args below meth c H locs cells slots L C I
  obtain ⟨i1, i2, i3, i4, i5⟩ := I
  refine lv_lstore C.1 C.2.1 d i4.has hn rfl (fun L' hl => ?_)
  exact k p e s m args below meth c H locs cells slots L' C ⟨i1, i2, i3, xL.st2 (ls := y0 :: y1 :: y2 :: y3 :: y4 :: y5 :: y6 :: y7 :: y8 :: y9 :: tl) (xnp_of (j := 7) rfl hp) hl, i5⟩
theorem xr_inc8 {y0 y1 y2 y3 y4 y5 y6 y7 : Option Value} {x v : Int32} {n : Int} (d : decode cc pc = .ok (.iinc 8 n, 3)) (hv : x + Int32.ofInt n = v) (hn : 8 < nL) (hp : xn2 y7 = true) (k : xT K B l F own ini cc nL ret mc ms rc rs Q (pc + 3) (y0 :: y1 :: y2 :: y3 :: y4 :: y5 :: y6 :: y7 :: some (.int v) :: tl) st h) : xT K B l F own ini cc nL ret mc ms rc rs Q pc (y0 :: y1 :: y2 :: y3 :: y4 :: y5 :: y6 :: y7 :: some (.int x) :: tl) st h := by
  intro p e s m args below meth c H locs cells slots L C I
  obtain ⟨i1, i2, i3, i4, i5⟩ := I
  obtain ⟨kx, hkx⟩ := List.getElem?_of_mem (xas_mem.mpr (show (y0 :: y1 :: y2 :: y3 :: y4 :: y5 :: y6 :: y7 :: some (.int x) :: tl)[8]? = some (some (.int x)) from rfl))
  refine lv_iinc C.1 C.2.1 d i4.has hkx hv hn rfl (fun L' hl => ?_)
  exact k p e s m args below meth c H locs cells slots L' C ⟨i1, i2, i3, xL.st1 (ls := y0 :: y1 :: y2 :: y3 :: y4 :: y5 :: y6 :: y7 :: some (.int x) :: tl) (xnp_of (j := 7) rfl hp) hl, i5⟩
theorem xr_fg8 {y0 y1 y2 y3 y4 y5 y6 y7 y8 : Option Value} (k : xT K B l F own ini cc nL ret mc ms rc rs Q pc (y0 :: y1 :: y2 :: y3 :: y4 :: y5 :: y6 :: y7 :: none :: tl) st h) : xT K B l F own ini cc nL ret mc ms rc rs Q pc (y0 :: y1 :: y2 :: y3 :: y4 :: y5 :: y6 :: y7 :: y8 :: tl) st h := by
  refine xT.weak (fun j v hj => ?_) k
  cases j with
  | zero => exact hj
  | succ j =>
  cases j with
  | zero => exact hj
  | succ j =>
  cases j with
  | zero => exact hj
  | succ j =>
  cases j with
  | zero => exact hj
  | succ j =>
  cases j with
  | zero => exact hj
  | succ j =>
  cases j with
  | zero => exact hj
  | succ j =>
  cases j with
  | zero => exact hj
  | succ j =>
  cases j with
  | zero => exact hj
  | succ j =>
  cases j with
  | zero => cases hj
  | succ j =>
  exact hj
theorem xr_is9 {y0 y1 y2 y3 y4 y5 y6 y7 y8 y9 : Option Value} {x : Int32} (d : decode cc pc = .ok (.istore 9, 2)) (hn : (9 < nL)) (hp : xn2 y8 = true) (k : xT K B l F own ini cc nL ret mc ms rc rs Q (pc + 2) (y0 :: y1 :: y2 :: y3 :: y4 :: y5 :: y6 :: y7 :: y8 :: some (.int x) :: tl) st h) : xT K B l F own ini cc nL ret mc ms rc rs Q pc (y0 :: y1 :: y2 :: y3 :: y4 :: y5 :: y6 :: y7 :: y8 :: y9 :: tl) (.int x :: st) h := by
  intro p e s m args below meth c H locs cells slots L C I
  obtain ⟨i1, i2, i3, i4, i5⟩ := I
  refine lv_istore C.1 C.2.1 d i4.has hn rfl (fun L' hl => ?_)
  exact k p e s m args below meth c H locs cells slots L' C ⟨i1, i2, i3, xL.st1 (ls := y0 :: y1 :: y2 :: y3 :: y4 :: y5 :: y6 :: y7 :: y8 :: y9 :: tl) (xnp_of (j := 8) rfl hp) hl, i5⟩
theorem xr_as9 {y0 y1 y2 y3 y4 y5 y6 y7 y8 y9 : Option Value} {x : Nat} (d : decode cc pc = .ok (.astore 9, 2)) (hn : (9 < nL)) (hp : xn2 y8 = true) (k : xT K B l F own ini cc nL ret mc ms rc rs Q (pc + 2) (y0 :: y1 :: y2 :: y3 :: y4 :: y5 :: y6 :: y7 :: y8 :: some (.ref x) :: tl) st h) : xT K B l F own ini cc nL ret mc ms rc rs Q pc (y0 :: y1 :: y2 :: y3 :: y4 :: y5 :: y6 :: y7 :: y8 :: y9 :: tl) (.ref x :: st) h := by
  intro p e s m args below meth c H locs cells slots L C I
  obtain ⟨i1, i2, i3, i4, i5⟩ := I
  refine lv_astore C.1 C.2.1 d i4.has hn rfl (fun L' hl => ?_)
  exact k p e s m args below meth c H locs cells slots L' C ⟨i1, i2, i3, xL.st1 (ls := y0 :: y1 :: y2 :: y3 :: y4 :: y5 :: y6 :: y7 :: y8 :: y9 :: tl) (xnp_of (j := 8) rfl hp) hl, i5⟩
theorem xr_ls9 {y0 y1 y2 y3 y4 y5 y6 y7 y8 y9 y10 : Option Value} {x : Int64} (d : decode cc pc = .ok (.lstore 9, 2)) (hn : (9 + 1 < nL)) (hp : xn2 y8 = true) (k : xT K B l F own ini cc nL ret mc ms rc rs Q (pc + 2) (y0 :: y1 :: y2 :: y3 :: y4 :: y5 :: y6 :: y7 :: y8 :: some (.long x) :: none :: tl) st h) : xT K B l F own ini cc nL ret mc ms rc rs Q pc (y0 :: y1 :: y2 :: y3 :: y4 :: y5 :: y6 :: y7 :: y8 :: y9 :: y10 :: tl) (.long x :: st) h := by
  intro p e s m args below meth c H locs cells slots L C I
  obtain ⟨i1, i2, i3, i4, i5⟩ := I
  refine lv_lstore C.1 C.2.1 d i4.has hn rfl (fun L' hl => ?_)
  exact k p e s m args below meth c H locs cells slots L' C ⟨i1, i2, i3, xL.st2 (ls := y0 :: y1 :: y2 :: y3 :: y4 :: y5 :: y6 :: y7 :: y8 :: y9 :: y10 :: tl) (xnp_of (j := 8) rfl hp) hl, i5⟩
theorem xr_inc9 {y0 y1 y2 y3 y4 y5 y6 y7 y8 : Option Value} {x v : Int32} {n : Int} (d : decode cc pc = .ok (.iinc 9 n, 3)) (hv : x + Int32.ofInt n = v) (hn : 9 < nL) (hp : xn2 y8 = true) (k : xT K B l F own ini cc nL ret mc ms rc rs Q (pc + 3) (y0 :: y1 :: y2 :: y3 :: y4 :: y5 :: y6 :: y7 :: y8 :: some (.int v) :: tl) st h) : xT K B l F own ini cc nL ret mc ms rc rs Q pc (y0 :: y1 :: y2 :: y3 :: y4 :: y5 :: y6 :: y7 :: y8 :: some (.int x) :: tl) st h := by
  intro p e s m args below meth c H locs cells slots L C I
  obtain ⟨i1, i2, i3, i4, i5⟩ := I
  obtain ⟨kx, hkx⟩ := List.getElem?_of_mem (xas_mem.mpr (show (y0 :: y1 :: y2 :: y3 :: y4 :: y5 :: y6 :: y7 :: y8 :: some (.int x) :: tl)[9]? = some (some (.int x)) from rfl))
  refine lv_iinc C.1 C.2.1 d i4.has hkx hv hn rfl (fun L' hl => ?_)
  exact k p e s m args below meth c H locs cells slots L' C ⟨i1, i2, i3, xL.st1 (ls := y0 :: y1 :: y2 :: y3 :: y4 :: y5 :: y6 :: y7 :: y8 :: some (.int x) :: tl) (xnp_of (j := 8) rfl hp) hl, i5⟩
theorem xr_fg9 {y0 y1 y2 y3 y4 y5 y6 y7 y8 y9 : Option Value} (k : xT K B l F own ini cc nL ret mc ms rc rs Q pc (y0 :: y1 :: y2 :: y3 :: y4 :: y5 :: y6 :: y7 :: y8 :: none :: tl) st h) : xT K B l F own ini cc nL ret mc ms rc rs Q pc (y0 :: y1 :: y2 :: y3 :: y4 :: y5 :: y6 :: y7 :: y8 :: y9 :: tl) st h := by
  refine xT.weak (fun j v hj => ?_) k
  cases j with
  | zero => exact hj
  | succ j =>
  cases j with
  | zero => exact hj
  | succ j =>
  cases j with
  | zero => exact hj
  | succ j =>
  cases j with
  | zero => exact hj
  | succ j =>
  cases j with
  | zero => exact hj
  | succ j =>
  cases j with
  | zero => exact hj
  | succ j =>
  cases j with
  | zero => exact hj
  | succ j =>
  cases j with
  | zero => exact hj
  | succ j =>
  cases j with
  | zero => exact hj
  | succ j =>
  cases j with
  | zero => cases hj
  | succ j =>
  exact hj
theorem xr_is10 {y0 y1 y2 y3 y4 y5 y6 y7 y8 y9 y10 : Option Value} {x : Int32} (d : decode cc pc = .ok (.istore 10, 2)) (hn : (10 < nL)) (hp : xn2 y9 = true) (k : xT K B l F own ini cc nL ret mc ms rc rs Q (pc + 2) (y0 :: y1 :: y2 :: y3 :: y4 :: y5 :: y6 :: y7 :: y8 :: y9 :: some (.int x) :: tl) st h) : xT K B l F own ini cc nL ret mc ms rc rs Q pc (y0 :: y1 :: y2 :: y3 :: y4 :: y5 :: y6 :: y7 :: y8 :: y9 :: y10 :: tl) (.int x :: st) h := by
  intro p e s m args below meth c H locs cells slots L C I
  obtain ⟨i1, i2, i3, i4, i5⟩ := I
  refine lv_istore C.1 C.2.1 d i4.has hn rfl (fun L' hl => ?_)
  exact k p e s m args below meth c H locs cells slots L' C ⟨i1, i2, i3, xL.st1 (ls := y0 :: y1 :: y2 :: y3 :: y4 :: y5 :: y6 :: y7 :: y8 :: y9 :: y10 :: tl) (xnp_of (j := 9) rfl hp) hl, i5⟩
theorem xr_as10 {y0 y1 y2 y3 y4 y5 y6 y7 y8 y9 y10 : Option Value} {x : Nat} (d : decode cc pc = .ok (.astore 10, 2)) (hn : (10 < nL)) (hp : xn2 y9 = true) (k : xT K B l F own ini cc nL ret mc ms rc rs Q (pc + 2) (y0 :: y1 :: y2 :: y3 :: y4 :: y5 :: y6 :: y7 :: y8 :: y9 :: some (.ref x) :: tl) st h) : xT K B l F own ini cc nL ret mc ms rc rs Q pc (y0 :: y1 :: y2 :: y3 :: y4 :: y5 :: y6 :: y7 :: y8 :: y9 :: y10 :: tl) (.ref x :: st) h := by
  intro p e s m args below meth c H locs cells slots L C I
  obtain ⟨i1, i2, i3, i4, i5⟩ := I
  refine lv_astore C.1 C.2.1 d i4.has hn rfl (fun L' hl => ?_)
  exact k p e s m args below meth c H locs cells slots L' C ⟨i1, i2, i3, xL.st1 (ls := y0 :: y1 :: y2 :: y3 :: y4 :: y5 :: y6 :: y7 :: y8 :: y9 :: y10 :: tl) (xnp_of (j := 9) rfl hp) hl, i5⟩
theorem xr_ls10 {y0 y1 y2 y3 y4 y5 y6 y7 y8 y9 y10 y11 : Option Value} {x : Int64} (d : decode cc pc = .ok (.lstore 10, 2)) (hn : (10 + 1 < nL)) (hp : xn2 y9 = true) (k : xT K B l F own ini cc nL ret mc ms rc rs Q (pc + 2) (y0 :: y1 :: y2 :: y3 :: y4 :: y5 :: y6 :: y7 :: y8 :: y9 :: some (.long x) :: none :: tl) st h) : xT K B l F own ini cc nL ret mc ms rc rs Q pc (y0 :: y1 :: y2 :: y3 :: y4 :: y5 :: y6 :: y7 :: y8 :: y9 :: y10 :: y11 :: tl) (.long x :: st) h := by
  intro p e s m args below meth c H locs cells slots L C I
  obtain ⟨i1, i2, i3, i4, i5⟩ := I
  refine lv_lstore C.1 C.2.1 d i4.has hn rfl (fun L' hl => ?_)
  exact k p e s m args below meth c H locs cells slots L' C ⟨i1, i2, i3, xL.st2 (ls := y0 :: y1 :: y2 :: y3 :: y4 :: y5 :: y6 :: y7 :: y8 :: y9 :: y10 :: y11 :: tl) (xnp_of (j := 9) rfl hp) hl, i5⟩
theorem xr_inc10 {y0 y1 y2 y3 y4 y5 y6 y7 y8 y9 : Option Value} {x v : Int32} {n : Int} (d : decode cc pc = .ok (.iinc 10 n, 3)) (hv : x + Int32.ofInt n = v) (hn : 10 < nL) (hp : xn2 y9 = true) (k : xT K B l F own ini cc nL ret mc ms rc rs Q (pc + 3) (y0 :: y1 :: y2 :: y3 :: y4 :: y5 :: y6 :: y7 :: y8 :: y9 :: some (.int v) :: tl) st h) : xT K B l F own ini cc nL ret mc ms rc rs Q pc (y0 :: y1 :: y2 :: y3 :: y4 :: y5 :: y6 :: y7 :: y8 :: y9 :: some (.int x) :: tl) st h := by
  intro p e s m args below meth c H locs cells slots L C I
  obtain ⟨i1, i2, i3, i4, i5⟩ := I
  obtain ⟨kx, hkx⟩ := List.getElem?_of_mem (xas_mem.mpr (show (y0 :: y1 :: y2 :: y3 :: y4 :: y5 :: y6 :: y7 :: y8 :: y9 :: some (.int x) :: tl)[10]? = some (some (.int x)) from rfl))
  refine lv_iinc C.1 C.2.1 d i4.has hkx hv hn rfl (fun L' hl => ?_)
  exact k p e s m args below meth c H locs cells slots L' C ⟨i1, i2, i3, xL.st1 (ls := y0 :: y1 :: y2 :: y3 :: y4 :: y5 :: y6 :: y7 :: y8 :: y9 :: some (.int x) :: tl) (xnp_of (j := 9) rfl hp) hl, i5⟩
theorem xr_fg10 {y0 y1 y2 y3 y4 y5 y6 y7 y8 y9 y10 : Option Value} (k : xT K B l F own ini cc nL ret mc ms rc rs Q pc (y0 :: y1 :: y2 :: y3 :: y4 :: y5 :: y6 :: y7 :: y8 :: y9 :: none :: tl) st h) : xT K B l F own ini cc nL ret mc ms rc rs Q pc (y0 :: y1 :: y2 :: y3 :: y4 :: y5 :: y6 :: y7 :: y8 :: y9 :: y10 :: tl) st h := by
  refine xT.weak (fun j v hj => ?_) k
  cases j with
  | zero => exact hj
  | succ j =>
  cases j with
  | zero => exact hj
  | succ j =>
  cases j with
  | zero => exact hj
  | succ j =>
  cases j with
  | zero => exact hj
  | succ j =>
  cases j with
  | zero => exact hj
  | succ j =>
  cases j with
  | zero => exact hj
  | succ j =>
  cases j with
  | zero => exact hj
  | succ j =>
  cases j with
  | zero => exact hj
  | succ j =>
  cases j with
  | zero => exact hj
  | succ j =>
  cases j with
  | zero => exact hj
  | succ j =>
  cases j with
  | zero => cases hj
  | succ j =>
  exact hj
theorem xr_is11 {y0 y1 y2 y3 y4 y5 y6 y7 y8 y9 y10 y11 : Option Value} {x : Int32} (d : decode cc pc = .ok (.istore 11, 2)) (hn : (11 < nL)) (hp : xn2 y10 = true) (k : xT K B l F own ini cc nL ret mc ms rc rs Q (pc + 2) (y0 :: y1 :: y2 :: y3 :: y4 :: y5 :: y6 :: y7 :: y8 :: y9 :: y10 :: some (.int x) :: tl) st h) : xT K B l F own ini cc nL ret mc ms rc rs Q pc (y0 :: y1 :: y2 :: y3 :: y4 :: y5 :: y6 :: y7 :: y8 :: y9 :: y10 :: y11 :: tl) (.int x :: st) h := by
  intro p e s m args below meth c H locs cells slots L C I
  obtain ⟨i1, i2, i3, i4, i5⟩ := I
  refine lv_istore C.1 C.2.1 d i4.has hn rfl (fun L' hl => ?_)
  exact k p e s m args below meth c H locs cells slots L' C ⟨i1, i2, i3, xL.st1 (ls := y0 :: y1 :: y2 :: y3 :: y4 :: y5 :: y6 :: y7 :: y8 :: y9 :: y10 :: y11 :: tl) (xnp_of (j := 10) rfl hp) hl, i5⟩
theorem xr_as11 {y0 y1 y2 y3 y4 y5 y6 y7 y8 y9 y10 y11 : Option Value} {x : Nat} (d : decode cc pc = .ok (.astore 11, 2)) (hn : (11 < nL)) (hp : xn2 y10 = true) (k : xT K B l F own ini cc nL ret mc ms rc rs Q (pc + 2) (y0 :: y1 :: y2 :: y3 :: y4 :: y5 :: y6 :: y7 :: y8 :: y9 :: y10 :: some (.ref x) :: tl) st h) : xT K B l F own ini cc nL ret mc ms rc rs Q pc (y0 :: y1 :: y2 :: y3 :: y4 :: y5 :: y6 :: y7 :: y8 :: y9 :: y10 :: y11 :: tl) (.ref x :: st) h := by
  intro p e s m args below meth c H locs cells slots L C I
  obtain ⟨i1, i2, i3, i4, i5⟩ := I
  refine lv_astore C.1 C.2.1 d i4.has hn rfl (fun L' hl => ?_)
  exact k p e s m args below meth c H locs cells slots L' C ⟨i1, i2, i3, xL.st1 (ls := y0 :: y1 :: y2 :: y3 :: y4 :: y5 :: y6 :: y7 :: y8 :: y9 :: y10 :: y11 :: tl) (xnp_of (j := 10) rfl hp) hl, i5⟩
theorem xr_ls11 {y0 y1 y2 y3 y4 y5 y6 y7 y8 y9 y10 y11 y12 : Option Value} {x : Int64} (d : decode cc pc = .ok (.lstore 11, 2)) (hn : (11 + 1 < nL)) (hp : xn2 y10 = true) (k : xT K B l F own ini cc nL ret mc ms rc rs Q (pc + 2) (y0 :: y1 :: y2 :: y3 :: y4 :: y5 :: y6 :: y7 :: y8 :: y9 :: y10 :: some (.long x) :: none :: tl) st h) : xT K B l F own ini cc nL ret mc ms rc rs Q pc (y0 :: y1 :: y2 :: y3 :: y4 :: y5 :: y6 :: y7 :: y8 :: y9 :: y10 :: y11 :: y12 :: tl) (.long x :: st) h := by
  intro p e s m args below meth c H locs cells slots L C I
  obtain ⟨i1, i2, i3, i4, i5⟩ := I
  refine lv_lstore C.1 C.2.1 d i4.has hn rfl (fun L' hl => ?_)
  exact k p e s m args below meth c H locs cells slots L' C ⟨i1, i2, i3, xL.st2 (ls := y0 :: y1 :: y2 :: y3 :: y4 :: y5 :: y6 :: y7 :: y8 :: y9 :: y10 :: y11 :: y12 :: tl) (xnp_of (j := 10) rfl hp) hl, i5⟩
theorem xr_inc11 {y0 y1 y2 y3 y4 y5 y6 y7 y8 y9 y10 : Option Value} {x v : Int32} {n : Int} (d : decode cc pc = .ok (.iinc 11 n, 3)) (hv : x + Int32.ofInt n = v) (hn : 11 < nL) (hp : xn2 y10 = true) (k : xT K B l F own ini cc nL ret mc ms rc rs Q (pc + 3) (y0 :: y1 :: y2 :: y3 :: y4 :: y5 :: y6 :: y7 :: y8 :: y9 :: y10 :: some (.int v) :: tl) st h) : xT K B l F own ini cc nL ret mc ms rc rs Q pc (y0 :: y1 :: y2 :: y3 :: y4 :: y5 :: y6 :: y7 :: y8 :: y9 :: y10 :: some (.int x) :: tl) st h := by
  intro p e s m args below meth c H locs cells slots L C I
  obtain ⟨i1, i2, i3, i4, i5⟩ := I
  obtain ⟨kx, hkx⟩ := List.getElem?_of_mem (xas_mem.mpr (show (y0 :: y1 :: y2 :: y3 :: y4 :: y5 :: y6 :: y7 :: y8 :: y9 :: y10 :: some (.int x) :: tl)[11]? = some (some (.int x)) from rfl))
  refine lv_iinc C.1 C.2.1 d i4.has hkx hv hn rfl (fun L' hl => ?_)
  exact k p e s m args below meth c H locs cells slots L' C ⟨i1, i2, i3, xL.st1 (ls := y0 :: y1 :: y2 :: y3 :: y4 :: y5 :: y6 :: y7 :: y8 :: y9 :: y10 :: some (.int x) :: tl) (xnp_of (j := 10) rfl hp) hl, i5⟩
theorem xr_fg11 {y0 y1 y2 y3 y4 y5 y6 y7 y8 y9 y10 y11 : Option Value} (k : xT K B l F own ini cc nL ret mc ms rc rs Q pc (y0 :: y1 :: y2 :: y3 :: y4 :: y5 :: y6 :: y7 :: y8 :: y9 :: y10 :: none :: tl) st h) : xT K B l F own ini cc nL ret mc ms rc rs Q pc (y0 :: y1 :: y2 :: y3 :: y4 :: y5 :: y6 :: y7 :: y8 :: y9 :: y10 :: y11 :: tl) st h := by
  refine xT.weak (fun j v hj => ?_) k
  cases j with
  | zero => exact hj
  | succ j =>
  cases j with
  | zero => exact hj
  | succ j =>
  cases j with
  | zero => exact hj
  | succ j =>
  cases j with
  | zero => exact hj
  | succ j =>
  cases j with
  | zero => exact hj
  | succ j =>
  cases j with
  | zero => exact hj
  | succ j =>
  cases j with
  | zero => exact hj
  | succ j =>
  cases j with
  | zero => exact hj
  | succ j =>
  cases j with
  | zero => exact hj
  | succ j =>
  cases j with
  | zero => exact hj
  | succ j =>
  cases j with
  | zero => exact hj
  | succ j =>
  cases j with
  | zero => cases hj
  | succ j =>
  exact hj
theorem xr_is12 {y0 y1 y2 y3 y4 y5 y6 y7 y8 y9 y10 y11 y12 : Option Value} {x : Int32} (d : decode cc pc = .ok (.istore 12, 2)) (hn : (12 < nL)) (hp : xn2 y11 = true) (k : xT K B l F own ini cc nL ret mc ms rc rs Q (pc + 2) (y0 :: y1 :: y2 :: y3 :: y4 :: y5 :: y6 :: y7 :: y8 :: y9 :: y10 :: y11 :: some (.int x) :: tl) st h) : xT K B l F own ini cc nL ret mc ms rc rs Q pc (y0 :: y1 :: y2 :: y3 :: y4 :: y5 :: y6 :: y7 :: y8 :: y9 :: y10 :: y11 :: y12 :: tl) (.int x :: st) h := by
  intro p e s m args below meth c H locs cells slots L C I
  obtain ⟨i1, i2, i3, i4, i5⟩ := I
  refine lv_istore C.1 C.2.1 d i4.has hn rfl (fun L' hl => ?_)
  exact k p e s m args below meth c H locs cells slots L' C ⟨i1, i2, i3, xL.st1 (ls := y0 :: y1 :: y2 :: y3 :: y4 :: y5 :: y6 :: y7 :: y8 :: y9 :: y10 :: y11 :: y12 :: tl) (xnp_of (j := 11) rfl hp) hl, i5⟩
theorem xr_as12 {y0 y1 y2 y3 y4 y5 y6 y7 y8 y9 y10 y11 y12 : Option Value} {x : Nat} (d : decode cc pc = .ok (.astore 12, 2)) (hn : (12 < nL)) (hp : xn2 y11 = true) (k : xT K B l F own ini cc nL ret mc ms rc rs Q (pc + 2) (y0 :: y1 :: y2 :: y3 :: y4 :: y5 :: y6 :: y7 :: y8 :: y9 :: y10 :: y11 :: some (.ref x) :: tl) st h) : xT K B l F own ini cc nL ret mc ms rc rs Q pc (y0 :: y1 :: y2 :: y3 :: y4 :: y5 :: y6 :: y7 :: y8 :: y9 :: y10 :: y11 :: y12 :: tl) (.ref x :: st) h := by
  intro p e s m args below meth c H locs cells slots L C I
  obtain ⟨i1, i2, i3, i4, i5⟩ := I
  refine lv_astore C.1 C.2.1 d i4.has hn rfl (fun L' hl => ?_)
  exact k p e s m args below meth c H locs cells slots L' C ⟨i1, i2, i3, xL.st1 (ls := y0 :: y1 :: y2 :: y3 :: y4 :: y5 :: y6 :: y7 :: y8 :: y9 :: y10 :: y11 :: y12 :: tl) (xnp_of (j := 11) rfl hp) hl, i5⟩
theorem xr_ls12 {y0 y1 y2 y3 y4 y5 y6 y7 y8 y9 y10 y11 y12 y13 : Option Value} {x : Int64} (d : decode cc pc = .ok (.lstore 12, 2)) (hn : (12 + 1 < nL)) (hp : xn2 y11 = true) (k : xT K B l F own ini cc nL ret mc ms rc rs Q (pc + 2) (y0 :: y1 :: y2 :: y3 :: y4 :: y5 :: y6 :: y7 :: y8 :: y9 :: y10 :: y11 :: some (.long x) :: none :: tl) st h) : xT K B l F own ini cc nL ret mc ms rc rs Q pc (y0 :: y1 :: y2 :: y3 :: y4 :: y5 :: y6 :: y7 :: y8 :: y9 :: y10 :: y11 :: y12 :: y13 :: tl) (.long x :: st) h := by
  intro p e s m args below meth c H locs cells slots L C I
  obtain ⟨i1, i2, i3, i4, i5⟩ := I
  refine lv_lstore C.1 C.2.1 d i4.has hn rfl (fun L' hl => ?_)
  exact k p e s m args below meth c H locs cells slots L' C ⟨i1, i2, i3, xL.st2 (ls := y0 :: y1 :: y2 :: y3 :: y4 :: y5 :: y6 :: y7 :: y8 :: y9 :: y10 :: y11 :: y12 :: y13 :: tl) (xnp_of (j := 11) rfl hp) hl, i5⟩
theorem xr_inc12 {y0 y1 y2 y3 y4 y5 y6 y7 y8 y9 y10 y11 : Option Value} {x v : Int32} {n : Int} (d : decode cc pc = .ok (.iinc 12 n, 3)) (hv : x + Int32.ofInt n = v) (hn : 12 < nL) (hp : xn2 y11 = true) (k : xT K B l F own ini cc nL ret mc ms rc rs Q (pc + 3) (y0 :: y1 :: y2 :: y3 :: y4 :: y5 :: y6 :: y7 :: y8 :: y9 :: y10 :: y11 :: some (.int v) :: tl) st h) : xT K B l F own ini cc nL ret mc ms rc rs Q pc (y0 :: y1 :: y2 :: y3 :: y4 :: y5 :: y6 :: y7 :: y8 :: y9 :: y10 :: y11 :: some (.int x) :: tl) st h := by
  intro p e s m args below meth c H locs cells slots L C I
  obtain ⟨i1, i2, i3, i4, i5⟩ := I
  obtain ⟨kx, hkx⟩ := List.getElem?_of_mem (xas_mem.mpr (show (y0 :: y1 :: y2 :: y3 :: y4 :: y5 :: y6 :: y7 :: y8 :: y9 :: y10 :: y11 :: some (.int x) :: tl)[12]? = some (some (.int x)) from rfl))
  refine lv_iinc C.1 C.2.1 d i4.has hkx hv hn rfl (fun L' hl => ?_)
  exact k p e s m args below meth c H locs cells slots L' C ⟨i1, i2, i3, xL.st1 (ls := y0 :: y1 :: y2 :: y3 :: y4 :: y5 :: y6 :: y7 :: y8 :: y9 :: y10 :: y11 :: some (.int x) :: tl) (xnp_of (j := 11) rfl hp) hl, i5⟩
theorem xr_fg12 {y0 y1 y2 y3 y4 y5 y6 y7 y8 y9 y10 y11 y12 : Option Value} (k : xT K B l F own ini cc nL ret mc ms rc rs Q pc (y0 :: y1 :: y2 :: y3 :: y4 :: y5 :: y6 :: y7 :: y8 :: y9 :: y10 :: y11 :: none :: tl) st h) : xT K B l F own ini cc nL ret mc ms rc rs Q pc (y0 :: y1 :: y2 :: y3 :: y4 :: y5 :: y6 :: y7 :: y8 :: y9 :: y10 :: y11 :: y12 :: tl) st h := by
  refine xT.weak (fun j v hj => ?_) k
  cases j with
  | zero => exact hj
  | succ j =>
  cases j with
  | zero => exact hj
  | succ j =>
  cases j with
  | zero => exact hj
  | succ j =>
  cases j with
  | zero => exact hj
  | succ j =>
  cases j with
  | zero => exact hj
  | succ j =>
  cases j with
  | zero => exact hj
  | succ j =>
  cases j with
  | zero => exact hj
  | succ j =>
  cases j with
  | zero => exact hj
  | succ j =>
  cases j with
  | zero => exact hj
  | succ j =>
  cases j with
  | zero => exact hj
  | succ j =>
  cases j with
  | zero => exact hj
  | succ j =>
  cases j with
  | zero => exact hj
  | succ j =>
  cases j with
  | zero => cases hj
  | succ j =>
  exact hj
theorem xr_is13 {y0 y1 y2 y3 y4 y5 y6 y7 y8 y9 y10 y11 y12 y13 : Option Value} {x : Int32} (d : decode cc pc = .ok (.istore 13, 2)) (hn : (13 < nL)) (hp : xn2 y12 = true) (k : xT K B l F own ini cc nL ret mc ms rc rs Q (pc + 2) (y0 :: y1 :: y2 :: y3 :: y4 :: y5 :: y6 :: y7 :: y8 :: y9 :: y10 :: y11 :: y12 :: some (.int x) :: tl) st h) : xT K B l F own ini cc nL ret mc ms rc rs Q pc (y0 :: y1 :: y2 :: y3 :: y4 :: y5 :: y6 :: y7 :: y8 :: y9 :: y10 :: y11 :: y12 :: y13 :: tl) (.int x :: st) h := by
  intro p e s m args below meth c H locs cells slots L C I
  obtain ⟨i1, i2, i3, i4, i5⟩ := I
  refine lv_istore C.1 C.2.1 d i4.has hn rfl (fun L' hl => ?_)
  exact k p e s m args below meth c H locs cells slots L' C ⟨i1, i2, i3, xL.st1 (ls := y0 :: y1 :: y2 :: y3 :: y4 :: y5 :: y6 :: y7 :: y8 :: y9 :: y10 :: y11 :: y12 :: y13 :: tl) (xnp_of (j := 12) rfl hp) hl, i5⟩
theorem xr_as13 {y0 y1 y2 y3 y4 y5 y6 y7 y8 y9 y10 y11 y12 y13 : Option Value} {x : Nat} (d : decode cc pc = .ok (.astore 13, 2)) (hn : (13 < nL)) (hp : xn2 y12 = true) (k : xT K B l F own ini cc nL ret mc ms rc rs Q (pc + 2) (y0 :: y1 :: y2 :: y3 :: y4 :: y5 :: y6 :: y7 :: y8 :: y9 :: y10 :: y11 :: y12 :: some (.ref x) :: tl) st h) : xT K B l F own ini cc nL ret mc ms rc rs Q pc (y0 :: y1 :: y2 :: y3 :: y4 :: y5 :: y6 :: y7 :: y8 :: y9 :: y10 :: y11 :: y12 :: y13 :: tl) (.ref x :: st) h := by
  intro p e s m args below meth c H locs cells slots L C I
  obtain ⟨i1, i2, i3, i4, i5⟩ := I
  refine lv_astore C.1 C.2.1 d i4.has hn rfl (fun L' hl => ?_)
  exact k p e s m args below meth c H locs cells slots L' C ⟨i1, i2, i3, xL.st1 (ls := y0 :: y1 :: y2 :: y3 :: y4 :: y5 :: y6 :: y7 :: y8 :: y9 :: y10 :: y11 :: y12 :: y13 :: tl) (xnp_of (j := 12) rfl hp) hl, i5⟩
theorem xr_ls13 {y0 y1 y2 y3 y4 y5 y6 y7 y8 y9 y10 y11 y12 y13 y14 : Option Value} {x : Int64} (d : decode cc pc = .ok (.lstore 13, 2)) (hn : (13 + 1 < nL)) (hp : xn2 y12 = true) (k : xT K B l F own ini cc nL ret mc ms rc rs Q (pc + 2) (y0 :: y1 :: y2 :: y3 :: y4 :: y5 :: y6 :: y7 :: y8 :: y9 :: y10 :: y11 :: y12 :: some (.long x) :: none :: tl) st h) : xT K B l F own ini cc nL ret mc ms rc rs Q pc (y0 :: y1 :: y2 :: y3 :: y4 :: y5 :: y6 :: y7 :: y8 :: y9 :: y10 :: y11 :: y12 :: y13 :: y14 :: tl) (.long x :: st) h := by
  intro p e s m args below meth c H locs cells slots L C I
  obtain ⟨i1, i2, i3, i4, i5⟩ := I
  refine lv_lstore C.1 C.2.1 d i4.has hn rfl (fun L' hl => ?_)
  exact k p e s m args below meth c H locs cells slots L' C ⟨i1, i2, i3, xL.st2 (ls := y0 :: y1 :: y2 :: y3 :: y4 :: y5 :: y6 :: y7 :: y8 :: y9 :: y10 :: y11 :: y12 :: y13 :: y14 :: tl) (xnp_of (j := 12) rfl hp) hl, i5⟩
theorem xr_inc13 {y0 y1 y2 y3 y4 y5 y6 y7 y8 y9 y10 y11 y12 : Option Value} {x v : Int32} {n : Int} (d : decode cc pc = .ok (.iinc 13 n, 3)) (hv : x + Int32.ofInt n = v) (hn : 13 < nL) (hp : xn2 y12 = true) (k : xT K B l F own ini cc nL ret mc ms rc rs Q (pc + 3) (y0 :: y1 :: y2 :: y3 :: y4 :: y5 :: y6 :: y7 :: y8 :: y9 :: y10 :: y11 :: y12 :: some (.int v) :: tl) st h) : xT K B l F own ini cc nL ret mc ms rc rs Q pc (y0 :: y1 :: y2 :: y3 :: y4 :: y5 :: y6 :: y7 :: y8 :: y9 :: y10 :: y11 :: y12 :: some (.int x) :: tl) st h := by
  intro p e s m args below meth c H locs cells slots L C I
  obtain ⟨i1, i2, i3, i4, i5⟩ := I
  obtain ⟨kx, hkx⟩ := List.getElem?_of_mem (xas_mem.mpr (show (y0 :: y1 :: y2 :: y3 :: y4 :: y5 :: y6 :: y7 :: y8 :: y9 :: y10 :: y11 :: y12 :: some (.int x) :: tl)[13]? = some (some (.int x)) from rfl))
  refine lv_iinc C.1 C.2.1 d i4.has hkx hv hn rfl (fun L' hl => ?_)
  exact k p e s m args below meth c H locs cells slots L' C ⟨i1, i2, i3, xL.st1 (ls := y0 :: y1 :: y2 :: y3 :: y4 :: y5 :: y6 :: y7 :: y8 :: y9 :: y10 :: y11 :: y12 :: some (.int x) :: tl) (xnp_of (j := 12) rfl hp) hl, i5⟩
theorem xr_fg13 {y0 y1 y2 y3 y4 y5 y6 y7 y8 y9 y10 y11 y12 y13 : Option Value} (k : xT K B l F own ini cc nL ret mc ms rc rs Q pc (y0 :: y1 :: y2 :: y3 :: y4 :: y5 :: y6 :: y7 :: y8 :: y9 :: y10 :: y11 :: y12 :: none :: tl) st h) : xT K B l F own ini cc nL ret mc ms rc rs Q pc (y0 :: y1 :: y2 :: y3 :: y4 :: y5 :: y6 :: y7 :: y8 :: y9 :: y10 :: y11 :: y12 :: y13 :: tl) st h := by
  refine xT.weak (fun j v hj => ?_) k
  cases j with
  | zero => exact hj
  | succ j =>
  cases j with
  | zero => exact hj
  | succ j =>
  cases j with
  | zero => exact hj
  | succ j =>
  cases j with
  | zero => exact hj
  | succ j =>
  cases j with
  | zero => exact hj
  | succ j =>
  cases j with
  | zero => exact hj
  | succ j =>
  cases j with
  | zero => exact hj
  | succ j =>
  cases j with
  | zero => exact hj
  | succ j =>
  cases j with
  | zero => exact hj
  | succ j =>
  cases j with
  | zero => exact hj
  | succ j =>
  cases j with
  | zero => exact hj
  | succ j =>
  cases j with
  | zero => exact hj
  | succ j =>
  cases j with
  | zero => exact hj
  | succ j =>
  cases j with
  | zero => cases hj
  | succ j =>
  exact hj
theorem xr_is14 {y0 y1 y2 y3 y4 y5 y6 y7 y8 y9 y10 y11 y12 y13 y14 : Option Value} {x : Int32} (d : decode cc pc = .ok (.istore 14, 2)) (hn : (14 < nL)) (hp : xn2 y13 = true) (k : xT K B l F own ini cc nL ret mc ms rc rs Q (pc + 2) (y0 :: y1 :: y2 :: y3 :: y4 :: y5 :: y6 :: y7 :: y8 :: y9 :: y10 :: y11 :: y12 :: y13 :: some (.int x) :: tl) st h) : xT K B l F own ini cc nL ret mc ms rc rs Q pc (y0 :: y1 :: y2 :: y3 :: y4 :: y5 :: y6 :: y7 :: y8 :: y9 :: y10 :: y11 :: y12 :: y13 :: y14 :: tl) (.int x :: st) h := by
  intro p e s m args below meth c H locs cells slots L C I
  obtain ⟨i1, i2, i3, i4, i5⟩ := I
  refine lv_istore C.1 C.2.1 d i4.has hn rfl (fun L' hl => ?_)
  exact k p e s m args below meth c H locs cells slots L' C ⟨i1, i2, i3, xL.st1 (ls := y0 :: y1 :: y2 :: y3 :: y4 :: y5 :: y6 :: y7 :: y8 :: y9 :: y10 :: y11 :: y12 :: y13 :: y14 :: tl) (xnp_of (j := 13) rfl hp) hl, i5⟩
theorem xr_as14 {y0 y1 y2 y3 y4 y5 y6 y7 y8 y9 y10 y11 y12 y13 y14 : Option Value} {x : Nat} (d : decode cc pc = .ok (.astore 14, 2)) (hn : (14 < nL)) (hp : xn2 y13 = true) (k : xT K B l F own ini cc nL ret mc ms rc rs Q (pc + 2) (y0 :: y1 :: y2 :: y3 :: y4 :: y5 :: y6 :: y7 :: y8 :: y9 :: y10 :: y11 :: y12 :: y13 :: some (.ref x) :: tl) st h) : xT K B l F own ini cc nL ret mc ms rc rs Q pc (y0 :: y1 :: y2 :: y3 :: y4 :: y5 :: y6 :: y7 :: y8 :: y9 :: y10 :: y11 :: y12 :: y13 :: y14 :: tl) (.ref x :: st) h := by
  intro p e s m args below meth c H locs cells slots L C I
  obtain ⟨i1, i2, i3, i4, i5⟩ := I
  refine lv_astore C.1 C.2.1 d i4.has hn rfl (fun L' hl => ?_)
  exact k p e s m args below meth c H locs cells slots L' C ⟨i1, i2, i3, xL.st1 (ls := y0 :: y1 :: y2 :: y3 :: y4 :: y5 :: y6 :: y7 :: y8 :: y9 :: y10 :: y11 :: y12 :: y13 :: y14 :: tl) (xnp_of (j := 13) rfl hp) hl, i5⟩
theorem xr_ls14 {y0 y1 y2 y3 y4 y5 y6 y7 y8 y9 y10 y11 y12 y13 y14 y15 : Option Value} {x : Int64} (d : decode cc pc = .ok (.lstore 14, 2)) (hn : (14 + 1 < nL)) (hp : xn2 y13 = true) (k : xT K B l F own ini cc nL ret mc ms rc rs Q (pc + 2) (y0 :: y1 :: y2 :: y3 :: y4 :: y5 :: y6 :: y7 :: y8 :: y9 :: y10 :: y11 :: y12 :: y13 :: some (.long x) :: none :: tl) st h) : xT K B l F own ini cc nL ret mc ms rc rs Q pc (y0 :: y1 :: y2 :: y3 :: y4 :: y5 :: y6 :: y7 :: y8 :: y9 :: y10 :: y11 :: y12 :: y13 :: y14 :: y15 :: tl) (.long x :: st) h := by
  intro p e s m args below meth c H locs cells slots L C I
  obtain ⟨i1, i2, i3, i4, i5⟩ := I
  refine lv_lstore C.1 C.2.1 d i4.has hn rfl (fun L' hl => ?_)
  exact k p e s m args below meth c H locs cells slots L' C ⟨i1, i2, i3, xL.st2 (ls := y0 :: y1 :: y2 :: y3 :: y4 :: y5 :: y6 :: y7 :: y8 :: y9 :: y10 :: y11 :: y12 :: y13 :: y14 :: y15 :: tl) (xnp_of (j := 13) rfl hp) hl, i5⟩
theorem xr_inc14 {y0 y1 y2 y3 y4 y5 y6 y7 y8 y9 y10 y11 y12 y13 : Option Value} {x v : Int32} {n : Int} (d : decode cc pc = .ok (.iinc 14 n, 3)) (hv : x + Int32.ofInt n = v) (hn : 14 < nL) (hp : xn2 y13 = true) (k : xT K B l F own ini cc nL ret mc ms rc rs Q (pc + 3) (y0 :: y1 :: y2 :: y3 :: y4 :: y5 :: y6 :: y7 :: y8 :: y9 :: y10 :: y11 :: y12 :: y13 :: some (.int v) :: tl) st h) : xT K B l F own ini cc nL ret mc ms rc rs Q pc (y0 :: y1 :: y2 :: y3 :: y4 :: y5 :: y6 :: y7 :: y8 :: y9 :: y10 :: y11 :: y12 :: y13 :: some (.int x) :: tl) st h := by
  intro p e s m args below meth c H locs cells slots L C I
  obtain ⟨i1, i2, i3, i4, i5⟩ := I
  obtain ⟨kx, hkx⟩ := List.getElem?_of_mem (xas_mem.mpr (show (y0 :: y1 :: y2 :: y3 :: y4 :: y5 :: y6 :: y7 :: y8 :: y9 :: y10 :: y11 :: y12 :: y13 :: some (.int x) :: tl)[14]? = some (some (.int x)) from rfl))
  refine lv_iinc C.1 C.2.1 d i4.has hkx hv hn rfl (fun L' hl => ?_)
  exact k p e s m args below meth c H locs cells slots L' C ⟨i1, i2, i3, xL.st1 (ls := y0 :: y1 :: y2 :: y3 :: y4 :: y5 :: y6 :: y7 :: y8 :: y9 :: y10 :: y11 :: y12 :: y13 :: some (.int x) :: tl) (xnp_of (j := 13) rfl hp) hl, i5⟩
theorem xr_fg14 {y0 y1 y2 y3 y4 y5 y6 y7 y8 y9 y10 y11 y12 y13 y14 : Option Value} (k : xT K B l F own ini cc nL ret mc ms rc rs Q pc (y0 :: y1 :: y2 :: y3 :: y4 :: y5 :: y6 :: y7 :: y8 :: y9 :: y10 :: y11 :: y12 :: y13 :: none :: tl) st h) : xT K B l F own ini cc nL ret mc ms rc rs Q pc (y0 :: y1 :: y2 :: y3 :: y4 :: y5 :: y6 :: y7 :: y8 :: y9 :: y10 :: y11 :: y12 :: y13 :: y14 :: tl) st h := by
  refine xT.weak (fun j v hj => ?_) k
  cases j with
  | zero => exact hj
  | succ j =>
  cases j with
  | zero => exact hj
  | succ j =>
  cases j with
  | zero => exact hj
  | succ j =>
  cases j with
  | zero => exact hj
  | succ j =>
  cases j with
  | zero => exact hj
  | succ j =>
  cases j with
  | zero => exact hj
  | succ j =>
  cases j with
  | zero => exact hj
  | succ j =>
  cases j with
  | zero => exact hj
  | succ j =>
  cases j with
  | zero => exact hj
  | succ j =>
  cases j with
  | zero => exact hj
  | succ j =>
  cases j with
  | zero => exact hj
  | succ j =>
  cases j with
  | zero => exact hj
  | succ j =>
  cases j with
  | zero => exact hj
  | succ j =>
  cases j with
  | zero => exact hj
  | succ j =>
  cases j with
  | zero => cases hj
  | succ j =>
  exact hj
theorem xr_is15 {y0 y1 y2 y3 y4 y5 y6 y7 y8 y9 y10 y11 y12 y13 y14 y15 : Option Value} {x : Int32} (d : decode cc pc = .ok (.istore 15, 2)) (hn : (15 < nL)) (hp : xn2 y14 = true) (k : xT K B l F own ini cc nL ret mc ms rc rs Q (pc + 2) (y0 :: y1 :: y2 :: y3 :: y4 :: y5 :: y6 :: y7 :: y8 :: y9 :: y10 :: y11 :: y12 :: y13 :: y14 :: some (.int x) :: tl) st h) : xT K B l F own ini cc nL ret mc ms rc rs Q pc (y0 :: y1 :: y2 :: y3 :: y4 :: y5 :: y6 :: y7 :: y8 :: y9 :: y10 :: y11 :: y12 :: y13 :: y14 :: y15 :: tl) (.int x :: st) h := by
  intro p e s m args below meth c H locs cells slots L C I
  obtain ⟨i1, i2, i3, i4, i5⟩ := I
  refine lv_istore C.1 C.2.1 d i4.has hn rfl (fun L' hl => ?_)
  exact k p e s m args below meth c H locs cells slots L' C ⟨i1, i2, i3, xL.st1 (ls := y0 :: y1 :: y2 :: y3 :: y4 :: y5 :: y6 :: y7 :: y8 :: y9 :: y10 :: y11 :: y12 :: y13 :: y14 :: y15 :: tl) (xnp_of (j := 14) rfl hp) hl, i5⟩
theorem xr_as15 {y0 y1 y2 y3 y4 y5 y6 y7 y8 y9 y10 y11 y12 y13 y14 y15 : Option Value} {x : Nat} (d : decode cc pc = .ok (.astore 15, 2)) (hn : (15 < nL)) (hp : xn2 y14 = true) (k : xT K B l F own ini cc nL ret mc ms rc rs Q (pc + 2) (y0 :: y1 :: y2 :: y3 :: y4 :: y5 :: y6 :: y7 :: y8 :: y9 :: y10 :: y11 :: y12 :: y13 :: y14 :: some (.ref x) :: tl) st h) : xT K B l F own ini cc nL ret mc ms rc rs Q pc (y0 :: y1 :: y2 :: y3 :: y4 :: y5 :: y6 :: y7 :: y8 :: y9 :: y10 :: y11 :: y12 :: y13 :: y14 :: y15 :: tl) (.ref x :: st) h := by
  intro p e s m args below meth c H locs cells slots L C I
  obtain ⟨i1, i2, i3, i4, i5⟩ := I
  refine lv_astore C.1 C.2.1 d i4.has hn rfl (fun L' hl => ?_)
  exact k p e s m args below meth c H locs cells slots L' C ⟨i1, i2, i3, xL.st1 (ls := y0 :: y1 :: y2 :: y3 :: y4 :: y5 :: y6 :: y7 :: y8 :: y9 :: y10 :: y11 :: y12 :: y13 :: y14 :: y15 :: tl) (xnp_of (j := 14) rfl hp) hl, i5⟩
theorem xr_ls15 {y0 y1 y2 y3 y4 y5 y6 y7 y8 y9 y10 y11 y12 y13 y14 y15 y16 : Option Value} {x : Int64} (d : decode cc pc = .ok (.lstore 15, 2)) (hn : (15 + 1 < nL)) (hp : xn2 y14 = true) (k : xT K B l F own ini cc nL ret mc ms rc rs Q (pc + 2) (y0 :: y1 :: y2 :: y3 :: y4 :: y5 :: y6 :: y7 :: y8 :: y9 :: y10 :: y11 :: y12 :: y13 :: y14 :: some (.long x) :: none :: tl) st h) : xT K B l F own ini cc nL ret mc ms rc rs Q pc (y0 :: y1 :: y2 :: y3 :: y4 :: y5 :: y6 :: y7 :: y8 :: y9 :: y10 :: y11 :: y12 :: y13 :: y14 :: y15 :: y16 :: tl) (.long x :: st) h := by
  intro p e s m args below meth c H locs cells slots L C I
  obtain ⟨i1, i2, i3, i4, i5⟩ := I
  refine lv_lstore C.1 C.2.1 d i4.has hn rfl (fun L' hl => ?_)
  exact k p e s m args below meth c H locs cells slots L' C ⟨i1, i2, i3, xL.st2 (ls := y0 :: y1 :: y2 :: y3 :: y4 :: y5 :: y6 :: y7 :: y8 :: y9 :: y10 :: y11 :: y12 :: y13 :: y14 :: y15 :: y16 :: tl) (xnp_of (j := 14) rfl hp) hl, i5⟩
theorem xr_inc15 {y0 y1 y2 y3 y4 y5 y6 y7 y8 y9 y10 y11 y12 y13 y14 : Option Value} {x v : Int32} {n : Int} (d : decode cc pc = .ok (.iinc 15 n, 3)) (hv : x + Int32.ofInt n = v) (hn : 15 < nL) (hp : xn2 y14 = true) (k : xT K B l F own ini cc nL ret mc ms rc rs Q (pc + 3) (y0 :: y1 :: y2 :: y3 :: y4 :: y5 :: y6 :: y7 :: y8 :: y9 :: y10 :: y11 :: y12 :: y13 :: y14 :: some (.int v) :: tl) st h) : xT K B l F own ini cc nL ret mc ms rc rs Q pc (y0 :: y1 :: y2 :: y3 :: y4 :: y5 :: y6 :: y7 :: y8 :: y9 :: y10 :: y11 :: y12 :: y13 :: y14 :: some (.int x) :: tl) st h := by
  intro p e s m args below meth c H locs cells slots L C I
  obtain ⟨i1, i2, i3, i4, i5⟩ := I
  obtain ⟨kx, hkx⟩ := List.getElem?_of_mem (xas_mem.mpr (show (y0 :: y1 :: y2 :: y3 :: y4 :: y5 :: y6 :: y7 :: y8 :: y9 :: y10 :: y11 :: y12 :: y13 :: y14 :: some (.int x) :: tl)[15]? = some (some (.int x)) from rfl))
  refine lv_iinc C.1 C.2.1 d i4.has hkx hv hn rfl (fun L' hl => ?_)
  exact k p e s m args below meth c H locs cells slots L' C ⟨i1, i2, i3, xL.st1 (ls := y0 :: y1 :: y2 :: y3 :: y4 :: y5 :: y6 :: y7 :: y8 :: y9 :: y10 :: y11 :: y12 :: y13 :: y14 :: some (.int x) :: tl) (xnp_of (j := 14) rfl hp) hl, i5⟩
theorem xr_fg15 {y0 y1 y2 y3 y4 y5 y6 y7 y8 y9 y10 y11 y12 y13 y14 y15 : Option Value} (k : xT K B l F own ini cc nL ret mc ms rc rs Q pc (y0 :: y1 :: y2 :: y3 :: y4 :: y5 :: y6 :: y7 :: y8 :: y9 :: y10 :: y11 :: y12 :: y13 :: y14 :: none :: tl) st h) : xT K B l F own ini cc nL ret mc ms rc rs Q pc (y0 :: y1 :: y2 :: y3 :: y4 :: y5 :: y6 :: y7 :: y8 :: y9 :: y10 :: y11 :: y12 :: y13 :: y14 :: y15 :: tl) st h := by
  refine xT.weak (fun j v hj => ?_) k
  cases j with
  | zero => exact hj
  | succ j =>
  cases j with
  | zero => exact hj
  | succ j =>
  cases j with
  | zero => exact hj
  | succ j =>
  cases j with
  | zero => exact hj
  | succ j =>
  cases j with
  | zero => exact hj
  | succ j =>
  cases j with
  | zero => exact hj
  | succ j =>
  cases j with
  | zero => exact hj
  | succ j =>
  cases j with
  | zero => exact hj
  | succ j =>
  cases j with
  | zero => exact hj
  | succ j =>
  cases j with
  | zero => exact hj
  | succ j =>
  cases j with
  | zero => exact hj
  | succ j =>
  cases j with
  | zero => exact hj
  | succ j =>
  cases j with
  | zero => exact hj
  | succ j =>
  cases j with
  | zero => exact hj
  | succ j =>
  cases j with
  | zero => exact hj
  | succ j =>
  cases j with
  | zero => cases hj
  | succ j =>
  exact hj
theorem xr_is16 {y0 y1 y2 y3 y4 y5 y6 y7 y8 y9 y10 y11 y12 y13 y14 y15 y16 : Option Value} {x : Int32} (d : decode cc pc = .ok (.istore 16, 2)) (hn : (16 < nL)) (hp : xn2 y15 = true) (k : xT K B l F own ini cc nL ret mc ms rc rs Q (pc + 2) (y0 :: y1 :: y2 :: y3 :: y4 :: y5 :: y6 :: y7 :: y8 :: y9 :: y10 :: y11 :: y12 :: y13 :: y14 :: y15 :: some (.int x) :: tl) st h) : xT K B l F own ini cc nL ret mc ms rc rs Q pc (y0 :: y1 :: y2 :: y3 :: y4 :: y5 :: y6 :: y7 :: y8 :: y9 :: y10 :: y11 :: y12 :: y13 :: y14 :: y15 :: y16 :: tl) (.int x :: st) h := by
  intro p e s m args below meth c H locs cells slots L C I
  obtain ⟨i1, i2, i3, i4, i5⟩ := I
  refine lv_istore C.1 C.2.1 d i4.has hn rfl (fun L' hl => ?_)
  exact k p e s m args below meth c H locs cells slots L' C ⟨i1, i2, i3, xL.st1 (ls := y0 :: y1 :: y2 :: y3 :: y4 :: y5 :: y6 :: y7 :: y8 :: y9 :: y10 :: y11 :: y12 :: y13 :: y14 :: y15 :: y16 :: tl) (xnp_of (j := 15) rfl hp) hl, i5⟩
theorem xr_as16 {y0 y1 y2 y3 y4 y5 y6 y7 y8 y9 y10 y11 y12 y13 y14 y15 y16 : Option Value} {x : Nat} (d : decode cc pc = .ok (.astore 16, 2)) (hn : (16 < nL)) (hp : xn2 y15 = true) (k : xT K B l F own ini cc nL ret mc ms rc rs Q (pc + 2) (y0 :: y1 :: y2 :: y3 :: y4 :: y5 :: y6 :: y7 :: y8 :: y9 :: y10 :: y11 :: y12 :: y13 :: y14 :: y15 :: some (.ref x) :: tl) st h) : xT K B l F own ini cc nL ret mc ms rc rs Q pc (y0 :: y1 :: y2 :: y3 :: y4 :: y5 :: y6 :: y7 :: y8 :: y9 :: y10 :: y11 :: y12 :: y13 :: y14 :: y15 :: y16 :: tl) (.ref x :: st) h := by
  intro p e s m args below meth c H locs cells slots L C I
  obtain ⟨i1, i2, i3, i4, i5⟩ := I
  refine lv_astore C.1 C.2.1 d i4.has hn rfl (fun L' hl => ?_)
  exact k p e s m args below meth c H locs cells slots L' C ⟨i1, i2, i3, xL.st1 (ls := y0 :: y1 :: y2 :: y3 :: y4 :: y5 :: y6 :: y7 :: y8 :: y9 :: y10 :: y11 :: y12 :: y13 :: y14 :: y15 :: y16 :: tl) (xnp_of (j := 15) rfl hp) hl, i5⟩
theorem xr_ls16 {y0 y1 y2 y3 y4 y5 y6 y7 y8 y9 y10 y11 y12 y13 y14 y15 y16 y17 : Option Value} {x : Int64} (d : decode cc pc = .ok (.lstore 16, 2)) (hn : (16 + 1 < nL)) (hp : xn2 y15 = true) (k : xT K B l F own ini cc nL ret mc ms rc rs Q (pc + 2) (y0 :: y1 :: y2 :: y3 :: y4 :: y5 :: y6 :: y7 :: y8 :: y9 :: y10 :: y11 :: y12 :: y13 :: y14 :: y15 :: some (.long x) :: none :: tl) st h) : xT K B l F own ini cc nL ret mc ms rc rs Q pc (y0 :: y1 :: y2 :: y3 :: y4 :: y5 :: y6 :: y7 :: y8 :: y9 :: y10 :: y11 :: y12 :: y13 :: y14 :: y15 :: y16 :: y17 :: tl) (.long x :: st) h := by
  intro p e s m args below meth c H locs cells slots L C I
  obtain ⟨i1, i2, i3, i4, i5⟩ := I
  refine lv_lstore C.1 C.2.1 d i4.has hn rfl (fun L' hl => ?_)
  exact k p e s m args below meth c H locs cells slots L' C ⟨i1, i2, i3, xL.st2 (ls := y0 :: y1 :: y2 :: y3 :: y4 :: y5 :: y6 :: y7 :: y8 :: y9 :: y10 :: y11 :: y12 :: y13 :: y14 :: y15 :: y16 :: y17 :: tl) (xnp_of (j := 15) rfl hp) hl, i5⟩
theorem xr_inc16 {y0 y1 y2 y3 y4 y5 y6 y7 y8 y9 y10 y11 y12 y13 y14 y15 : Option Value} {x v : Int32} {n : Int} (d : decode cc pc = .ok (.iinc 16 n, 3)) (hv : x + Int32.ofInt n = v) (hn : 16 < nL) (hp : xn2 y15 = true) (k : xT K B l F own ini cc nL ret mc ms rc rs Q (pc + 3) (y0 :: y1 :: y2 :: y3 :: y4 :: y5 :: y6 :: y7 :: y8 :: y9 :: y10 :: y11 :: y12 :: y13 :: y14 :: y15 :: some (.int v) :: tl) st h) : xT K B l F own ini cc nL ret mc ms rc rs Q pc (y0 :: y1 :: y2 :: y3 :: y4 :: y5 :: y6 :: y7 :: y8 :: y9 :: y10 :: y11 :: y12 :: y13 :: y14 :: y15 :: some (.int x) :: tl) st h := by
  intro p e s m args below meth c H locs cells slots L C I
  obtain ⟨i1, i2, i3, i4, i5⟩ := I
  obtain ⟨kx, hkx⟩ := List.getElem?_of_mem (xas_mem.mpr (show (y0 :: y1 :: y2 :: y3 :: y4 :: y5 :: y6 :: y7 :: y8 :: y9 :: y10 :: y11 :: y12 :: y13 :: y14 :: y15 :: some (.int x) :: tl)[16]? = some (some (.int x)) from rfl))
  refine lv_iinc C.1 C.2.1 d i4.has hkx hv hn rfl (fun L' hl => ?_)
  exact k p e s m args below meth c H locs cells slots L' C ⟨i1, i2, i3, xL.st1 (ls := y0 :: y1 :: y2 :: y3 :: y4 :: y5 :: y6 :: y7 :: y8 :: y9 :: y10 :: y11 :: y12 :: y13 :: y14 :: y15 :: some (.int x) :: tl) (xnp_of (j := 15) rfl hp) hl, i5⟩
theorem xr_fg16 {y0 y1 y2 y3 y4 y5 y6 y7 y8 y9 y10 y11 y12 y13 y14 y15 y16 : Option Value} (k : xT K B l F own ini cc nL ret mc ms rc rs Q pc (y0 :: y1 :: y2 :: y3 :: y4 :: y5 :: y6 :: y7 :: y8 :: y9 :: y10 :: y11 :: y12 :: y13 :: y14 :: y15 :: none :: tl) st h) : xT K B l F own ini cc nL ret mc ms rc rs Q pc (y0 :: y1 :: y2 :: y3 :: y4 :: y5 :: y6 :: y7 :: y8 :: y9 :: y10 :: y11 :: y12 :: y13 :: y14 :: y15 :: y16 :: tl) st h := by
  refine xT.weak (fun j v hj => ?_) k
  cases j with
  | zero => exact hj
  | succ j =>
  cases j with
  | zero => exact hj
  | succ j =>
  cases j with
  | zero => exact hj
  | succ j =>
  cases j with
  | zero => exact hj
  | succ j =>
  cases j with
  | zero => exact hj
  | succ j =>
  cases j with
  | zero => exact hj
  | succ j =>
  cases j with
  | zero => exact hj
  | succ j =>
  cases j with
  | zero => exact hj
  | succ j =>
  cases j with
  | zero => exact hj
  | succ j =>
  cases j with
  | zero => exact hj
  | succ j =>
  cases j with
  | zero => exact hj
  | succ j =>
  cases j with
  | zero => exact hj
  | succ j =>
  cases j with
  | zero => exact hj
  | succ j =>
  cases j with
  | zero => exact hj
  | succ j =>
  cases j with
  | zero => exact hj
  | succ j =>
  cases j with
  | zero => exact hj
  | succ j =>
  cases j with
  | zero => cases hj
  | succ j =>
  exact hj
theorem xr_is17 {y0 y1 y2 y3 y4 y5 y6 y7 y8 y9 y10 y11 y12 y13 y14 y15 y16 y17 : Option Value} {x : Int32} (d : decode cc pc = .ok (.istore 17, 2)) (hn : (17 < nL)) (hp : xn2 y16 = true) (k : xT K B l F own ini cc nL ret mc ms rc rs Q (pc + 2) (y0 :: y1 :: y2 :: y3 :: y4 :: y5 :: y6 :: y7 :: y8 :: y9 :: y10 :: y11 :: y12 :: y13 :: y14 :: y15 :: y16 :: some (.int x) :: tl) st h) : xT K B l F own ini cc nL ret mc ms rc rs Q pc (y0 :: y1 :: y2 :: y3 :: y4 :: y5 :: y6 :: y7 :: y8 :: y9 :: y10 :: y11 :: y12 :: y13 :: y14 :: y15 :: y16 :: y17 :: tl) (.int x :: st) h := by
  intro p e s m args below meth c H locs cells slots L C I
  obtain ⟨i1, i2, i3, i4, i5⟩ := I
  refine lv_istore C.1 C.2.1 d i4.has hn rfl (fun L' hl => ?_)
  exact k p e s m args below meth c H locs cells slots L' C ⟨i1, i2, i3, xL.st1 (ls := y0 :: y1 :: y2 :: y3 :: y4 :: y5 :: y6 :: y7 :: y8 :: y9 :: y10 :: y11 :: y12 :: y13 :: y14 :: y15 :: y16 :: y17 :: tl) (xnp_of (j := 16) rfl hp) hl, i5⟩
theorem xr_as17 {y0 y1 y2 y3 y4 y5 y6 y7 y8 y9 y10 y11 y12 y13 y14 y15 y16 y17 : Option Value} {x : Nat} (d : decode cc pc = .ok (.astore 17, 2)) (hn : (17 < nL)) (hp : xn2 y16 = true) (k : xT K B l F own ini cc nL ret mc ms rc rs Q (pc + 2) (y0 :: y1 :: y2 :: y3 :: y4 :: y5 :: y6 :: y7 :: y8 :: y9 :: y10 :: y11 :: y12 :: y13 :: y14 :: y15 :: y16 :: some (.ref x) :: tl) st h) : xT K B l F own ini cc nL ret mc ms rc rs Q pc (y0 :: y1 :: y2 :: y3 :: y4 :: y5 :: y6 :: y7 :: y8 :: y9 :: y10 :: y11 :: y12 :: y13 :: y14 :: y15 :: y16 :: y17 :: tl) (.ref x :: st) h := by
  intro p e s m args below meth c H locs cells slots L C I
  obtain ⟨i1, i2, i3, i4, i5⟩ := I
  refine lv_astore C.1 C.2.1 d i4.has hn rfl (fun L' hl => ?_)
  exact k p e s m args below meth c H locs cells slots L' C ⟨i1, i2, i3, xL.st1 (ls := y0 :: y1 :: y2 :: y3 :: y4 :: y5 :: y6 :: y7 :: y8 :: y9 :: y10 :: y11 :: y12 :: y13 :: y14 :: y15 :: y16 :: y17 :: tl) (xnp_of (j := 16) rfl hp) hl, i5⟩
theorem xr_ls17 {y0 y1 y2 y3 y4 y5 y6 y7 y8 y9 y10 y11 y12 y13 y14 y15 y16 y17 y18 : Option Value} {x : Int64} (d : decode cc pc = .ok (.lstore 17, 2)) (hn : (17 + 1 < nL)) (hp : xn2 y16 = true) (k : xT K B l F own ini cc nL ret mc ms rc rs Q (pc + 2) (y0 :: y1 :: y2 :: y3 :: y4 :: y5 :: y6 :: y7 :: y8 :: y9 :: y10 :: y11 :: y12 :: y13 :: y14 :: y15 :: y16 :: some (.long x) :: none :: tl) st h) : xT K B l F own ini cc nL ret mc ms rc rs Q pc (y0 :: y1 :: y2 :: y3 :: y4 :: y5 :: y6 :: y7 :: y8 :: y9 :: y10 :: y11 :: y12 :: y13 :: y14 :: y15 :: y16 :: y17 :: y18 :: tl) (.long x :: st) h := by
  intro p e s m args below meth c H locs cells slots L C I
  obtain ⟨i1, i2, i3, i4, i5⟩ := I
  refine lv_lstore C.1 C.2.1 d i4.has hn rfl (fun L' hl => ?_)
  exact k p e s m args below meth c H locs cells slots L' C ⟨i1, i2, i3, xL.st2 (ls := y0 :: y1 :: y2 :: y3 :: y4 :: y5 :: y6 :: y7 :: y8 :: y9 :: y10 :: y11 :: y12 :: y13 :: y14 :: y15 :: y16 :: y17 :: y18 :: tl) (xnp_of (j := 16) rfl hp) hl, i5⟩
theorem xr_inc17 {y0 y1 y2 y3 y4 y5 y6 y7 y8 y9 y10 y11 y12 y13 y14 y15 y16 : Option Value} {x v : Int32} {n : Int} (d : decode cc pc = .ok (.iinc 17 n, 3)) (hv : x + Int32.ofInt n = v) (hn : 17 < nL) (hp : xn2 y16 = true) (k : xT K B l F own ini cc nL ret mc ms rc rs Q (pc + 3) (y0 :: y1 :: y2 :: y3 :: y4 :: y5 :: y6 :: y7 :: y8 :: y9 :: y10 :: y11 :: y12 :: y13 :: y14 :: y15 :: y16 :: some (.int v) :: tl) st h) : xT K B l F own ini cc nL ret mc ms rc rs Q pc (y0 :: y1 :: y2 :: y3 :: y4 :: y5 :: y6 :: y7 :: y8 :: y9 :: y10 :: y11 :: y12 :: y13 :: y14 :: y15 :: y16 :: some (.int x) :: tl) st h := by
  intro p e s m args below meth c H locs cells slots L C I
  obtain ⟨i1, i2, i3, i4, i5⟩ := I
  obtain ⟨kx, hkx⟩ := List.getElem?_of_mem (xas_mem.mpr (show (y0 :: y1 :: y2 :: y3 :: y4 :: y5 :: y6 :: y7 :: y8 :: y9 :: y10 :: y11 :: y12 :: y13 :: y14 :: y15 :: y16 :: some (.int x) :: tl)[17]? = some (some (.int x)) from rfl))
  refine lv_iinc C.1 C.2.1 d i4.has hkx hv hn rfl (fun L' hl => ?_)
  exact k p e s m args below meth c H locs cells slots L' C ⟨i1, i2, i3, xL.st1 (ls := y0 :: y1 :: y2 :: y3 :: y4 :: y5 :: y6 :: y7 :: y8 :: y9 :: y10 :: y11 :: y12 :: y13 :: y14 :: y15 :: y16 :: some (.int x) :: tl) (xnp_of (j := 16) rfl hp) hl, i5⟩
theorem xr_fg17 {y0 y1 y2 y3 y4 y5 y6 y7 y8 y9 y10 y11 y12 y13 y14 y15 y16 y17 : Option Value} (k : xT K B l F own ini cc nL ret mc ms rc rs Q pc (y0 :: y1 :: y2 :: y3 :: y4 :: y5 :: y6 :: y7 :: y8 :: y9 :: y10 :: y11 :: y12 :: y13 :: y14 :: y15 :: y16 :: none :: tl) st h) : xT K B l F own ini cc nL ret mc ms rc rs Q pc (y0 :: y1 :: y2 :: y3 :: y4 :: y5 :: y6 :: y7 :: y8 :: y9 :: y10 :: y11 :: y12 :: y13 :: y14 :: y15 :: y16 :: y17 :: tl) st h := by
  refine xT.weak (fun j v hj => ?_) k
  cases j with
  | zero => exact hj
  | succ j =>
  cases j with
  | zero => exact hj
  | succ j =>
  cases j with
  | zero => exact hj
  | succ j =>
  cases j with
  | zero => exact hj
  | succ j =>
  cases j with
  | zero => exact hj
  | succ j =>
  cases j with
  | zero => exact hj
  | succ j =>
  cases j with
  | zero => exact hj
  | succ j =>
  cases j with
  | zero => exact hj
  | succ j =>
  cases j with
  | zero => exact hj
  | succ j =>
  cases j with
  | zero => exact hj
  | succ j =>
  cases j with
  | zero => exact hj
  | succ j =>
  cases j with
  | zero => exact hj
  | succ j =>
  cases j with
  | zero => exact hj
  | succ j =>
  cases j with
  | zero => exact hj
  | succ j =>
  cases j with
  | zero => exact hj
  | succ j =>
  cases j with
  | zero => exact hj
  | succ j =>
  cases j with
  | zero => exact hj
  | succ j =>
  cases j with
  | zero => cases hj
  | succ j =>
  exact hj
theorem xr_is18 {y0 y1 y2 y3 y4 y5 y6 y7 y8 y9 y10 y11 y12 y13 y14 y15 y16 y17 y18 : Option Value} {x : Int32} (d : decode cc pc = .ok (.istore 18, 2)) (hn : (18 < nL)) (hp : xn2 y17 = true) (k : xT K B l F own ini cc nL ret mc ms rc rs Q (pc + 2) (y0 :: y1 :: y2 :: y3 :: y4 :: y5 :: y6 :: y7 :: y8 :: y9 :: y10 :: y11 :: y12 :: y13 :: y14 :: y15 :: y16 :: y17 :: some (.int x) :: tl) st h) : xT K B l F own ini cc nL ret mc ms rc rs Q pc (y0 :: y1 :: y2 :: y3 :: y4 :: y5 :: y6 :: y7 :: y8 :: y9 :: y10 :: y11 :: y12 :: y13 :: y14 :: y15 :: y16 :: y17 :: y18 :: tl) (.int x :: st) h := by
  intro p e s m args below meth c H locs cells slots L C I
  obtain ⟨i1, i2, i3, i4, i5⟩ := I
  refine lv_istore C.1 C.2.1 d i4.has hn rfl (fun L' hl => ?_)
  exact k p e s m args below meth c H locs cells slots L' C ⟨i1, i2, i3, xL.st1 (ls := y0 :: y1 :: y2 :: y3 :: y4 :: y5 :: y6 :: y7 :: y8 :: y9 :: y10 :: y11 :: y12 :: y13 :: y14 :: y15 :: y16 :: y17 :: y18 :: tl) (xnp_of (j := 17) rfl hp) hl, i5⟩
theorem xr_as18 {y0 y1 y2 y3 y4 y5 y6 y7 y8 y9 y10 y11 y12 y13 y14 y15 y16 y17 y18 : Option Value} {x : Nat} (d : decode cc pc = .ok (.astore 18, 2)) (hn : (18 < nL)) (hp : xn2 y17 = true) (k : xT K B l F own ini cc nL ret mc ms rc rs Q (pc + 2) (y0 :: y1 :: y2 :: y3 :: y4 :: y5 :: y6 :: y7 :: y8 :: y9 :: y10 :: y11 :: y12 :: y13 :: y14 :: y15 :: y16 :: y17 :: some (.ref x) :: tl) st h) : xT K B l F own ini cc nL ret mc ms rc rs Q pc (y0 :: y1 :: y2 :: y3 :: y4 :: y5 :: y6 :: y7 :: y8 :: y9 :: y10 :: y11 :: y12 :: y13 :: y14 :: y15 :: y16 :: y17 :: y18 :: tl) (.ref x :: st) h := by
  intro p e s m args below meth c H locs cells slots L C I
  obtain ⟨i1, i2, i3, i4, i5⟩ := I
  refine lv_astore C.1 C.2.1 d i4.has hn rfl (fun L' hl => ?_)
  exact k p e s m args below meth c H locs cells slots L' C ⟨i1, i2, i3, xL.st1 (ls := y0 :: y1 :: y2 :: y3 :: y4 :: y5 :: y6 :: y7 :: y8 :: y9 :: y10 :: y11 :: y12 :: y13 :: y14 :: y15 :: y16 :: y17 :: y18 :: tl) (xnp_of (j := 17) rfl hp) hl, i5⟩
theorem xr_ls18 {y0 y1 y2 y3 y4 y5 y6 y7 y8 y9 y10 y11 y12 y13 y14 y15 y16 y17 y18 y19 : Option Value} {x : Int64} (d : decode cc pc = .ok (.lstore 18, 2)) (hn : (18 + 1 < nL)) (hp : xn2 y17 = true) (k : xT K B l F own ini cc nL ret mc ms rc rs Q (pc + 2) (y0 :: y1 :: y2 :: y3 :: y4 :: y5 :: y6 :: y7 :: y8 :: y9 :: y10 :: y11 :: y12 :: y13 :: y14 :: y15 :: y16 :: y17 :: some (.long x) :: none :: tl) st h) : xT K B l F own ini cc nL ret mc ms rc rs Q pc (y0 :: y1 :: y2 :: y3 :: y4 :: y5 :: y6 :: y7 :: y8 :: y9 :: y10 :: y11 :: y12 :: y13 :: y14 :: y15 :: y16 :: y17 :: y18 :: y19 :: tl) (.long x :: st) h := by
  intro p e s m args below meth c H locs cells slots L C I
  obtain ⟨i1, i2, i3, i4, i5⟩ := I
  refine lv_lstore C.1 C.2.1 d i4.has hn rfl (fun L' hl => ?_)
  exact k p e s m args below meth c H locs cells slots L' C ⟨i1, i2, i3, xL.st2 (ls := y0 :: y1 :: y2 :: y3 :: y4 :: y5 :: y6 :: y7 :: y8 :: y9 :: y10 :: y11 :: y12 :: y13 :: y14 :: y15 :: y16 :: y17 :: y18 :: y19 :: tl) (xnp_of (j := 17) rfl hp) hl, i5⟩
theorem xr_inc18 {y0 y1 y2 y3 y4 y5 y6 y7 y8 y9 y10 y11 y12 y13 y14 y15 y16 y17 : Option Value} {x v : Int32} {n : Int} (d : decode cc pc = .ok (.iinc 18 n, 3)) (hv : x + Int32.ofInt n = v) (hn : 18 < nL) (hp : xn2 y17 = true) (k : xT K B l F own ini cc nL ret mc ms rc rs Q (pc + 3) (y0 :: y1 :: y2 :: y3 :: y4 :: y5 :: y6 :: y7 :: y8 :: y9 :: y10 :: y11 :: y12 :: y13 :: y14 :: y15 :: y16 :: y17 :: some (.int v) :: tl) st h) : xT K B l F own ini cc nL ret mc ms rc rs Q pc (y0 :: y1 :: y2 :: y3 :: y4 :: y5 :: y6 :: y7 :: y8 :: y9 :: y10 :: y11 :: y12 :: y13 :: y14 :: y15 :: y16 :: y17 :: some (.int x) :: tl) st h := by
  intro p e s m args below meth c H locs cells slots L C I
  obtain ⟨i1, i2, i3, i4, i5⟩ := I
  obtain ⟨kx, hkx⟩ := List.getElem?_of_mem (xas_mem.mpr (show (y0 :: y1 :: y2 :: y3 :: y4 :: y5 :: y6 :: y7 :: y8 :: y9 :: y10 :: y11 :: y12 :: y13 :: y14 :: y15 :: y16 :: y17 :: some (.int x) :: tl)[18]? = some (some (.int x)) from rfl))
  refine lv_iinc C.1 C.2.1 d i4.has hkx hv hn rfl (fun L' hl => ?_)
  exact k p e s m args below meth c H locs cells slots L' C ⟨i1, i2, i3, xL.st1 (ls := y0 :: y1 :: y2 :: y3 :: y4 :: y5 :: y6 :: y7 :: y8 :: y9 :: y10 :: y11 :: y12 :: y13 :: y14 :: y15 :: y16 :: y17 :: some (.int x) :: tl) (xnp_of (j := 17) rfl hp) hl, i5⟩
theorem xr_fg18 {y0 y1 y2 y3 y4 y5 y6 y7 y8 y9 y10 y11 y12 y13 y14 y15 y16 y17 y18 : Option Value} (k : xT K B l F own ini cc nL ret mc ms rc rs Q pc (y0 :: y1 :: y2 :: y3 :: y4 :: y5 :: y6 :: y7 :: y8 :: y9 :: y10 :: y11 :: y12 :: y13 :: y14 :: y15 :: y16 :: y17 :: none :: tl) st h) : xT K B l F own ini cc nL ret mc ms rc rs Q pc (y0 :: y1 :: y2 :: y3 :: y4 :: y5 :: y6 :: y7 :: y8 :: y9 :: y10 :: y11 :: y12 :: y13 :: y14 :: y15 :: y16 :: y17 :: y18 :: tl) st h := by
  refine xT.weak (fun j v hj => ?_) k
  cases j with
  | zero => exact hj
  | succ j =>
  cases j with
  | zero => exact hj
  | succ j =>
  cases j with
  | zero => exact hj
  | succ j =>
  cases j with
  | zero => exact hj
  | succ j =>
  cases j with
  | zero => exact hj
  | succ j =>
  cases j with
  | zero => exact hj
  | succ j =>
  cases j with
  | zero => exact hj
  | succ j =>
  cases j with
  | zero => exact hj
  | succ j =>
  cases j with
  | zero => exact hj
  | succ j =>
  cases j with
  | zero => exact hj
  | succ j =>
  cases j with
  | zero => exact hj
  | succ j =>
  cases j with
  | zero => exact hj
  | succ j =>
  cases j with
  | zero => exact hj
  | succ j =>
  cases j with
  | zero => exact hj
  | succ j =>
  cases j with
  | zero => exact hj
  | succ j =>
  cases j with
  | zero => exact hj
  | succ j =>
  cases j with
  | zero => exact hj
  | succ j =>
  cases j with
  | zero => exact hj
  | succ j =>
  cases j with
  | zero => cases hj
  | succ j =>
  exact hj
theorem xr_is19 {y0 y1 y2 y3 y4 y5 y6 y7 y8 y9 y10 y11 y12 y13 y14 y15 y16 y17 y18 y19 : Option Value} {x : Int32} (d : decode cc pc = .ok (.istore 19, 2)) (hn : (19 < nL)) (hp : xn2 y18 = true) (k : xT K B l F own ini cc nL ret mc ms rc rs Q (pc + 2) (y0 :: y1 :: y2 :: y3 :: y4 :: y5 :: y6 :: y7 :: y8 :: y9 :: y10 :: y11 :: y12 :: y13 :: y14 :: y15 :: y16 :: y17 :: y18 :: some (.int x) :: tl) st h) : xT K B l F own ini cc nL ret mc ms rc rs Q pc (y0 :: y1 :: y2 :: y3 :: y4 :: y5 :: y6 :: y7 :: y8 :: y9 :: y10 :: y11 :: y12 :: y13 :: y14 :: y15 :: y16 :: y17 :: y18 :: y19 :: tl) (.int x :: st) h := by
  intro p e s m args below meth c H locs cells slots L C I
  obtain ⟨i1, i2, i3, i4, i5⟩ := I
  refine lv_istore C.1 C.2.1 d i4.has hn rfl (fun L' hl => ?_)
  exact k p e s m args below meth c H locs cells slots L' C ⟨i1, i2, i3, xL.st1 (ls := y0 :: y1 :: y2 :: y3 :: y4 :: y5 :: y6 :: y7 :: y8 :: y9 :: y10 :: y11 :: y12 :: y13 :: y14 :: y15 :: y16 :: y17 :: y18 :: y19 :: tl) (xnp_of (j := 18) rfl hp) hl, i5⟩
theorem xr_as19 {y0 y1 y2 y3 y4 y5 y6 y7 y8 y9 y10 y11 y12 y13 y14 y15 y16 y17 y18 y19 : Option Value} {x : Nat} (d : decode cc pc = .ok (.astore 19, 2)) (hn : (19 < nL)) (hp : xn2 y18 = true) (k : xT K B l F own ini cc nL ret mc ms rc rs Q (pc + 2) (y0 :: y1 :: y2 :: y3 :: y4 :: y5 :: y6 :: y7 :: y8 :: y9 :: y10 :: y11 :: y12 :: y13 :: y14 :: y15 :: y16 :: y17 :: y18 :: some (.ref x) :: tl) st h) : xT K B l F own ini cc nL ret mc ms rc rs Q pc (y0 :: y1 :: y2 :: y3 :: y4 :: y5 :: y6 :: y7 :: y8 :: y9 :: y10 :: y11 :: y12 :: y13 :: y14 :: y15 :: y16 :: y17 :: y18 :: y19 :: tl) (.ref x :: st) h := by
  intro p e s m args below meth c H locs cells slots L C I
  obtain ⟨i1, i2, i3, i4, i5⟩ := I
  refine lv_astore C.1 C.2.1 d i4.has hn rfl (fun L' hl => ?_)
  exact k p e s m args below meth c H locs cells slots L' C ⟨i1, i2, i3, xL.st1 (ls := y0 :: y1 :: y2 :: y3 :: y4 :: y5 :: y6 :: y7 :: y8 :: y9 :: y10 :: y11 :: y12 :: y13 :: y14 :: y15 :: y16 :: y17 :: y18 :: y19 :: tl) (xnp_of (j := 18) rfl hp) hl, i5⟩
theorem xr_ls19 {y0 y1 y2 y3 y4 y5 y6 y7 y8 y9 y10 y11 y12 y13 y14 y15 y16 y17 y18 y19 y20 : Option Value} {x : Int64} (d : decode cc pc = .ok (.lstore 19, 2)) (hn : (19 + 1 < nL)) (hp : xn2 y18 = true) (k : xT K B l F own ini cc nL ret mc ms rc rs Q (pc + 2) (y0 :: y1 :: y2 :: y3 :: y4 :: y5 :: y6 :: y7 :: y8 :: y9 :: y10 :: y11 :: y12 :: y13 :: y14 :: y15 :: y16 :: y17 :: y18 :: some (.long x) :: none :: tl) st h) : xT K B l F own ini cc nL ret mc ms rc rs Q pc (y0 :: y1 :: y2 :: y3 :: y4 :: y5 :: y6 :: y7 :: y8 :: y9 :: y10 :: y11 :: y12 :: y13 :: y14 :: y15 :: y16 :: y17 :: y18 :: y19 :: y20 :: tl) (.long x :: st) h := by
  intro p e s m args below meth c H locs cells slots L C I
  obtain ⟨i1, i2, i3, i4, i5⟩ := I
  refine lv_lstore C.1 C.2.1 d i4.has hn rfl (fun L' hl => ?_)
  exact k p e s m args below meth c H locs cells slots L' C ⟨i1, i2, i3, xL.st2 (ls := y0 :: y1 :: y2 :: y3 :: y4 :: y5 :: y6 :: y7 :: y8 :: y9 :: y10 :: y11 :: y12 :: y13 :: y14 :: y15 :: y16 :: y17 :: y18 :: y19 :: y20 :: tl) (xnp_of (j := 18) rfl hp) hl, i5⟩
theorem xr_inc19 {y0 y1 y2 y3 y4 y5 y6 y7 y8 y9 y10 y11 y12 y13 y14 y15 y16 y17 y18 : Option Value} {x v : Int32} {n : Int} (d : decode cc pc = .ok (.iinc 19 n, 3)) (hv : x + Int32.ofInt n = v) (hn : 19 < nL) (hp : xn2 y18 = true) (k : xT K B l F own ini cc nL ret mc ms rc rs Q (pc + 3) (y0 :: y1 :: y2 :: y3 :: y4 :: y5 :: y6 :: y7 :: y8 :: y9 :: y10 :: y11 :: y12 :: y13 :: y14 :: y15 :: y16 :: y17 :: y18 :: some (.int v) :: tl) st h) : xT K B l F own ini cc nL ret mc ms rc rs Q pc (y0 :: y1 :: y2 :: y3 :: y4 :: y5 :: y6 :: y7 :: y8 :: y9 :: y10 :: y11 :: y12 :: y13 :: y14 :: y15 :: y16 :: y17 :: y18 :: some (.int x) :: tl) st h := by
  intro p e s m args below meth c H locs cells slots L C I
  obtain ⟨i1, i2, i3, i4, i5⟩ := I
  obtain ⟨kx, hkx⟩ := List.getElem?_of_mem (xas_mem.mpr (show (y0 :: y1 :: y2 :: y3 :: y4 :: y5 :: y6 :: y7 :: y8 :: y9 :: y10 :: y11 :: y12 :: y13 :: y14 :: y15 :: y16 :: y17 :: y18 :: some (.int x) :: tl)[19]? = some (some (.int x)) from rfl))
  refine lv_iinc C.1 C.2.1 d i4.has hkx hv hn rfl (fun L' hl => ?_)
  exact k p e s m args below meth c H locs cells slots L' C ⟨i1, i2, i3, xL.st1 (ls := y0 :: y1 :: y2 :: y3 :: y4 :: y5 :: y6 :: y7 :: y8 :: y9 :: y10 :: y11 :: y12 :: y13 :: y14 :: y15 :: y16 :: y17 :: y18 :: some (.int x) :: tl) (xnp_of (j := 18) rfl hp) hl, i5⟩
theorem xr_fg19 {y0 y1 y2 y3 y4 y5 y6 y7 y8 y9 y10 y11 y12 y13 y14 y15 y16 y17 y18 y19 : Option Value} (k : xT K B l F own ini cc nL ret mc ms rc rs Q pc (y0 :: y1 :: y2 :: y3 :: y4 :: y5 :: y6 :: y7 :: y8 :: y9 :: y10 :: y11 :: y12 :: y13 :: y14 :: y15 :: y16 :: y17 :: y18 :: none :: tl) st h) : xT K B l F own ini cc nL ret mc ms rc rs Q pc (y0 :: y1 :: y2 :: y3 :: y4 :: y5 :: y6 :: y7 :: y8 :: y9 :: y10 :: y11 :: y12 :: y13 :: y14 :: y15 :: y16 :: y17 :: y18 :: y19 :: tl) st h := by
  refine xT.weak (fun j v hj => ?_) k
  cases j with
  | zero => exact hj
  | succ j =>
  cases j with
  | zero => exact hj
  | succ j =>
  cases j with
  | zero => exact hj
  | succ j =>
  cases j with
  | zero => exact hj
  | succ j =>
  cases j with
  | zero => exact hj
  | succ j =>
  cases j with
  | zero => exact hj
  | succ j =>
  cases j with
  | zero => exact hj
  | succ j =>
  cases j with
  | zero => exact hj
  | succ j =>
  cases j with
  | zero => exact hj
  | succ j =>
  cases j with
  | zero => exact hj
  | succ j =>
  cases j with
  | zero => exact hj
  | succ j =>
  cases j with
  | zero => exact hj
  | succ j =>
  cases j with
  | zero => exact hj
  | succ j =>
  cases j with
  | zero => exact hj
  | succ j =>
  cases j with
  | zero => exact hj
  | succ j =>
  cases j with
  | zero => exact hj
  | succ j =>
  cases j with
  | zero => exact hj
  | succ j =>
  cases j with
  | zero => exact hj
  | succ j =>
  cases j with
  | zero => exact hj
  | succ j =>
  cases j with
  | zero => cases hj
  | succ j =>
  exact hj
theorem xr_is20 {y0 y1 y2 y3 y4 y5 y6 y7 y8 y9 y10 y11 y12 y13 y14 y15 y16 y17 y18 y19 y20 : Option Value} {x : Int32} (d : decode cc pc = .ok (.istore 20, 2)) (hn : (20 < nL)) (hp : xn2 y19 = true) (k : xT K B l F own ini cc nL ret mc ms rc rs Q (pc + 2) (y0 :: y1 :: y2 :: y3 :: y4 :: y5 :: y6 :: y7 :: y8 :: y9 :: y10 :: y11 :: y12 :: y13 :: y14 :: y15 :: y16 :: y17 :: y18 :: y19 :: some (.int x) :: tl) st h) : xT K B l F own ini cc nL ret mc ms rc rs Q pc (y0 :: y1 :: y2 :: y3 :: y4 :: y5 :: y6 :: y7 :: y8 :: y9 :: y10 :: y11 :: y12 :: y13 :: y14 :: y15 :: y16 :: y17 :: y18 :: y19 :: y20 :: tl) (.int x :: st) h := by
  intro p e s m args below meth c H locs cells slots L C I
  obtain ⟨i1, i2, i3, i4, i5⟩ := I
  refine lv_istore C.1 C.2.1 d i4.has hn rfl (fun L' hl => ?_)
  exact k p e s m args below meth c H locs cells slots L' C ⟨i1, i2, i3, xL.st1 (ls := y0 :: y1 :: y2 :: y3 :: y4 :: y5 :: y6 :: y7 :: y8 :: y9 :: y10 :: y11 :: y12 :: y13 :: y14 :: y15 :: y16 :: y17 :: y18 :: y19 :: y20 :: tl) (xnp_of (j := 19) rfl hp) hl, i5⟩
theorem xr_as20 {y0 y1 y2 y3 y4 y5 y6 y7 y8 y9 y10 y11 y12 y13 y14 y15 y16 y17 y18 y19 y20 : Option Value} {x : Nat} (d : decode cc pc = .ok (.astore 20, 2)) (hn : (20 < nL)) (hp : xn2 y19 = true) (k : xT K B l F own ini cc nL ret mc ms rc rs Q (pc + 2) (y0 :: y1 :: y2 :: y3 :: y4 :: y5 :: y6 :: y7 :: y8 :: y9 :: y10 :: y11 :: y12 :: y13 :: y14 :: y15 :: y16 :: y17 :: y18 :: y19 :: some (.ref x) :: tl) st h) : xT K B l F own ini cc nL ret mc ms rc rs Q pc (y0 :: y1 :: y2 :: y3 :: y4 :: y5 :: y6 :: y7 :: y8 :: y9 :: y10 :: y11 :: y12 :: y13 :: y14 :: y15 :: y16 :: y17 :: y18 :: y19 :: y20 :: tl) (.ref x :: st) h := by
  intro p e s m args below meth c H locs cells slots L C I
  obtain ⟨i1, i2, i3, i4, i5⟩ := I
  refine lv_astore C.1 C.2.1 d i4.has hn rfl (fun L' hl => ?_)
  exact k p e s m args below meth c H locs cells slots L' C ⟨i1, i2, i3, xL.st1 (ls := y0 :: y1 :: y2 :: y3 :: y4 :: y5 :: y6 :: y7 :: y8 :: y9 :: y10 :: y11 :: y12 :: y13 :: y14 :: y15 :: y16 :: y17 :: y18 :: y19 :: y20 :: tl) (xnp_of (j := 19) rfl hp) hl, i5⟩
theorem xr_ls20 {y0 y1 y2 y3 y4 y5 y6 y7 y8 y9 y10 y11 y12 y13 y14 y15 y16 y17 y18 y19 y20 y21 : Option Value} {x : Int64} (d : decode cc pc = .ok (.lstore 20, 2)) (hn : (20 + 1 < nL)) (hp : xn2 y19 = true) (k : xT K B l F own ini cc nL ret mc ms rc rs Q (pc + 2) (y0 :: y1 :: y2 :: y3 :: y4 :: y5 :: y6 :: y7 :: y8 :: y9 :: y10 :: y11 :: y12 :: y13 :: y14 :: y15 :: y16 :: y17 :: y18 :: y19 :: some (.long x) :: none :: tl) st h) : xT K B l F own ini cc nL ret mc ms rc rs Q pc (y0 :: y1 :: y2 :: y3 :: y4 :: y5 :: y6 :: y7 :: y8 :: y9 :: y10 :: y11 :: y12 :: y13 :: y14 :: y15 :: y16 :: y17 :: y18 :: y19 :: y20 :: y21 :: tl) (.long x :: st) h := by
  intro p e s m args below meth c H locs cells slots L C I
  obtain ⟨i1, i2, i3, i4, i5⟩ := I
  refine lv_lstore C.1 C.2.1 d i4.has hn rfl (fun L' hl => ?_)
  exact k p e s m args below meth c H locs cells slots L' C ⟨i1, i2, i3, xL.st2 (ls := y0 :: y1 :: y2 :: y3 :: y4 :: y5 :: y6 :: y7 :: y8 :: y9 :: y10 :: y11 :: y12 :: y13 :: y14 :: y15 :: y16 :: y17 :: y18 :: y19 :: y20 :: y21 :: tl) (xnp_of (j := 19) rfl hp) hl, i5⟩
theorem xr_inc20 {y0 y1 y2 y3 y4 y5 y6 y7 y8 y9 y10 y11 y12 y13 y14 y15 y16 y17 y18 y19 : Option Value} {x v : Int32} {n : Int} (d : decode cc pc = .ok (.iinc 20 n, 3)) (hv : x + Int32.ofInt n = v) (hn : 20 < nL) (hp : xn2 y19 = true) (k : xT K B l F own ini cc nL ret mc ms rc rs Q (pc + 3) (y0 :: y1 :: y2 :: y3 :: y4 :: y5 :: y6 :: y7 :: y8 :: y9 :: y10 :: y11 :: y12 :: y13 :: y14 :: y15 :: y16 :: y17 :: y18 :: y19 :: some (.int v) :: tl) st h) : xT K B l F own ini cc nL ret mc ms rc rs Q pc (y0 :: y1 :: y2 :: y3 :: y4 :: y5 :: y6 :: y7 :: y8 :: y9 :: y10 :: y11 :: y12 :: y13 :: y14 :: y15 :: y16 :: y17 :: y18 :: y19 :: some (.int x) :: tl) st h := by
  intro p e s m args below meth c H locs cells slots L C I
  obtain ⟨i1, i2, i3, i4, i5⟩ := I
  obtain ⟨kx, hkx⟩ := List.getElem?_of_mem (xas_mem.mpr (show (y0 :: y1 :: y2 :: y3 :: y4 :: y5 :: y6 :: y7 :: y8 :: y9 :: y10 :: y11 :: y12 :: y13 :: y14 :: y15 :: y16 :: y17 :: y18 :: y19 :: some (.int x) :: tl)[20]? = some (some (.int x)) from rfl))
  refine lv_iinc C.1 C.2.1 d i4.has hkx hv hn rfl (fun L' hl => ?_)
  exact k p e s m args below meth c H locs cells slots L' C ⟨i1, i2, i3, xL.st1 (ls := y0 :: y1 :: y2 :: y3 :: y4 :: y5 :: y6 :: y7 :: y8 :: y9 :: y10 :: y11 :: y12 :: y13 :: y14 :: y15 :: y16 :: y17 :: y18 :: y19 :: some (.int x) :: tl) (xnp_of (j := 19) rfl hp) hl, i5⟩
theorem xr_fg20 {y0 y1 y2 y3 y4 y5 y6 y7 y8 y9 y10 y11 y12 y13 y14 y15 y16 y17 y18 y19 y20 : Option Value} (k : xT K B l F own ini cc nL ret mc ms rc rs Q pc (y0 :: y1 :: y2 :: y3 :: y4 :: y5 :: y6 :: y7 :: y8 :: y9 :: y10 :: y11 :: y12 :: y13 :: y14 :: y15 :: y16 :: y17 :: y18 :: y19 :: none :: tl) st h) : xT K B l F own ini cc nL ret mc ms rc rs Q pc (y0 :: y1 :: y2 :: y3 :: y4 :: y5 :: y6 :: y7 :: y8 :: y9 :: y10 :: y11 :: y12 :: y13 :: y14 :: y15 :: y16 :: y17 :: y18 :: y19 :: y20 :: tl) st h := by
  refine xT.weak (fun j v hj => ?_) k
  cases j with
  | zero => exact hj
  | succ j =>
  cases j with
  | zero => exact hj
  | succ j =>
  cases j with
  | zero => exact hj
  | succ j =>
  cases j with
  | zero => exact hj
  | succ j =>
  cases j with
  | zero => exact hj
  | succ j =>
  cases j with
  | zero => exact hj
  | succ j =>
  cases j with
  | zero => exact hj
  | succ j =>
  cases j with
  | zero => exact hj
  | succ j =>
  cases j with
  | zero => exact hj
  | succ j =>
  cases j with
  | zero => exact hj
  | succ j =>
  cases j with
  | zero => exact hj
  | succ j =>
  cases j with
  | zero => exact hj
  | succ j =>
  cases j with
  | zero => exact hj
  | succ j =>
  cases j with
  | zero => exact hj
  | succ j =>
  cases j with
  | zero => exact hj
  | succ j =>
  cases j with
  | zero => exact hj
  | succ j =>
  cases j with
  | zero => exact hj
  | succ j =>
  cases j with
  | zero => exact hj
  | succ j =>
  cases j with
  | zero => exact hj
  | succ j =>
  cases j with
  | zero => exact hj
  | succ j =>
  cases j with
  | zero => cases hj
  | succ j =>
  exact hj
theorem xr_is21 {y0 y1 y2 y3 y4 y5 y6 y7 y8 y9 y10 y11 y12 y13 y14 y15 y16 y17 y18 y19 y20 y21 : Option Value} {x : Int32} (d : decode cc pc = .ok (.istore 21, 2)) (hn : (21 < nL)) (hp : xn2 y20 = true) (k : xT K B l F own ini cc nL ret mc ms rc rs Q (pc + 2) (y0 :: y1 :: y2 :: y3 :: y4 :: y5 :: y6 :: y7 :: y8 :: y9 :: y10 :: y11 :: y12 :: y13 :: y14 :: y15 :: y16 :: y17 :: y18 :: y19 :: y20 :: some (.int x) :: tl) st h) : xT K B l F own ini cc nL ret mc ms rc rs Q pc (y0 :: y1 :: y2 :: y3 :: y4 :: y5 :: y6 :: y7 :: y8 :: y9 :: y10 :: y11 :: y12 :: y13 :: y14 :: y15 :: y16 :: y17 :: y18 :: y19 :: y20 :: y21 :: tl) (.int x :: st) h := by
  intro p e s m args below meth c H locs cells slots L C I
  obtain ⟨i1, i2, i3, i4, i5⟩ := I
  refine lv_istore C.1 C.2.1 d i4.has hn rfl (fun L' hl => ?_)
  exact k p e s m args below meth c H locs cells slots L' C ⟨i1, i2, i3, xL.st1 (ls := y0 :: y1 :: y2 :: y3 :: y4 :: y5 :: y6 :: y7 :: y8 :: y9 :: y10 :: y11 :: y12 :: y13 :: y14 :: y15 :: y16 :: y17 :: y18 :: y19 :: y20 :: y21 :: tl) (xnp_of (j := 20) rfl hp) hl, i5⟩
theorem xr_as21 {y0 y1 y2 y3 y4 y5 y6 y7 y8 y9 y10 y11 y12 y13 y14 y15 y16 y17 y18 y19 y20 y21 : Option Value} {x : Nat} (d : decode cc pc = .ok (.astore 21, 2)) (hn : (21 < nL)) (hp : xn2 y20 = true) (k : xT K B l F own ini cc nL ret mc ms rc rs Q (pc + 2) (y0 :: y1 :: y2 :: y3 :: y4 :: y5 :: y6 :: y7 :: y8 :: y9 :: y10 :: y11 :: y12 :: y13 :: y14 :: y15 :: y16 :: y17 :: y18 :: y19 :: y20 :: some (.ref x) :: tl) st h) : xT K B l F own ini cc nL ret mc ms rc rs Q pc (y0 :: y1 :: y2 :: y3 :: y4 :: y5 :: y6 :: y7 :: y8 :: y9 :: y10 :: y11 :: y12 :: y13 :: y14 :: y15 :: y16 :: y17 :: y18 :: y19 :: y20 :: y21 :: tl) (.ref x :: st) h := by
  intro p e s m args below meth c H locs cells slots L C I
  obtain ⟨i1, i2, i3, i4, i5⟩ := I
  refine lv_astore C.1 C.2.1 d i4.has hn rfl (fun L' hl => ?_)
  exact k p e s m args below meth c H locs cells slots L' C ⟨i1, i2, i3, xL.st1 (ls := y0 :: y1 :: y2 :: y3 :: y4 :: y5 :: y6 :: y7 :: y8 :: y9 :: y10 :: y11 :: y12 :: y13 :: y14 :: y15 :: y16 :: y17 :: y18 :: y19 :: y20 :: y21 :: tl) (xnp_of (j := 20) rfl hp) hl, i5⟩
theorem xr_ls21 {y0 y1 y2 y3 y4 y5 y6 y7 y8 y9 y10 y11 y12 y13 y14 y15 y16 y17 y18 y19 y20 y21 y22 : Option Value} {x : Int64} (d : decode cc pc = .ok (.lstore 21, 2)) (hn : (21 + 1 < nL)) (hp : xn2 y20 = true) (k : xT K B l F own ini cc nL ret mc ms rc rs Q (pc + 2) (y0 :: y1 :: y2 :: y3 :: y4 :: y5 :: y6 :: y7 :: y8 :: y9 :: y10 :: y11 :: y12 :: y13 :: y14 :: y15 :: y16 :: y17 :: y18 :: y19 :: y20 :: some (.long x) :: none :: tl) st h) : xT K B l F own ini cc nL ret mc ms rc rs Q pc (y0 :: y1 :: y2 :: y3 :: y4 :: y5 :: y6 :: y7 :: y8 :: y9 :: y10 :: y11 :: y12 :: y13 :: y14 :: y15 :: y16 :: y17 :: y18 :: y19 :: y20 :: y21 :: y22 :: tl) (.long x :: st) h := by
  intro p e s m args below meth c H locs cells slots L C I
  obtain ⟨i1, i2, i3, i4, i5⟩ := I
  refine lv_lstore C.1 C.2.1 d i4.has hn rfl (fun L' hl => ?_)
  exact k p e s m args below meth c H locs cells slots L' C ⟨i1, i2, i3, xL.st2 (ls := y0 :: y1 :: y2 :: y3 :: y4 :: y5 :: y6 :: y7 :: y8 :: y9 :: y10 :: y11 :: y12 :: y13 :: y14 :: y15 :: y16 :: y17 :: y18 :: y19 :: y20 :: y21 :: y22 :: tl) (xnp_of (j := 20) rfl hp) hl, i5⟩
theorem xr_inc21 {y0 y1 y2 y3 y4 y5 y6 y7 y8 y9 y10 y11 y12 y13 y14 y15 y16 y17 y18 y19 y20 : Option Value} {x v : Int32} {n : Int} (d : decode cc pc = .ok (.iinc 21 n, 3)) (hv : x + Int32.ofInt n = v) (hn : 21 < nL) (hp : xn2 y20 = true) (k : xT K B l F own ini cc nL ret mc ms rc rs Q (pc + 3) (y0 :: y1 :: y2 :: y3 :: y4 :: y5 :: y6 :: y7 :: y8 :: y9 :: y10 :: y11 :: y12 :: y13 :: y14 :: y15 :: y16 :: y17 :: y18 :: y19 :: y20 :: some (.int v) :: tl) st h) : xT K B l F own ini cc nL ret mc ms rc rs Q pc (y0 :: y1 :: y2 :: y3 :: y4 :: y5 :: y6 :: y7 :: y8 :: y9 :: y10 :: y11 :: y12 :: y13 :: y14 :: y15 :: y16 :: y17 :: y18 :: y19 :: y20 :: some (.int x) :: tl) st h := by
  intro p e s m args below meth c H locs cells slots L C I
  obtain ⟨i1, i2, i3, i4, i5⟩ := I
  obtain ⟨kx, hkx⟩ := List.getElem?_of_mem (xas_mem.mpr (show (y0 :: y1 :: y2 :: y3 :: y4 :: y5 :: y6 :: y7 :: y8 :: y9 :: y10 :: y11 :: y12 :: y13 :: y14 :: y15 :: y16 :: y17 :: y18 :: y19 :: y20 :: some (.int x) :: tl)[21]? = some (some (.int x)) from rfl))
  refine lv_iinc C.1 C.2.1 d i4.has hkx hv hn rfl (fun L' hl => ?_)
  exact k p e s m args below meth c H locs cells slots L' C ⟨i1, i2, i3, xL.st1 (ls := y0 :: y1 :: y2 :: y3 :: y4 :: y5 :: y6 :: y7 :: y8 :: y9 :: y10 :: y11 :: y12 :: y13 :: y14 :: y15 :: y16 :: y17 :: y18 :: y19 :: y20 :: some (.int x) :: tl) (xnp_of (j := 20) rfl hp) hl, i5⟩
theorem xr_fg21 {y0 y1 y2 y3 y4 y5 y6 y7 y8 y9 y10 y11 y12 y13 y14 y15 y16 y17 y18 y19 y20 y21 : Option Value} (k : xT K B l F own ini cc nL ret mc ms rc rs Q pc (y0 :: y1 :: y2 :: y3 :: y4 :: y5 :: y6 :: y7 :: y8 :: y9 :: y10 :: y11 :: y12 :: y13 :: y14 :: y15 :: y16 :: y17 :: y18 :: y19 :: y20 :: none :: tl) st h) : xT K B l F own ini cc nL ret mc ms rc rs Q pc (y0 :: y1 :: y2 :: y3 :: y4 :: y5 :: y6 :: y7 :: y8 :: y9 :: y10 :: y11 :: y12 :: y13 :: y14 :: y15 :: y16 :: y17 :: y18 :: y19 :: y20 :: y21 :: tl) st h := by
  refine xT.weak (fun j v hj => ?_) k
  cases j with
  | zero => exact hj
  | succ j =>
  cases j with
  | zero => exact hj
  | succ j =>
  cases j with
  | zero => exact hj
  | succ j =>
  cases j with
  | zero => exact hj
  | succ j =>
  cases j with
  | zero => exact hj
  | succ j =>
  cases j with
  | zero => exact hj
  | succ j =>
  cases j with
  | zero => exact hj
  | succ j =>
  cases j with
  | zero => exact hj
  | succ j =>
  cases j with
  | zero => exact hj
  | succ j =>
  cases j with
  | zero => exact hj
  | succ j =>
  cases j with
  | zero => exact hj
  | succ j =>
  cases j with
  | zero => exact hj
  | succ j =>
  cases j with
  | zero => exact hj
  | succ j =>
  cases j with
  | zero => exact hj
  | succ j =>
  cases j with
  | zero => exact hj
  | succ j =>
  cases j with
  | zero => exact hj
  | succ j =>
  cases j with
  | zero => exact hj
  | succ j =>
  cases j with
  | zero => exact hj
  | succ j =>
  cases j with
  | zero => exact hj
  | succ j =>
  cases j with
  | zero => exact hj
  | succ j =>
  cases j with
  | zero => exact hj
  | succ j =>
  cases j with
  | zero => cases hj
  | succ j =>
  exact hj
theorem xr_iadd {x y : Int32} (d : decode cc pc = .ok (.iadd, 1)) (k : xT K B l F own ini cc nL ret mc ms rc rs Q (pc + 1) ls (.int (x + y) :: st) h) : xT K B l F own ini cc nL ret mc ms rc rs Q pc ls (.int y :: .int x :: st) h :=
  xT.go k (fun _ _ _ _ _ _ _ _ _ _ _ _ _ _ C I w => lv_iadd C.1 C.2.1 d  w)
theorem xr_isub {x y : Int32} (d : decode cc pc = .ok (.isub, 1)) (k : xT K B l F own ini cc nL ret mc ms rc rs Q (pc + 1) ls (.int (x - y) :: st) h) : xT K B l F own ini cc nL ret mc ms rc rs Q pc ls (.int y :: .int x :: st) h :=
  xT.go k (fun _ _ _ _ _ _ _ _ _ _ _ _ _ _ C I w => lv_isub C.1 C.2.1 d  w)
theorem xr_imul {x y : Int32} (d : decode cc pc = .ok (.imul, 1)) (k : xT K B l F own ini cc nL ret mc ms rc rs Q (pc + 1) ls (.int (x * y) :: st) h) : xT K B l F own ini cc nL ret mc ms rc rs Q pc ls (.int y :: .int x :: st) h :=
  xT.go k (fun _ _ _ _ _ _ _ _ _ _ _ _ _ _ C I w => lv_imul C.1 C.2.1 d  w)
theorem xr_iand {x y : Int32} (d : decode cc pc = .ok (.iand, 1)) (k : xT K B l F own ini cc nL ret mc ms rc rs Q (pc + 1) ls (.int (x &&& y) :: st) h) : xT K B l F own ini cc nL ret mc ms rc rs Q pc ls (.int y :: .int x :: st) h :=
  xT.go k (fun _ _ _ _ _ _ _ _ _ _ _ _ _ _ C I w => lv_iand C.1 C.2.1 d  w)
theorem xr_ior {x y : Int32} (d : decode cc pc = .ok (.ior, 1)) (k : xT K B l F own ini cc nL ret mc ms rc rs Q (pc + 1) ls (.int (x ||| y) :: st) h) : xT K B l F own ini cc nL ret mc ms rc rs Q pc ls (.int y :: .int x :: st) h :=
  xT.go k (fun _ _ _ _ _ _ _ _ _ _ _ _ _ _ C I w => lv_ior C.1 C.2.1 d  w)
theorem xr_ixor {x y : Int32} (d : decode cc pc = .ok (.ixor, 1)) (k : xT K B l F own ini cc nL ret mc ms rc rs Q (pc + 1) ls (.int (x ^^^ y) :: st) h) : xT K B l F own ini cc nL ret mc ms rc rs Q pc ls (.int y :: .int x :: st) h :=
  xT.go k (fun _ _ _ _ _ _ _ _ _ _ _ _ _ _ C I w => lv_ixor C.1 C.2.1 d  w)
theorem xr_ishl {x y : Int32} (d : decode cc pc = .ok (.ishl, 1)) (k : xT K B l F own ini cc nL ret mc ms rc rs Q (pc + 1) ls (.int (x <<< (y &&& 31)) :: st) h) : xT K B l F own ini cc nL ret mc ms rc rs Q pc ls (.int y :: .int x :: st) h :=
  xT.go k (fun _ _ _ _ _ _ _ _ _ _ _ _ _ _ C I w => lv_ishl C.1 C.2.1 d  w)
theorem xr_ishr {x y : Int32} (d : decode cc pc = .ok (.ishr, 1)) (k : xT K B l F own ini cc nL ret mc ms rc rs Q (pc + 1) ls (.int (x >>> (y &&& 31)) :: st) h) : xT K B l F own ini cc nL ret mc ms rc rs Q pc ls (.int y :: .int x :: st) h :=
  xT.go k (fun _ _ _ _ _ _ _ _ _ _ _ _ _ _ C I w => lv_ishr C.1 C.2.1 d  w)
theorem xr_idiv {x y : Int32} (d : decode cc pc = .ok (.idiv, 1)) (hne : ¬ y = 0) (k : xT K B l F own ini cc nL ret mc ms rc rs Q (pc + 1) ls (.int (x / y) :: st) h) : xT K B l F own ini cc nL ret mc ms rc rs Q pc ls (.int y :: .int x :: st) h :=
  xT.go k (fun _ _ _ _ _ _ _ _ _ _ _ _ _ _ C I w => lv_idiv C.1 C.2.1 d hne w)
theorem xr_irem {x y : Int32} (d : decode cc pc = .ok (.irem, 1)) (hne : ¬ y = 0) (k : xT K B l F own ini cc nL ret mc ms rc rs Q (pc + 1) ls (.int (x - x / y * y) :: st) h) : xT K B l F own ini cc nL ret mc ms rc rs Q pc ls (.int y :: .int x :: st) h :=
  xT.go k (fun _ _ _ _ _ _ _ _ _ _ _ _ _ _ C I w => lv_irem C.1 C.2.1 d hne w)
theorem xr_ineg {x : Int32} (d : decode cc pc = .ok (.ineg, 1)) (k : xT K B l F own ini cc nL ret mc ms rc rs Q (pc + 1) ls (.int (0 - x) :: st) h) : xT K B l F own ini cc nL ret mc ms rc rs Q pc ls (.int x :: st) h :=
  xT.go k (fun _ _ _ _ _ _ _ _ _ _ _ _ _ _ C I w => lv_ineg C.1 C.2.1 d  w)
theorem xr_iushr {x y : Int32} (d : decode cc pc = .ok (.iushr, 1)) (k : xT K B l F own ini cc nL ret mc ms rc rs Q (pc + 1) ls (.int ((x.toUInt32 >>> (y.toUInt32 &&& Int32.toUInt32 31)).toInt32) :: st) h) : xT K B l F own ini cc nL ret mc ms rc rs Q pc ls (.int y :: .int x :: st) h :=
  xT.go k (fun _ _ _ _ _ _ _ _ _ _ _ _ _ _ C I w => lv_iushr C.1 C.2.1 d rfl w)
theorem xr_ladd {x y : Int64} (d : decode cc pc = .ok (.ladd, 1)) (k : xT K B l F own ini cc nL ret mc ms rc rs Q (pc + 1) ls (.long (x + y) :: st) h) : xT K B l F own ini cc nL ret mc ms rc rs Q pc ls (.long y :: .long x :: st) h :=
  xT.go k (fun _ _ _ _ _ _ _ _ _ _ _ _ _ _ C I w => lv_ladd C.1 C.2.1 d  w)
theorem xr_lmul {x y : Int64} (d : decode cc pc = .ok (.lmul, 1)) (k : xT K B l F own ini cc nL ret mc ms rc rs Q (pc + 1) ls (.long (x * y) :: st) h) : xT K B l F own ini cc nL ret mc ms rc rs Q pc ls (.long y :: .long x :: st) h :=
  xT.go k (fun _ _ _ _ _ _ _ _ _ _ _ _ _ _ C I w => lv_lmul C.1 C.2.1 d  w)
theorem xr_land {x y : Int64} (d : decode cc pc = .ok (.land, 1)) (k : xT K B l F own ini cc nL ret mc ms rc rs Q (pc + 1) ls (.long (x &&& y) :: st) h) : xT K B l F own ini cc nL ret mc ms rc rs Q pc ls (.long y :: .long x :: st) h :=
  xT.go k (fun _ _ _ _ _ _ _ _ _ _ _ _ _ _ C I w => lv_land C.1 C.2.1 d  w)
theorem xr_lor {x y : Int64} (d : decode cc pc = .ok (.lor, 1)) (k : xT K B l F own ini cc nL ret mc ms rc rs Q (pc + 1) ls (.long (x ||| y) :: st) h) : xT K B l F own ini cc nL ret mc ms rc rs Q pc ls (.long y :: .long x :: st) h :=
  xT.go k (fun _ _ _ _ _ _ _ _ _ _ _ _ _ _ C I w => lv_lor C.1 C.2.1 d  w)
theorem xr_lxor {x y : Int64} (d : decode cc pc = .ok (.lxor, 1)) (k : xT K B l F own ini cc nL ret mc ms rc rs Q (pc + 1) ls (.long (x ^^^ y) :: st) h) : xT K B l F own ini cc nL ret mc ms rc rs Q pc ls (.long y :: .long x :: st) h :=
  xT.go k (fun _ _ _ _ _ _ _ _ _ _ _ _ _ _ C I w => lv_lxor C.1 C.2.1 d  w)
theorem xr_ldiv {x y : Int64} (d : decode cc pc = .ok (.ldiv, 1)) (hne : ¬ y = 0) (k : xT K B l F own ini cc nL ret mc ms rc rs Q (pc + 1) ls (.long (x / y) :: st) h) : xT K B l F own ini cc nL ret mc ms rc rs Q pc ls (.long y :: .long x :: st) h :=
  xT.go k (fun _ _ _ _ _ _ _ _ _ _ _ _ _ _ C I w => lv_ldiv C.1 C.2.1 d hne w)
theorem xr_lrem {x y : Int64} (d : decode cc pc = .ok (.lrem, 1)) (hne : ¬ y = 0) (k : xT K B l F own ini cc nL ret mc ms rc rs Q (pc + 1) ls (.long (x - x / y * y) :: st) h) : xT K B l F own ini cc nL ret mc ms rc rs Q pc ls (.long y :: .long x :: st) h :=
  xT.go k (fun _ _ _ _ _ _ _ _ _ _ _ _ _ _ C I w => lv_lrem C.1 C.2.1 d hne w)
theorem xr_lshl {x : Int64} {y : Int32} (d : decode cc pc = .ok (.lshl, 1)) (k : xT K B l F own ini cc nL ret mc ms rc rs Q (pc + 1) ls (.long (x <<< (y.toInt64 &&& 63)) :: st) h) : xT K B l F own ini cc nL ret mc ms rc rs Q pc ls (.int y :: .long x :: st) h :=
  xT.go k (fun _ _ _ _ _ _ _ _ _ _ _ _ _ _ C I w => lv_lshl C.1 C.2.1 d rfl w)
theorem xr_i2l {x : Int32} (d : decode cc pc = .ok (.i2l, 1)) (k : xT K B l F own ini cc nL ret mc ms rc rs Q (pc + 1) ls (.long x.toInt64 :: st) h) : xT K B l F own ini cc nL ret mc ms rc rs Q pc ls (.int x :: st) h :=
  xT.go k (fun _ _ _ _ _ _ _ _ _ _ _ _ _ _ C I w => lv_i2l C.1 C.2.1 d rfl w)
theorem xr_i2b {x : Int32} (d : decode cc pc = .ok (.i2b, 1)) (k : xT K B l F own ini cc nL ret mc ms rc rs Q (pc + 1) ls (.int x.toInt8.toInt32 :: st) h) : xT K B l F own ini cc nL ret mc ms rc rs Q pc ls (.int x :: st) h :=
  xT.go k (fun _ _ _ _ _ _ _ _ _ _ _ _ _ _ C I w => lv_i2b C.1 C.2.1 d rfl w)
theorem xr_i2s {x : Int32} (d : decode cc pc = .ok (.i2s, 1)) (k : xT K B l F own ini cc nL ret mc ms rc rs Q (pc + 1) ls (.int x.toInt16.toInt32 :: st) h) : xT K B l F own ini cc nL ret mc ms rc rs Q pc ls (.int x :: st) h :=
  xT.go k (fun _ _ _ _ _ _ _ _ _ _ _ _ _ _ C I w => lv_i2s C.1 C.2.1 d rfl w)
theorem xr_dup {v : Value} (d : decode cc pc = .ok (.dup, 1)) (hv : v.category = 1) (k : xT K B l F own ini cc nL ret mc ms rc rs Q (pc + 1) ls (v :: v :: st) h) : xT K B l F own ini cc nL ret mc ms rc rs Q pc ls (v :: st) h :=
  xT.go k (fun _ _ _ _ _ _ _ _ _ _ _ _ _ _ C I w => lv_dup C.1 C.2.1 d hv w)
theorem xr_dup_x1 {v w : Value} (d : decode cc pc = .ok (.dup_x1, 1)) (hv : v.category = 1) (hw : w.category = 1) (k : xT K B l F own ini cc nL ret mc ms rc rs Q (pc + 1) ls (v :: w :: v :: st) h) : xT K B l F own ini cc nL ret mc ms rc rs Q pc ls (v :: w :: st) h :=
  xT.go k (fun _ _ _ _ _ _ _ _ _ _ _ _ _ _ C I w => lv_dup_x1 C.1 C.2.1 d hv hw w)
theorem xr_dup2 {v w : Value} (d : decode cc pc = .ok (.dup2, 1)) (hv : v.category = 1) (hw : w.category = 1) (k : xT K B l F own ini cc nL ret mc ms rc rs Q (pc + 1) ls (v :: w :: v :: w :: st) h) : xT K B l F own ini cc nL ret mc ms rc rs Q pc ls (v :: w :: st) h :=
  xT.go k (fun _ _ _ _ _ _ _ _ _ _ _ _ _ _ C I w => lv_dup2_11 C.1 C.2.1 d hv hw w)
theorem xr_pop {v : Value} (d : decode cc pc = .ok (.pop, 1)) (hv : v.category = 1) (k : xT K B l F own ini cc nL ret mc ms rc rs Q (pc + 1) ls (st) h) : xT K B l F own ini cc nL ret mc ms rc rs Q pc ls (v :: st) h :=
  xT.go k (fun _ _ _ _ _ _ _ _ _ _ _ _ _ _ C I w => lv_pop C.1 C.2.1 d hv w)
theorem xr_topi {x : Int32} (k : ∀ y : Int32, y = x → xT K B l F own ini cc nL ret mc ms rc rs Q pc ls (.int y :: st) h) : xT K B l F own ini cc nL ret mc ms rc rs Q pc ls (.int x :: st) h := k x rfl
theorem xr_topl {x : Int64} (k : ∀ y : Int64, y = x → xT K B l F own ini cc nL ret mc ms rc rs Q pc ls (.long y :: st) h) : xT K B l F own ini cc nL ret mc ms rc rs Q pc ls (.long x :: st) h := k x rfl
theorem xr_eqi {x y : Int32} (e : x = y) (k : xT K B l F own ini cc nL ret mc ms rc rs Q pc ls (.int y :: st) h) : xT K B l F own ini cc nL ret mc ms rc rs Q pc ls (.int x :: st) h := e ▸ k
theorem xr_eql {x y : Int64} (e : x = y) (k : xT K B l F own ini cc nL ret mc ms rc rs Q pc ls (.long y :: st) h) : xT K B l F own ini cc nL ret mc ms rc rs Q pc ls (.long x :: st) h := e ▸ k
theorem xr_goto {off : Int} {tgt : Nat} (d : decode cc pc = .ok (.goto off, 3)) (ht : (pc : Int) + off = (tgt : Int)) (k : xT K B l F own ini cc nL ret mc ms rc rs Q tgt ls st h) : xT K B l F own ini cc nL ret mc ms rc rs Q pc ls st h :=
  xT.go k (fun _ _ _ _ _ _ _ _ _ _ _ _ _ _ C I w => lv_goto C.1 C.2.1 d ht w)
theorem xr_ifeq {x : Int32} {off : Int} {tgt : Nat} (d : decode cc pc = .ok (.ifCond .eq off, 3)) (ht : (pc : Int) + off = (tgt : Int)) (kt : x = 0 → xT K B l F own ini cc nL ret mc ms rc rs Q tgt ls st h) (kf : ¬ x = 0 → xT K B l F own ini cc nL ret mc ms rc rs Q (pc + 3) ls st h) : xT K B l F own ini cc nL ret mc ms rc rs Q pc ls (.int x :: st) h := by
  intro p e s m args below meth c H locs cells slots L C I
  exact lv_if_eq C.1 C.2.1 d ht (fun q => kt q p e s m args below meth c H locs cells slots L C I) (fun q => kf q p e s m args below meth c H locs cells slots L C I)
theorem xr_icmpeq {x y : Int32} {off : Int} {tgt : Nat} (d : decode cc pc = .ok (.if_icmp .eq off, 3)) (ht : (pc : Int) + off = (tgt : Int)) (kt : x = y → xT K B l F own ini cc nL ret mc ms rc rs Q tgt ls st h) (kf : ¬ x = y → xT K B l F own ini cc nL ret mc ms rc rs Q (pc + 3) ls st h) : xT K B l F own ini cc nL ret mc ms rc rs Q pc ls (.int y :: .int x :: st) h := by
  intro p e s m args below meth c H locs cells slots L C I
  exact lv_icmp_eq C.1 C.2.1 d ht (fun q => kt q p e s m args below meth c H locs cells slots L C I) (fun q => kf q p e s m args below meth c H locs cells slots L C I)
theorem xr_ifne {x : Int32} {off : Int} {tgt : Nat} (d : decode cc pc = .ok (.ifCond .ne off, 3)) (ht : (pc : Int) + off = (tgt : Int)) (kt : ¬ x = 0 → xT K B l F own ini cc nL ret mc ms rc rs Q tgt ls st h) (kf : x = 0 → xT K B l F own ini cc nL ret mc ms rc rs Q (pc + 3) ls st h) : xT K B l F own ini cc nL ret mc ms rc rs Q pc ls (.int x :: st) h := by
  intro p e s m args below meth c H locs cells slots L C I
  exact lv_if_ne C.1 C.2.1 d ht (fun q => kt q p e s m args below meth c H locs cells slots L C I) (fun q => kf q p e s m args below meth c H locs cells slots L C I)
theorem xr_icmpne {x y : Int32} {off : Int} {tgt : Nat} (d : decode cc pc = .ok (.if_icmp .ne off, 3)) (ht : (pc : Int) + off = (tgt : Int)) (kt : ¬ x = y → xT K B l F own ini cc nL ret mc ms rc rs Q tgt ls st h) (kf : x = y → xT K B l F own ini cc nL ret mc ms rc rs Q (pc + 3) ls st h) : xT K B l F own ini cc nL ret mc ms rc rs Q pc ls (.int y :: .int x :: st) h := by
  intro p e s m args below meth c H locs cells slots L C I
  exact lv_icmp_ne C.1 C.2.1 d ht (fun q => kt q p e s m args below meth c H locs cells slots L C I) (fun q => kf q p e s m args below meth c H locs cells slots L C I)
theorem xr_iflt {x : Int32} {off : Int} {tgt : Nat} (d : decode cc pc = .ok (.ifCond .lt off, 3)) (ht : (pc : Int) + off = (tgt : Int)) (kt : x < 0 → xT K B l F own ini cc nL ret mc ms rc rs Q tgt ls st h) (kf : ¬ x < 0 → xT K B l F own ini cc nL ret mc ms rc rs Q (pc + 3) ls st h) : xT K B l F own ini cc nL ret mc ms rc rs Q pc ls (.int x :: st) h := by
  intro p e s m args below meth c H locs cells slots L C I
  exact lv_if_lt C.1 C.2.1 d ht (fun q => kt q p e s m args below meth c H locs cells slots L C I) (fun q => kf q p e s m args below meth c H locs cells slots L C I)
theorem xr_icmplt {x y : Int32} {off : Int} {tgt : Nat} (d : decode cc pc = .ok (.if_icmp .lt off, 3)) (ht : (pc : Int) + off = (tgt : Int)) (kt : x < y → xT K B l F own ini cc nL ret mc ms rc rs Q tgt ls st h) (kf : ¬ x < y → xT K B l F own ini cc nL ret mc ms rc rs Q (pc + 3) ls st h) : xT K B l F own ini cc nL ret mc ms rc rs Q pc ls (.int y :: .int x :: st) h := by
  intro p e s m args below meth c H locs cells slots L C I
  exact lv_icmp_lt C.1 C.2.1 d ht (fun q => kt q p e s m args below meth c H locs cells slots L C I) (fun q => kf q p e s m args below meth c H locs cells slots L C I)
theorem xr_ifge {x : Int32} {off : Int} {tgt : Nat} (d : decode cc pc = .ok (.ifCond .ge off, 3)) (ht : (pc : Int) + off = (tgt : Int)) (kt : 0 ≤ x → xT K B l F own ini cc nL ret mc ms rc rs Q tgt ls st h) (kf : ¬ 0 ≤ x → xT K B l F own ini cc nL ret mc ms rc rs Q (pc + 3) ls st h) : xT K B l F own ini cc nL ret mc ms rc rs Q pc ls (.int x :: st) h := by
  intro p e s m args below meth c H locs cells slots L C I
  exact lv_if_ge C.1 C.2.1 d ht (fun q => kt q p e s m args below meth c H locs cells slots L C I) (fun q => kf q p e s m args below meth c H locs cells slots L C I)
theorem xr_icmpge {x y : Int32} {off : Int} {tgt : Nat} (d : decode cc pc = .ok (.if_icmp .ge off, 3)) (ht : (pc : Int) + off = (tgt : Int)) (kt : y ≤ x → xT K B l F own ini cc nL ret mc ms rc rs Q tgt ls st h) (kf : ¬ y ≤ x → xT K B l F own ini cc nL ret mc ms rc rs Q (pc + 3) ls st h) : xT K B l F own ini cc nL ret mc ms rc rs Q pc ls (.int y :: .int x :: st) h := by
  intro p e s m args below meth c H locs cells slots L C I
  exact lv_icmp_ge C.1 C.2.1 d ht (fun q => kt q p e s m args below meth c H locs cells slots L C I) (fun q => kf q p e s m args below meth c H locs cells slots L C I)
theorem xr_ifgt {x : Int32} {off : Int} {tgt : Nat} (d : decode cc pc = .ok (.ifCond .gt off, 3)) (ht : (pc : Int) + off = (tgt : Int)) (kt : 0 < x → xT K B l F own ini cc nL ret mc ms rc rs Q tgt ls st h) (kf : ¬ 0 < x → xT K B l F own ini cc nL ret mc ms rc rs Q (pc + 3) ls st h) : xT K B l F own ini cc nL ret mc ms rc rs Q pc ls (.int x :: st) h := by
  intro p e s m args below meth c H locs cells slots L C I
  exact lv_if_gt C.1 C.2.1 d ht (fun q => kt q p e s m args below meth c H locs cells slots L C I) (fun q => kf q p e s m args below meth c H locs cells slots L C I)
theorem xr_icmpgt {x y : Int32} {off : Int} {tgt : Nat} (d : decode cc pc = .ok (.if_icmp .gt off, 3)) (ht : (pc : Int) + off = (tgt : Int)) (kt : y < x → xT K B l F own ini cc nL ret mc ms rc rs Q tgt ls st h) (kf : ¬ y < x → xT K B l F own ini cc nL ret mc ms rc rs Q (pc + 3) ls st h) : xT K B l F own ini cc nL ret mc ms rc rs Q pc ls (.int y :: .int x :: st) h := by
  intro p e s m args below meth c H locs cells slots L C I
  exact lv_icmp_gt C.1 C.2.1 d ht (fun q => kt q p e s m args below meth c H locs cells slots L C I) (fun q => kf q p e s m args below meth c H locs cells slots L C I)
theorem xr_ifle {x : Int32} {off : Int} {tgt : Nat} (d : decode cc pc = .ok (.ifCond .le off, 3)) (ht : (pc : Int) + off = (tgt : Int)) (kt : x ≤ 0 → xT K B l F own ini cc nL ret mc ms rc rs Q tgt ls st h) (kf : ¬ x ≤ 0 → xT K B l F own ini cc nL ret mc ms rc rs Q (pc + 3) ls st h) : xT K B l F own ini cc nL ret mc ms rc rs Q pc ls (.int x :: st) h := by
  intro p e s m args below meth c H locs cells slots L C I
  exact lv_if_le C.1 C.2.1 d ht (fun q => kt q p e s m args below meth c H locs cells slots L C I) (fun q => kf q p e s m args below meth c H locs cells slots L C I)
theorem xr_icmple {x y : Int32} {off : Int} {tgt : Nat} (d : decode cc pc = .ok (.if_icmp .le off, 3)) (ht : (pc : Int) + off = (tgt : Int)) (kt : x ≤ y → xT K B l F own ini cc nL ret mc ms rc rs Q tgt ls st h) (kf : ¬ x ≤ y → xT K B l F own ini cc nL ret mc ms rc rs Q (pc + 3) ls st h) : xT K B l F own ini cc nL ret mc ms rc rs Q pc ls (.int y :: .int x :: st) h := by
  intro p e s m args below meth c H locs cells slots L C I
  exact lv_icmp_le C.1 C.2.1 d ht (fun q => kt q p e s m args below meth c H locs cells slots L C I) (fun q => kf q p e s m args below meth c H locs cells slots L C I)
theorem xr_nonnull {x : Nat} {off : Int} {tgt : Nat} (d : decode cc pc = .ok (.ifnonnull off, 3)) (ht : (pc : Int) + off = (tgt : Int)) (k : xT K B l F own ini cc nL ret mc ms rc rs Q tgt ls st h) : xT K B l F own ini cc nL ret mc ms rc rs Q pc ls (.ref x :: st) h :=
  xT.go k (fun _ _ _ _ _ _ _ _ _ _ _ _ _ _ C I w => lv_ifnonnull C.1 C.2.1 d ht w)
theorem xr_nonnullN {off : Int} (d : decode cc pc = .ok (.ifnonnull off, 3)) (k : xT K B l F own ini cc nL ret mc ms rc rs Q (pc + 3) ls st h) : xT K B l F own ini cc nL ret mc ms rc rs Q pc ls (.null :: st) h :=
  xT.go k (fun _ _ _ _ _ _ _ _ _ _ _ _ _ _ C I w => lv_ifnonnullN C.1 C.2.1 d w)
theorem xr_tabOut {dflt lo hi : Int} {offs : Array Int} {len : Nat} {x : Int32} {tgt : Nat} (d : decode cc pc = .ok (.tableswitch dflt lo hi offs, len)) (hx : x.toInt < lo ∨ hi < x.toInt) (ht : (pc : Int) + dflt = (tgt : Int)) (k : xT K B l F own ini cc nL ret mc ms rc rs Q tgt ls st h) : xT K B l F own ini cc nL ret mc ms rc rs Q pc ls (.int x :: st) h :=
  xT.go k (fun _ _ _ _ _ _ _ _ _ _ _ _ _ _ C I w => lv_tableOut C.1 C.2.1 d hx ht w)
theorem xr_tabIn {dflt lo hi : Int} {offs : Array Int} {len : Nat} {x : Int32} {off : Int} {tgt : Nat} (d : decode cc pc = .ok (.tableswitch dflt lo hi offs, len)) (h1 : ¬ x.toInt < lo) (h2 : ¬ hi < x.toInt) (ho : offs[(x.toInt - lo).toNat]? = some off) (ht : (pc : Int) + off = (tgt : Int)) (k : xT K B l F own ini cc nL ret mc ms rc rs Q tgt ls st h) : xT K B l F own ini cc nL ret mc ms rc rs Q pc ls (.int x :: st) h :=
  xT.go k (fun _ _ _ _ _ _ _ _ _ _ _ _ _ _ C I w => lv_tableIn C.1 C.2.1 d h1 h2 ho ht w)
theorem xr_lookup {dflt : Int} {ps : Array (Int × Int)} {len : Nat} {x : Int32} {off : Int} {tgt : Nat} (d : decode cc pc = .ok (.lookupswitch dflt ps, len)) (hp : (ps.toList.zip (ps.toList.drop 1)).all (fun (a, next) => a.1 < next.1) = true) (ho : Op.lookupswitch.offset ps.toList dflt x.toInt = off) (ht : (pc : Int) + off = (tgt : Int)) (k : xT K B l F own ini cc nL ret mc ms rc rs Q tgt ls st h) : xT K B l F own ini cc nL ret mc ms rc rs Q pc ls (.int x :: st) h :=
  xT.go k (fun _ _ _ _ _ _ _ _ _ _ _ _ _ _ C I w => lv_lookup C.1 C.2.1 d hp ho ht w)
theorem xr_lcmp {x y : Int64} (d : decode cc pc = .ok (.lcmp, 1)) (k : xT K B l F own ini cc nL ret mc ms rc rs Q (pc + 1) ls (.int (lg_cmp x y) :: st) h) : xT K B l F own ini cc nL ret mc ms rc rs Q pc ls (.long y :: .long x :: st) h :=
  xT.go k (fun _ _ _ _ _ _ _ _ _ _ _ _ _ _ C I w => W.lcmp C.1 C.2.1 d  w)
theorem xr_ldc {index : Nat} {v : Int32} (hw : Cond.constant own index v ∈ xW) (d : decode cc pc = .ok (.ldc index, 2)) (k : xT K B l F own ini cc nL ret mc ms rc rs Q (pc + 2) ls (.int v :: st) h) : xT K B l F own ini cc nL ret mc ms rc rs Q pc ls st h :=
  xT.go k (fun _ _ _ _ _ _ _ _ _ _ _ _ _ _ C I w => lv_ldc C.1 C.2.1 C.2.2.2.2.2.1 (C.2.2.2.2.2.2.2.1.use hw) d w)
theorem xr_ldcw {index : Nat} {v : Int32} (hw : Cond.constant own index v ∈ xW) (d : decode cc pc = .ok (.ldc_w index, 3)) (k : xT K B l F own ini cc nL ret mc ms rc rs Q (pc + 3) ls (.int v :: st) h) : xT K B l F own ini cc nL ret mc ms rc rs Q pc ls st h :=
  xT.go k (fun _ _ _ _ _ _ _ _ _ _ _ _ _ _ C I w => lv_ldcw C.1 C.2.1 C.2.2.2.2.2.1 (C.2.2.2.2.2.2.2.1.use hw) d w)
theorem xr_ldc2 {index : Nat} {v : Int64} (hw : Cond.constantLong own index v ∈ xW) (d : decode cc pc = .ok (.ldc2_w index, 3)) (k : xT K B l F own ini cc nL ret mc ms rc rs Q (pc + 3) ls (.long v :: st) h) : xT K B l F own ini cc nL ret mc ms rc rs Q pc ls st h :=
  xT.go k (fun _ _ _ _ _ _ _ _ _ _ _ _ _ _ C I w => lv_ldc2 C.1 C.2.1 C.2.2.2.2.2.1 (C.2.2.2.2.2.2.2.1.use hw) d w)
theorem xr_iret {v : Int32} (d : decode cc pc = .ok (.ireturn, 1)) (hr : ret = some .int) (hq : Q (some (.int v)) h) : xT K B l F own ini cc nL ret mc ms rc rs Q pc ls [.int v] h := by
  intro p e s m args below meth c H locs cells slots L C I
  obtain ⟨i1, i2, i3, i4, i5, i6⟩ := I
  refine W.widen (k := mc) (n := ms) (by omega) (by omega) ?_
  exact W.iret C.1 C.2.1 (C.2.2.2.1.trans hr) (fun t ht hW => ⟨_, h, rfl, hq, by rw [ht]; exact i1, by rw [ht]; exact i2.1, fun q hq' => by rw [ht]; exact i2.2 q hq'⟩) i3 d C.2.2.2.2.1
theorem xr_zret {v : Int32} {ty : FieldType} (d : decode cc pc = .ok (.ireturn, 1)) (hr : ret = some ty) (hn : narrow ty (.int v) = .int v) (hq : Q (some (.int v)) h) : xT K B l F own ini cc nL ret mc ms rc rs Q pc ls [.int v] h := by
  intro p e s m args below meth c H locs cells slots L C I
  obtain ⟨i1, i2, i3, i4, i5, i6⟩ := I
  refine W.widen (k := mc) (n := ms) (by omega) (by omega) ?_
  exact W.zret C.1 C.2.1 (C.2.2.2.1.trans hr) hn (fun t ht hW => ⟨_, h, rfl, hq, by rw [ht]; exact i1, by rw [ht]; exact i2.1, fun q hq' => by rw [ht]; exact i2.2 q hq'⟩) i3 d C.2.2.2.2.1
theorem xr_lret {v : Int64} (d : decode cc pc = .ok (.lreturn, 1)) (hr : ret = some .long) (hq : Q (some (.long v)) h) : xT K B l F own ini cc nL ret mc ms rc rs Q pc ls [.long v] h := by
  intro p e s m args below meth c H locs cells slots L C I
  obtain ⟨i1, i2, i3, i4, i5, i6⟩ := I
  refine W.widen (k := mc) (n := ms) (by omega) (by omega) ?_
  exact W.lret C.1 C.2.1 (C.2.2.2.1.trans hr) (fun t ht hW => ⟨_, h, rfl, hq, by rw [ht]; exact i1, by rw [ht]; exact i2.1, fun q hq' => by rw [ht]; exact i2.2 q hq'⟩) i3 d C.2.2.2.2.1
theorem xr_vret (d : decode cc pc = .ok (.return_, 1)) (hr : ret = none) (hq : Q none h) : xT K B l F own ini cc nL ret mc ms rc rs Q pc ls [] h := by
  intro p e s m args below meth c H locs cells slots L C I
  obtain ⟨i1, i2, i3, i4, i5, i6⟩ := I
  refine W.widen (k := mc) (n := ms) (by omega) (by omega) ?_
  exact W.vret C.1 C.2.1 (C.2.2.2.1.trans hr) (fun t ht hW => ⟨_, h, rfl, hq, by rw [ht]; exact i1, by rw [ht]; exact i2.1, fun q hq' => by rw [ht]; exact i2.2 q hq'⟩) i3 d C.2.2.2.2.1
end XR
