/-! The model: the least of a group (written by wip/whole/mod54.py) -/
def loO (f6 f4 : xs) (gr fr x : Int32) : Nat → Nat → Int32 × Int32 × Int32 → Int32 × Int32 × Int32
  | 0, _, z => z
  | r + 1, a, z => loO f6 f4 gr fr x r (a + 1) (if nI a &&& (x ^^^ (-1)) = 0 ∧ 0 ≤ f6 a then loI f6 f4 gr fr x a 32 0 z else z)
theorem loO_n {f6 f4 : xs} {gr fr x : Int32} {a r : Nat} {z : Int32 × Int32 × Int32} (h : ¬ (nI a &&& (x ^^^ (-1)) = 0 ∧ 0 ≤ f6 a)) : loO f6 f4 gr fr x (r + 1) a z = loO f6 f4 gr fr x r (a + 1) z := congrArg (loO f6 f4 gr fr x r (a + 1)) (if_neg h)
theorem loO_y {f6 f4 : xs} {gr fr x : Int32} {a r : Nat} {z : Int32 × Int32 × Int32} (h : nI a &&& (x ^^^ (-1)) = 0 ∧ 0 ≤ f6 a) : loO f6 f4 gr fr x (r + 1) a z = loO f6 f4 gr fr x r (a + 1) (loI f6 f4 gr fr x a 32 0 z) := congrArg (loO f6 f4 gr fr x r (a + 1)) (if_pos h)
set_option maxRecDepth 20000 in
theorem lp_loO {K : xK} {B : Nat} {l : Launch} {h0 : xH} {Y : Nat} {m : Nat → Int32} {rd : Value} {ru ot : Nat} {u : Nat → Nat → Int32} {v : Nat → Int64} {x : Nat} {fr : Int32} (hx : x < 1024) : ∀ (r a : Nat) {z : Int32 × Int32 × Int32} {h : xH} {x5 x6 x7 : Option Value} (W : xMw K h0 h Y (fz m z) rd ru ot u v), a + r = 32 → xT K B l 1 RX12 false cX12_leastOf 8 (some .int) 0 0 0 0 (xPi (fun zr g => zr = (loO (u 16) (u 14) (u 1 13) fr (nI x) r a z).1 ∧ xMw K h0 g Y (fz m (loO (u 16) (u 14) (u 1 13) fr (nI x) r a z)) rd ru ot u v)) 7 [some (.ref Y), some (.int (nI x)), some (.int fr), some (.int z.1), some (.int (nI a)), x5, x6, x7] [] h := by
  intro r
  induction r with
  | zero =>
    intro a z h x5 x6 x7 W hk
    refine xr_il4 dX12_leastOf_7 ?_
    refine xr_bipush (v := 32) dX12_leastOf_9 (by decide) ?_
    refine xr_icmpge (tgt := 182) dX12_leastOf_11 (by decide) (fun zc11 => ?_) (fun zc11 => ?_)
    · skip
      refine xr_il3 dX12_leastOf_182 ?_
      refine xr_iret dX12_leastOf_183 rfl ?_
      exact ⟨_, rfl, rfl, W⟩
    · skip
      exact absurd (nI_le (a := 32) (b := a) (by omega) (by omega)) zc11
  | succ r ih =>
    intro a z h x5 x6 x7 W hk
    refine xr_il4 dX12_leastOf_7 ?_
    refine xr_bipush (v := 32) dX12_leastOf_9 (by decide) ?_
    refine xr_icmpge (tgt := 182) dX12_leastOf_11 (by decide) (fun zc11 => ?_) (fun zc11 => ?_)
    · skip
      exact absurd zc11 (nI_ge (b := 32) (a := a) (by omega) (by decide))
    · skip
      refine xr_il4 dX12_leastOf_14 ?_
      refine xr_il1 dX12_leastOf_16 ?_
      refine xr_icm1 dX12_leastOf_17 ?_
      refine xr_ixor dX12_leastOf_18 ?_
      refine xr_iand dX12_leastOf_19 ?_
      refine xr_ifne (tgt := 176) dX12_leastOf_20 (by decide) (fun zc20 => ?_) (fun zc20 => ?_)
      · skip
        refine xr_inc4 dX12_leastOf_176 (nI_1 a) (by decide) rfl ?_
        refine xr_goto (tgt := 7) dX12_leastOf_179 (by decide) ?_
        rw [loO_n (fun q => zc20 q.1)]
        exact ih (a + 1) W (by omega)
      · skip
        refine xr_al0 dX12_leastOf_23 ?_
        refine xr_get W.o fX12_57 rfl dX12_leastOf_24 ?_
        refine xr_il4 dX12_leastOf_27 ?_
        refine xr_iald W.a16 (xix_nI (n := 64) (j := a) (by omega) (by decide)) dX12_leastOf_29 ?_
        refine xr_ifge (tgt := 36) dX12_leastOf_30 (by decide) (fun zc30 => ?_) (fun zc30 => ?_)
        · skip
          refine xr_ic0 dX12_leastOf_36 ?_
          refine xr_is5 dX12_leastOf_37 (by decide) rfl ?_
          rw [loO_y ⟨zc20, zc30⟩]
          refine lp_loI hx (by omega) 32 0 W (by omega) (fun {h x5 x6 x7} W => ?_)
          refine xr_inc4 dX12_leastOf_176 (nI_1 a) (by decide) rfl ?_
          refine xr_goto (tgt := 7) dX12_leastOf_179 (by decide) ?_
          exact ih (a + 1) W (by omega)
        · skip
          refine xr_goto (tgt := 176) dX12_leastOf_33 (by decide) ?_
          refine xr_inc4 dX12_leastOf_176 (nI_1 a) (by decide) rfl ?_
          refine xr_goto (tgt := 7) dX12_leastOf_179 (by decide) ?_
          rw [loO_n (fun q => zc30 q.2)]
          exact ih (a + 1) W (by omega)
