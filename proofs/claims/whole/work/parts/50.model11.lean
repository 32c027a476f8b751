/-! The model: the take of pails (written by wip/whole/mod11.py) -/
set_option maxRecDepth 20000 in
theorem s_mTake {K : xK} {B : Nat} {l : Launch} {h0 h : xH} {Y : Nat} {m : Nat → Int32} {rd : Value} {ru ot : Nat} {u : Nat → Nat → Int32} {v : Nat → Int64} (W : xMw K h0 h Y m rd ru ot u v) {n : Nat} (hn : n ≤ 200) : xV K B l 0 mX12_take 0 0 (Y) [.int (nI n)] h (xPi (fun zr g => zr = lwT (u 21) n ∧ xMw K h0 g Y m rd ru ot u v)) := by
  refine ⟨⟨_, _, _, _, W.o, rfl⟩, qX12_take, ?_⟩
  refine xS.intro RX12 false ⟨rfl, rfl, by decide, by decide, Nat.le_of_ble_eq_true rfl⟩ (ls := [some (.ref Y), some (.int (nI n))]) rfl ?_
  refine xr_il1 dX12_take_0 ?_
  refine xr_ifle (tgt := 17) dX12_take_1 (by decide) (fun zc1 => ?_) (fun zc1 => ?_)
  · skip
    have n0 : n = 0 := Nat.le_zero.mp ((nI_leI (b := 0) (by omega) (by decide)).mp zc1)
    refine xr_il1 dX12_take_17 ?_
    refine xr_ifle (tgt := 44) dX12_take_18 (by decide) (fun zc18 => ?_) (fun zc18 => ?_)
    · skip
      refine xr_ic0 dX12_take_44 ?_
      refine xr_iret dX12_take_45 rfl ?_
      refine ⟨_, rfl, ?_, W⟩
      unfold lwT
      rw [if_pos n0]
    · skip
      exact absurd zc1 zc18
  · skip
    have n0 : ¬ n = 0 := fun q => zc1 (by subst q; decide)
    refine xr_al0 dX12_take_4 ?_
    refine xr_get W.o fX12_72 rfl dX12_take_5 ?_
    refine xr_il1 dX12_take_8 ?_
    refine xr_ic1 dX12_take_9 ?_
    refine xr_isub dX12_take_10 ?_
    refine xr_eqi (y := nI (n - 1)) (nI_sub (a := n) (b := 1) (by omega)) ?_
    refine xr_zald W.a21 (xix_nI (n := 201) (j := n - 1) (by omega) (by decide)) dX12_take_11 ?_
    refine xr_ifne (tgt := 17) dX12_take_12 (by decide) (fun zc12 => ?_) (fun zc12 => ?_)
    · skip
      refine xr_il1 dX12_take_17 ?_
      refine xr_ifle (tgt := 44) dX12_take_18 (by decide) (fun zc18 => ?_) (fun zc18 => ?_)
      · skip
        exact absurd zc18 zc1
      · skip
        refine xr_il1 dX12_take_21 ?_
        refine xr_ic2 dX12_take_22 ?_
        refine xr_irem dX12_take_23 (by decide) ?_
        refine xr_eqi (y := nI (n % 2)) (pk_rem (d := 2) (by omega) (by decide) (by decide)) ?_
        refine xr_ifne (tgt := 44) dX12_take_24 (by decide) (fun zc24 => ?_) (fun zc24 => ?_)
        · skip
          refine xr_ic0 dX12_take_44 ?_
          refine xr_iret dX12_take_45 rfl ?_
          refine ⟨_, rfl, ?_, W⟩
          unfold lwT
          rw [if_neg n0, if_neg zc12, if_neg (fun q => zc24 q.1)]
        · skip
          refine xr_al0 dX12_take_27 ?_
          refine xr_get W.o fX12_72 rfl dX12_take_28 ?_
          refine xr_il1 dX12_take_31 ?_
          refine xr_ic2 dX12_take_32 ?_
          refine xr_idiv dX12_take_33 (by decide) ?_
          refine xr_eqi (y := nI (n / 2)) (pk_div (d := 2) (by omega) (by decide) (by decide)) ?_
          refine xr_zald W.a21 (xix_nI (n := 201) (j := n / 2) (by omega) (by decide)) dX12_take_34 ?_
          refine xr_ifne (tgt := 44) dX12_take_35 (by decide) (fun zc35 => ?_) (fun zc35 => ?_)
          · skip
            refine xr_ic0 dX12_take_44 ?_
            refine xr_iret dX12_take_45 rfl ?_
            refine ⟨_, rfl, ?_, W⟩
            unfold lwT
            rw [if_neg n0, if_neg zc12, if_neg (fun q => zc35 q.2)]
          · skip
            refine xr_il1 dX12_take_38 ?_
            refine xr_ic2 dX12_take_39 ?_
            refine xr_idiv dX12_take_40 (by decide) ?_
            refine xr_eqi (y := nI (n / 2)) (pk_div (d := 2) (by omega) (by decide) (by decide)) ?_
            refine xr_goto (tgt := 45) dX12_take_41 (by decide) ?_
            refine xr_iret dX12_take_45 rfl ?_
            refine ⟨_, rfl, ?_, W⟩
            unfold lwT
            rw [if_neg n0, if_neg zc12, if_pos ⟨zc24, zc35⟩]
    · skip
      refine xr_ic1 dX12_take_15 ?_
      refine xr_iret dX12_take_16 rfl ?_
      refine ⟨_, rfl, ?_, W⟩
      unfold lwT
      rw [if_neg n0, if_pos zc12]
