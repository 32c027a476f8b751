/-! The model: sign (written by wip/whole/mod16.py) -/
def mb1 (v k : Int32) : Int32 := vp_nar .byte (v >>> ((8 * k) &&& 31)).toInt8.toInt32
def mSg (w : xs) (n : Nat) (v : Int32) : xs := upd (upd (upd (upd w n (mb1 v 3)) (n + 1) (mb1 v 2)) (n + 2) (mb1 v 1)) (n + 3) (mb1 v 0)
set_option maxRecDepth 20000 in
theorem s_mSign {K : xK} {B : Nat} {l : Launch} {h0 h : xH} {Y : Nat} {m : Nat → Int32} {rd : Value} {ru ot : Nat} {u : Nat → Nat → Int32} {v : Nat → Int64} (W : xMw K h0 h Y m rd ru ot u v) {n : Nat} (hn : m 2 = nI n) (h80 : n ≤ 80) (v1 : Int32) : xV K B l 0 mX12_sign 0 0 (Y) [.int v1] h (xPi (fun zr g => (¬ n + 4 ≤ 80 ∧ zr = -1 ∧ xMw K h0 g Y (upd m 5 0) rd ru ot u v) ∨ (n + 4 ≤ 80 ∧ zr = nI (n + 4) ∧ xMw K h0 g Y (upd (upd m 5 0) 2 (nI (n + 4))) rd ru ot (uu u 2 (mSg (u 2) n v1)) v))) := by
  refine ⟨⟨_, _, _, _, W.o, rfl⟩, qX12_sign, ?_⟩
  refine xS.intro RX12 false ⟨rfl, rfl, by decide, by decide, Nat.le_of_ble_eq_true rfl⟩ (ls := [some (.ref Y), some (.int v1), none]) rfl ?_
  refine xr_al0 dX12_sign_0 ?_
  refine xr_ic0 dX12_sign_1 ?_
  refine xr_put W.o fX12_82 (Nat.le_of_ble_eq_true rfl) rfl rfl dX12_sign_2 ?_
  refine xT.nm (fun zh1 zg1 => ?_)
  have W := W.f5 zg1
  refine xr_al0 dX12_sign_5 ?_
  refine xr_get W.o fX12_93 rfl dX12_sign_6 ?_
  refine xr_eqi (y := nI n) hn ?_
  refine xr_ic4 dX12_sign_9 ?_
  refine xr_iadd dX12_sign_10 ?_
  refine xr_eqi (y := nI (n + 4)) (nI_add n 4) ?_
  refine xr_bipush (v := 80) dX12_sign_11 (by decide) ?_
  refine xr_icmple (tgt := 18) dX12_sign_13 (by decide) (fun zc13 => ?_) (fun zc13 => ?_)
  · skip
    have q4 : n + 4 ≤ 80 := (nI_leI (by omega) (by decide)).mp zc13
    refine xr_ic3 dX12_sign_18 ?_
    refine xr_is2 dX12_sign_19 (by decide) rfl ?_
    refine xr_il2 dX12_sign_20 ?_
    refine xr_iflt (tgt := 53) dX12_sign_21 (by decide) (fun zc21 => ?_) (fun zc21 => ?_)
    · skip
      exact absurd zc21 (by decide)
    · skip
      refine xr_al0 dX12_sign_24 ?_
      refine xr_get W.o fX12_13 rfl dX12_sign_25 ?_
      refine xr_al0 dX12_sign_28 ?_
      refine xr_dup dX12_sign_29 rfl ?_
      refine xr_get W.o fX12_93 rfl dX12_sign_30 ?_
      refine xr_eqi (y := nI n) hn ?_
      refine xr_dup_x1 dX12_sign_33 rfl rfl ?_
      refine xr_ic1 dX12_sign_34 ?_
      refine xr_iadd dX12_sign_35 ?_
      refine xr_eqi (y := nI (n + 1)) (nI_1 _) ?_
      refine xr_put W.o fX12_93 (Nat.le_of_ble_eq_true rfl) rfl rfl dX12_sign_36 ?_
      refine xT.nm (fun zh1 zg1 => ?_)
      have W := W.f2 zg1
      refine xr_il1 dX12_sign_39 ?_
      refine xr_bipush (v := 8) dX12_sign_40 (by decide) ?_
      refine xr_il2 dX12_sign_42 ?_
      refine xr_imul dX12_sign_43 ?_
      refine xr_ishr dX12_sign_44 ?_
      refine xr_i2b dX12_sign_45 ?_
      refine xr_bast W.a2 (xix_nI (n := 80) (j := n) (by omega) (by decide)) dX12_sign_46 ?_
      refine xT.nm (fun zh2 zg2 => ?_)
      have W := W.p2 zg2
      refine xr_inc2 dX12_sign_47 (show (3 : Int32) + Int32.ofInt (-1) = 2 from rfl) (by decide) rfl ?_
      refine xr_goto (tgt := 20) dX12_sign_50 (by decide) ?_
      refine xr_il2 dX12_sign_20 ?_
      refine xr_iflt (tgt := 53) dX12_sign_21 (by decide) (fun zc21 => ?_) (fun zc21 => ?_)
      · skip
        exact absurd zc21 (by decide)
      · skip
        refine xr_al0 dX12_sign_24 ?_
        refine xr_get W.o fX12_13 rfl dX12_sign_25 ?_
        refine xr_al0 dX12_sign_28 ?_
        refine xr_dup dX12_sign_29 rfl ?_
        refine xr_get W.o fX12_93 rfl dX12_sign_30 ?_
        refine xr_eqi (y := nI (n + 1)) rfl ?_
        refine xr_dup_x1 dX12_sign_33 rfl rfl ?_
        refine xr_ic1 dX12_sign_34 ?_
        refine xr_iadd dX12_sign_35 ?_
        refine xr_eqi (y := nI (n + 2)) (nI_1 _) ?_
        refine xr_put W.o fX12_93 (Nat.le_of_ble_eq_true rfl) rfl rfl dX12_sign_36 ?_
        refine xT.nm (fun zh1 zg1 => ?_)
        have W := W.f2 zg1
        refine xr_il1 dX12_sign_39 ?_
        refine xr_bipush (v := 8) dX12_sign_40 (by decide) ?_
        refine xr_il2 dX12_sign_42 ?_
        refine xr_imul dX12_sign_43 ?_
        refine xr_ishr dX12_sign_44 ?_
        refine xr_i2b dX12_sign_45 ?_
        refine xr_bast W.a2 (xix_nI (n := 80) (j := (n + 1)) (by omega) (by decide)) dX12_sign_46 ?_
        refine xT.nm (fun zh2 zg2 => ?_)
        have W := W.p2 zg2
        refine xr_inc2 dX12_sign_47 (show (2 : Int32) + Int32.ofInt (-1) = 1 from rfl) (by decide) rfl ?_
        refine xr_goto (tgt := 20) dX12_sign_50 (by decide) ?_
        refine xr_il2 dX12_sign_20 ?_
        refine xr_iflt (tgt := 53) dX12_sign_21 (by decide) (fun zc21 => ?_) (fun zc21 => ?_)
        · skip
          exact absurd zc21 (by decide)
        · skip
          refine xr_al0 dX12_sign_24 ?_
          refine xr_get W.o fX12_13 rfl dX12_sign_25 ?_
          refine xr_al0 dX12_sign_28 ?_
          refine xr_dup dX12_sign_29 rfl ?_
          refine xr_get W.o fX12_93 rfl dX12_sign_30 ?_
          refine xr_eqi (y := nI (n + 2)) rfl ?_
          refine xr_dup_x1 dX12_sign_33 rfl rfl ?_
          refine xr_ic1 dX12_sign_34 ?_
          refine xr_iadd dX12_sign_35 ?_
          refine xr_eqi (y := nI (n + 3)) (nI_1 _) ?_
          refine xr_put W.o fX12_93 (Nat.le_of_ble_eq_true rfl) rfl rfl dX12_sign_36 ?_
          refine xT.nm (fun zh1 zg1 => ?_)
          have W := W.f2 zg1
          refine xr_il1 dX12_sign_39 ?_
          refine xr_bipush (v := 8) dX12_sign_40 (by decide) ?_
          refine xr_il2 dX12_sign_42 ?_
          refine xr_imul dX12_sign_43 ?_
          refine xr_ishr dX12_sign_44 ?_
          refine xr_i2b dX12_sign_45 ?_
          refine xr_bast W.a2 (xix_nI (n := 80) (j := (n + 2)) (by omega) (by decide)) dX12_sign_46 ?_
          refine xT.nm (fun zh2 zg2 => ?_)
          have W := W.p2 zg2
          refine xr_inc2 dX12_sign_47 (show (1 : Int32) + Int32.ofInt (-1) = 0 from rfl) (by decide) rfl ?_
          refine xr_goto (tgt := 20) dX12_sign_50 (by decide) ?_
          refine xr_il2 dX12_sign_20 ?_
          refine xr_iflt (tgt := 53) dX12_sign_21 (by decide) (fun zc21 => ?_) (fun zc21 => ?_)
          · skip
            exact absurd zc21 (by decide)
          · skip
            refine xr_al0 dX12_sign_24 ?_
            refine xr_get W.o fX12_13 rfl dX12_sign_25 ?_
            refine xr_al0 dX12_sign_28 ?_
            refine xr_dup dX12_sign_29 rfl ?_
            refine xr_get W.o fX12_93 rfl dX12_sign_30 ?_
            refine xr_eqi (y := nI (n + 3)) rfl ?_
            refine xr_dup_x1 dX12_sign_33 rfl rfl ?_
            refine xr_ic1 dX12_sign_34 ?_
            refine xr_iadd dX12_sign_35 ?_
            refine xr_eqi (y := nI (n + 4)) (nI_1 _) ?_
            refine xr_put W.o fX12_93 (Nat.le_of_ble_eq_true rfl) rfl rfl dX12_sign_36 ?_
            refine xT.nm (fun zh1 zg1 => ?_)
            have W := W.f2 zg1
            refine xr_il1 dX12_sign_39 ?_
            refine xr_bipush (v := 8) dX12_sign_40 (by decide) ?_
            refine xr_il2 dX12_sign_42 ?_
            refine xr_imul dX12_sign_43 ?_
            refine xr_ishr dX12_sign_44 ?_
            refine xr_i2b dX12_sign_45 ?_
            refine xr_bast W.a2 (xix_nI (n := 80) (j := (n + 3)) (by omega) (by decide)) dX12_sign_46 ?_
            refine xT.nm (fun zh2 zg2 => ?_)
            have W := W.p2 zg2
            refine xr_inc2 dX12_sign_47 (show (0 : Int32) + Int32.ofInt (-1) = (-1) from rfl) (by decide) rfl ?_
            refine xr_goto (tgt := 20) dX12_sign_50 (by decide) ?_
            refine xr_il2 dX12_sign_20 ?_
            refine xr_iflt (tgt := 53) dX12_sign_21 (by decide) (fun zc21 => ?_) (fun zc21 => ?_)
            · skip
              refine xr_al0 dX12_sign_53 ?_
              refine xr_get W.o fX12_93 rfl dX12_sign_54 ?_
              refine xr_iret dX12_sign_57 rfl ?_
              refine ⟨_, rfl, Or.inr ⟨q4, rfl, ?_⟩⟩
              rw [upd_upd, upd_upd, upd_upd, uu_uu, uu_uu, uu_uu] at W
              exact W
            · skip
              exact absurd (by decide) zc21
  · skip
    have q4 : ¬ n + 4 ≤ 80 := fun q => zc13 (nI_le q (by decide))
    refine xr_icm1 dX12_sign_16 ?_
    refine xr_iret dX12_sign_17 rfl ?_
    exact ⟨_, rfl, Or.inl ⟨q4, rfl, W⟩⟩
