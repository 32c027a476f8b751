/-! The model's reader of rules beside the class's: products, sums, things (written by wip/whole/mod43.py) -/
theorem tp_le {sh : List Int32} (h : tp sh 2) : tp sh 3 := fun y t e => Int32.lt_trans (h y t e) (by decide)
set_option maxRecDepth 20000 in
theorem lp_prod {K : xK} {B : Nat} {l : Launch} {h0 : xH} {Y : Nat} {m : Nat → Int32} {ru ot q tn : Nat} {u : Nat → Nat → Int32} {v : Nat → Int64} {tf : xs} (Z : rQ m q tn 40) (T0 : ∀ j, j < tn → u q j &&& 255 = tf j ∧ byt (u q j)) {N F0 : Nat} (hT : rMet K B l h0 Y m ru ot q tn u v tf mX12_thing 3 (fun d => d + 1) (fun _ _ _ => True) (fun _ _ _ => True) N F0) {p d C : Nat} {sh ou : List Int32} (hd : d ≤ 4) (hC : C < 32) (hN : min tn 40 - p ≤ N) (htp : tp sh 3) : ∀ (r : Nat) {h : xH} {a : Int32} {x3 x4 : Option Value} {sh1 ou1 : List Int32} {p1 C1 : Nat} (hp1 : p < p1) (hpl : p1 ≤ min tn 40) (hC1 : C1 < 32) (hbits : ∀ j, j < d + 1 → C1.testBit j = C.testBit j) (hR : Rn tf tn (sh, ou, p, d, nI C, 1) = Rn tf tn (sh1, ou1, p1, d, nI C1, 0)) (hrel : Rel 3 (alM m u) sh ou sh1 ou1 a)  (W : xMw K h0 h Y (rdm m p1 (-1)) (.ref (Y + q)) ru ot u v), min tn 40 - p1 ≤ r → xT K B l (F0 + 1) RX12 false cX12_product 5 (some .int) 0 0 0 0 (xPi (fun zr g => rOut K h0 Y m ru ot q tn u v tf 3 (d + 1) (scP (u q) tn d) sh ou p d C zr g)) 6 [some (.ref Y), some (.int (nI d)), some (.int a), x3, x4] [] h := by
  have h80 : tn ≤ 80 := Z.2.2.1
  intro r
  induction r with
  | zero =>
    intro h a x3 x4 sh1 ou1 p1 C1 hp1 hpl hC1 hbits hR hrel  W hk
    obtain ⟨o1, e1, f1⟩ := id hrel
    refine xr_al0 dX12_product_6 ?_
    refine xr_Vpi0 (r_fine W) kX12_115 (by omega) (Nat.le_of_ble_eq_true rfl) (Nat.zero_add _) (Nat.zero_add _) dX12_product_7 (fun zv7 zh1 zq1 => ?_)
    obtain ⟨rfl, W⟩ := zq1
    refine xr_ifeq (tgt := 91) dX12_product_10 (by decide) (fun zc10 => ?_) (fun zc10 => ?_)
    · skip
      exact absurd (bI_t rfl) (fun q => absurd (q.symm.trans zc10) (by decide))
    · skip
      refine xr_al0 dX12_product_13 ?_
      refine xr_Vpi0 (r_here Z (by omega) W) kX12_119 (by omega) (Nat.le_of_ble_eq_true rfl) (Nat.zero_add _) (Nat.zero_add _) dX12_product_14 (fun zv14 zh2 zq2 => ?_)
      obtain ⟨rfl, W⟩ := zq2
      refine xr_bipush (v := 42) dX12_product_17 (by decide) ?_
      refine xr_icmpeq (tgt := 31) dX12_product_19 (by decide) (fun zc19 => ?_) (fun zc19 => ?_)
      · skip
        exfalso
        have pl : p1 < min tn 40 := gs_lt (x := u q) (by rw [show hrV (u q) p1 tn 40 = 42 from zc19]; decide)
        omega
      · skip
        refine xr_al0 dX12_product_22 ?_
        refine xr_Vpi0 (r_here Z (by omega) W) kX12_119 (by omega) (Nat.le_of_ble_eq_true rfl) (Nat.zero_add _) (Nat.zero_add _) dX12_product_23 (fun zv23 zh3 zq3 => ?_)
        obtain ⟨rfl, W⟩ := zq3
        refine xr_bipush (v := 47) dX12_product_26 (by decide) ?_
        refine xr_icmpne (tgt := 91) dX12_product_28 (by decide) (fun zc28 => ?_) (fun zc28 => ?_)
        · skip
          refine xr_il2 dX12_product_91 ?_
          refine xr_iret dX12_product_92 rfl ?_
          exact ⟨_, rfl, Or.inl ⟨sh1, ou1, p1, C1, hp1, hpl, hC1, hbits, hR, ⟨o1, e1, f1⟩, ⟨zc19, zc28⟩, W⟩⟩
        · skip
          exfalso
          have pl : p1 < min tn 40 := gs_lt (x := u q) (by rw [show hrV (u q) p1 tn 40 = 47 from zc28]; decide)
          omega
  | succ r ih =>
    intro h a x3 x4 sh1 ou1 p1 C1 hp1 hpl hC1 hbits hR hrel  W hk
    obtain ⟨o1, e1, f1⟩ := id hrel
    refine xr_al0 dX12_product_6 ?_
    refine xr_Vpi0 (r_fine W) kX12_115 (by omega) (Nat.le_of_ble_eq_true rfl) (Nat.zero_add _) (Nat.zero_add _) dX12_product_7 (fun zv7 zh1 zq1 => ?_)
    obtain ⟨rfl, W⟩ := zq1
    refine xr_ifeq (tgt := 91) dX12_product_10 (by decide) (fun zc10 => ?_) (fun zc10 => ?_)
    · skip
      exact absurd (bI_t rfl) (fun q => absurd (q.symm.trans zc10) (by decide))
    · skip
      refine xr_al0 dX12_product_13 ?_
      refine xr_Vpi0 (r_here Z (by omega) W) kX12_119 (by omega) (Nat.le_of_ble_eq_true rfl) (Nat.zero_add _) (Nat.zero_add _) dX12_product_14 (fun zv14 zh2 zq2 => ?_)
      obtain ⟨rfl, W⟩ := zq2
      refine xr_bipush (v := 42) dX12_product_17 (by decide) ?_
      refine xr_icmpeq (tgt := 31) dX12_product_19 (by decide) (fun zc19 => ?_) (fun zc19 => ?_)
      · skip
        have gy : hrV (u q) p1 tn 40 = 42 := zc19
        have pl : p1 < min tn 40 := gs_lt (by rw [gy]; decide)
        have hstep := stp_join h80 T0 (sh1 := sh1) (ou1 := ou1) (sh := sh) (o1 := o1) (d := d) (C := C1) gy (by decide) (k := 3) (by decide) (by decide) ((f1 3 (by decide) (by decide)).trans (bbk_tp htp o1))
        have hR := hR.trans hstep
        refine xr_al0 dX12_product_31 ?_
        refine xr_Vpi0 (r_here Z (by omega) W) kX12_119 (by omega) (Nat.le_of_ble_eq_true rfl) (Nat.zero_add _) (Nat.zero_add _) dX12_product_32 (fun zv32 zh1 zq1 => ?_)
        obtain ⟨rfl, W⟩ := zq1
        refine xr_bipush (v := 42) dX12_product_35 (by decide) ?_
        refine xr_icmpne (tgt := 44) dX12_product_37 (by decide) (fun zc37 => ?_) (fun zc37 => ?_)
        · skip
          exact absurd zc19 zc37
        · skip
          refine xr_ic1 dX12_product_40 ?_
          refine xr_goto (tgt := 45) dX12_product_41 (by decide) ?_
          refine xr_is3 dX12_product_45 (by decide) rfl ?_
          refine xr_al0 dX12_product_46 ?_
          refine xr_dup dX12_product_47 rfl ?_
          refine xr_get W.o fX12_105 rfl dX12_product_48 ?_
          refine xr_eqi (y := nI p1) rfl ?_
          refine xr_ic1 dX12_product_51 ?_
          refine xr_iadd dX12_product_52 ?_
          refine xr_eqi (y := nI (p1 + 1)) (nI_1 p1) ?_
          refine xr_put W.o fX12_105 (Nat.le_of_ble_eq_true rfl) rfl rfl dX12_product_53 ?_
          refine xT.nm (fun zh2 zg2 => ?_)
          have W := W.f9 zg2
          rw [rdm_p] at W
          refine xr_al0 dX12_product_56 ?_
          refine xr_il1 dX12_product_57 ?_
          refine xr_Vpi1 (hT _ ((0 - 42) :: sh) o1 (p1 + 1) d C1 (by omega) (by omega) hd hC1 (trivial) W) kX12_157 (by omega) (Nat.le_of_ble_eq_true rfl) (Nat.zero_add _) (Nat.zero_add _) dX12_product_58 (fun zo zh3 zq3 => ?_)
          rcases zq3 with ⟨sh3, ou3, p3, C3, l3, m3, hc3, bits3', e3, rel3, sc3, W⟩ | ⟨b, p', hb, bp', eb, W⟩
          rotate_left
          · skip
            refine xr_is4 dX12_product_61 (by decide) rfl ?_
            refine xr_il3 dX12_product_63 ?_
            refine xr_ifeq (tgt := 74) dX12_product_64 (by decide) (fun zc64 => ?_) (fun zc64 => ?_)
            · skip
              exact absurd zc64 (by decide)
            · skip
              refine xr_il2 dX12_product_67 ?_
              refine xr_il4 dX12_product_68 ?_
              refine xr_imul dX12_product_70 ?_
              refine xr_goto (tgt := 87) dX12_product_71 (by decide) ?_
              refine xr_is2 dX12_product_87 (by decide) rfl ?_
              refine xr_goto (tgt := 6) dX12_product_88 (by decide) ?_
              refine xr_al0 dX12_product_6 ?_
              refine xr_Vpi0 (r_fine W) kX12_115 (by omega) (Nat.le_of_ble_eq_true rfl) (Nat.zero_add _) (Nat.zero_add _) dX12_product_7 (fun zv7 zh1 zq1 => ?_)
              obtain ⟨rfl, W⟩ := zq1
              refine xr_ifeq (tgt := 91) dX12_product_10 (by decide) (fun zc10 => ?_) (fun zc10 => ?_)
              · skip
                refine xr_il2 dX12_product_91 ?_
                refine xr_iret dX12_product_92 rfl ?_
                exact ⟨_, rfl, Or.inr ⟨b, p', hb, bp', by rw [hR]; exact eb, W⟩⟩
              · skip
                exact absurd (bI_f (nI_m1 (by omega))) zc10
          have bits3 : ∀ j, j < d + 1 → C3.testBit j = C.testBit j := fun j hj => (bits3' j hj).trans (hbits j hj)
          refine xr_is4 dX12_product_61 (by decide) rfl ?_
          refine xr_il3 dX12_product_63 ?_
          refine xr_ifeq (tgt := 74) dX12_product_64 (by decide) (fun zc64 => ?_) (fun zc64 => ?_)
          · skip
            exact absurd zc64 (by decide)
          · skip
            refine xr_il2 dX12_product_67 ?_
            refine xr_il4 dX12_product_68 ?_
            refine xr_imul dX12_product_70 ?_
            refine xr_goto (tgt := 87) dX12_product_71 (by decide) ?_
            refine xr_is2 dX12_product_87 (by decide) rfl ?_
            refine xr_goto (tgt := 6) dX12_product_88 (by decide) ?_
            have ej : jo 42 a zo = a * zo := rfl
            have rj := Rel_join' (n := 3) (y := 42) e1 rel3 (by intro k h1 h2; rcases (show k = 1 ∨ k = 2 ∨ k = 3 by omega) with rfl | rfl | rfl <;> decide) (by decide) (st_join _ (by decide) _ _ _)
            rw [ej] at rj
            exact ih (by omega) m3 hc3 bits3 (hR.trans e3) rj W (by omega)
      · skip
        refine xr_al0 dX12_product_22 ?_
        refine xr_Vpi0 (r_here Z (by omega) W) kX12_119 (by omega) (Nat.le_of_ble_eq_true rfl) (Nat.zero_add _) (Nat.zero_add _) dX12_product_23 (fun zv23 zh3 zq3 => ?_)
        obtain ⟨rfl, W⟩ := zq3
        refine xr_bipush (v := 47) dX12_product_26 (by decide) ?_
        refine xr_icmpne (tgt := 91) dX12_product_28 (by decide) (fun zc28 => ?_) (fun zc28 => ?_)
        · skip
          refine xr_il2 dX12_product_91 ?_
          refine xr_iret dX12_product_92 rfl ?_
          exact ⟨_, rfl, Or.inl ⟨sh1, ou1, p1, C1, hp1, hpl, hC1, hbits, hR, ⟨o1, e1, f1⟩, ⟨zc19, zc28⟩, W⟩⟩
        · skip
          have gy : hrV (u q) p1 tn 40 = 47 := zc28
          have pl : p1 < min tn 40 := gs_lt (by rw [gy]; decide)
          have hstep := stp_join h80 T0 (sh1 := sh1) (ou1 := ou1) (sh := sh) (o1 := o1) (d := d) (C := C1) gy (by decide) (k := 3) (by decide) (by decide) ((f1 3 (by decide) (by decide)).trans (bbk_tp htp o1))
          have hR := hR.trans hstep
          refine xr_al0 dX12_product_31 ?_
          refine xr_Vpi0 (r_here Z (by omega) W) kX12_119 (by omega) (Nat.le_of_ble_eq_true rfl) (Nat.zero_add _) (Nat.zero_add _) dX12_product_32 (fun zv32 zh1 zq1 => ?_)
          obtain ⟨rfl, W⟩ := zq1
          refine xr_bipush (v := 42) dX12_product_35 (by decide) ?_
          refine xr_icmpne (tgt := 44) dX12_product_37 (by decide) (fun zc37 => ?_) (fun zc37 => ?_)
          · skip
            refine xr_ic0 dX12_product_44 ?_
            refine xr_is3 dX12_product_45 (by decide) rfl ?_
            refine xr_al0 dX12_product_46 ?_
            refine xr_dup dX12_product_47 rfl ?_
            refine xr_get W.o fX12_105 rfl dX12_product_48 ?_
            refine xr_eqi (y := nI p1) rfl ?_
            refine xr_ic1 dX12_product_51 ?_
            refine xr_iadd dX12_product_52 ?_
            refine xr_eqi (y := nI (p1 + 1)) (nI_1 p1) ?_
            refine xr_put W.o fX12_105 (Nat.le_of_ble_eq_true rfl) rfl rfl dX12_product_53 ?_
            refine xT.nm (fun zh2 zg2 => ?_)
            have W := W.f9 zg2
            rw [rdm_p] at W
            refine xr_al0 dX12_product_56 ?_
            refine xr_il1 dX12_product_57 ?_
            refine xr_Vpi1 (hT _ ((0 - 47) :: sh) o1 (p1 + 1) d C1 (by omega) (by omega) hd hC1 (trivial) W) kX12_157 (by omega) (Nat.le_of_ble_eq_true rfl) (Nat.zero_add _) (Nat.zero_add _) dX12_product_58 (fun zo zh3 zq3 => ?_)
            rcases zq3 with ⟨sh3, ou3, p3, C3, l3, m3, hc3, bits3', e3, rel3, sc3, W⟩ | ⟨b, p', hb, bp', eb, W⟩
            rotate_left
            · skip
              refine xr_is4 dX12_product_61 (by decide) rfl ?_
              refine xr_il3 dX12_product_63 ?_
              refine xr_ifeq (tgt := 74) dX12_product_64 (by decide) (fun zc64 => ?_) (fun zc64 => ?_)
              · skip
                refine xr_il4 dX12_product_74 ?_
                refine xr_ifne (tgt := 83) dX12_product_76 (by decide) (fun zc76 => ?_) (fun zc76 => ?_)
                · skip
                  refine xr_il2 dX12_product_83 ?_
                  refine xr_il4 dX12_product_84 ?_
                  refine xr_idiv dX12_product_86 zc76 ?_
                  refine xr_is2 dX12_product_87 (by decide) rfl ?_
                  refine xr_goto (tgt := 6) dX12_product_88 (by decide) ?_
                  refine xr_al0 dX12_product_6 ?_
                  refine xr_Vpi0 (r_fine W) kX12_115 (by omega) (Nat.le_of_ble_eq_true rfl) (Nat.zero_add _) (Nat.zero_add _) dX12_product_7 (fun zv7 zh1 zq1 => ?_)
                  obtain ⟨rfl, W⟩ := zq1
                  refine xr_ifeq (tgt := 91) dX12_product_10 (by decide) (fun zc10 => ?_) (fun zc10 => ?_)
                  · skip
                    refine xr_il2 dX12_product_91 ?_
                    refine xr_iret dX12_product_92 rfl ?_
                    exact ⟨_, rfl, Or.inr ⟨b, p', hb, bp', by rw [hR]; exact eb, W⟩⟩
                  · skip
                    exact absurd (bI_f (nI_m1 (by omega))) zc10
                · skip
                  refine xr_ic0 dX12_product_79 ?_
                  refine xr_goto (tgt := 87) dX12_product_80 (by decide) ?_
                  refine xr_is2 dX12_product_87 (by decide) rfl ?_
                  refine xr_goto (tgt := 6) dX12_product_88 (by decide) ?_
                  refine xr_al0 dX12_product_6 ?_
                  refine xr_Vpi0 (r_fine W) kX12_115 (by omega) (Nat.le_of_ble_eq_true rfl) (Nat.zero_add _) (Nat.zero_add _) dX12_product_7 (fun zv7 zh1 zq1 => ?_)
                  obtain ⟨rfl, W⟩ := zq1
                  refine xr_ifeq (tgt := 91) dX12_product_10 (by decide) (fun zc10 => ?_) (fun zc10 => ?_)
                  · skip
                    refine xr_il2 dX12_product_91 ?_
                    refine xr_iret dX12_product_92 rfl ?_
                    exact ⟨_, rfl, Or.inr ⟨b, p', hb, bp', by rw [hR]; exact eb, W⟩⟩
                  · skip
                    exact absurd (bI_f (nI_m1 (by omega))) zc10
              · skip
                exact absurd rfl zc64
            have bits3 : ∀ j, j < d + 1 → C3.testBit j = C.testBit j := fun j hj => (bits3' j hj).trans (hbits j hj)
            refine xr_is4 dX12_product_61 (by decide) rfl ?_
            refine xr_il3 dX12_product_63 ?_
            refine xr_ifeq (tgt := 74) dX12_product_64 (by decide) (fun zc64 => ?_) (fun zc64 => ?_)
            · skip
              refine xr_il4 dX12_product_74 ?_
              refine xr_ifne (tgt := 83) dX12_product_76 (by decide) (fun zc76 => ?_) (fun zc76 => ?_)
              · skip
                refine xr_il2 dX12_product_83 ?_
                refine xr_il4 dX12_product_84 ?_
                refine xr_idiv dX12_product_86 zc76 ?_
                refine xr_is2 dX12_product_87 (by decide) rfl ?_
                refine xr_goto (tgt := 6) dX12_product_88 (by decide) ?_
                have ej : jo 47 a zo = a / zo := if_neg zc76
                have rj := Rel_join' (n := 3) (y := 47) e1 rel3 (by intro k h1 h2; rcases (show k = 1 ∨ k = 2 ∨ k = 3 by omega) with rfl | rfl | rfl <;> decide) (by decide) (st_join _ (by decide) _ _ _)
                rw [ej] at rj
                exact ih (by omega) m3 hc3 bits3 (hR.trans e3) rj W (by omega)
              · skip
                refine xr_ic0 dX12_product_79 ?_
                refine xr_goto (tgt := 87) dX12_product_80 (by decide) ?_
                refine xr_is2 dX12_product_87 (by decide) rfl ?_
                refine xr_goto (tgt := 6) dX12_product_88 (by decide) ?_
                have ej : jo 47 a zo = 0 := if_pos zc76
                have rj := Rel_join' (n := 3) (y := 47) e1 rel3 (by intro k h1 h2; rcases (show k = 1 ∨ k = 2 ∨ k = 3 by omega) with rfl | rfl | rfl <;> decide) (by decide) (st_join _ (by decide) _ _ _)
                rw [ej] at rj
                exact ih (by omega) m3 hc3 bits3 (hR.trans e3) rj W (by omega)
            · skip
              exact absurd rfl zc64
          · skip
            exact absurd (zc28.symm.trans zc37) (by decide)
set_option maxRecDepth 20000 in
theorem r_prod {K : xK} {B : Nat} {l : Launch} {h0 : xH} {Y : Nat} {m : Nat → Int32} {ru ot q tn : Nat} {u : Nat → Nat → Int32} {v : Nat → Int64} {tf : xs} (Z : rQ m q tn 40) (T0 : ∀ j, j < tn → u q j &&& 255 = tf j ∧ byt (u q j)) {N F0 : Nat} (hT : rMet K B l h0 Y m ru ot q tn u v tf mX12_thing 3 (fun d => d + 1) (fun _ _ _ => True) (fun _ _ _ => True) N F0) : rMet K B l h0 Y m ru ot q tn u v tf mX12_product 3 (fun d => d + 1) (fun sh _ _ => tp sh 3) (scP (u q) tn) N (F0 + 1) := by
  intro h sh ou p d C hp hN hd hC htp W
  refine ⟨⟨_, _, _, _, W.o, rfl⟩, qX12_product, ?_⟩
  refine xS.intro RX12 false ⟨rfl, rfl, by decide, by decide, Nat.le_of_ble_eq_true rfl⟩ (ls := [some (.ref Y), some (.int (nI d)), none, none, none]) rfl ?_
  refine xr_al0 dX12_product_0 ?_
  refine xr_il1 dX12_product_1 ?_
  refine xr_Vpi1 (hT _ sh ou p d C hp hN hd hC trivial W) kX12_157 (by omega) (Nat.le_of_ble_eq_true rfl) (Nat.zero_add _) (Nat.zero_add _) dX12_product_2 (fun za zh1 zq1 => ?_)
  rcases zq1 with ⟨sh1, ou1, p1, C1, l1, m1, hc1, bits1, e1, rel1, sc1, W⟩ | ⟨b, p', hb, bp', eb, W⟩
  rotate_left
  · skip
    refine xr_is2 dX12_product_5 (by decide) rfl ?_
    refine xr_al0 dX12_product_6 ?_
    refine xr_Vpi0 (r_fine W) kX12_115 (by omega) (Nat.le_of_ble_eq_true rfl) (Nat.zero_add _) (Nat.zero_add _) dX12_product_7 (fun zv7 zh1 zq1 => ?_)
    obtain ⟨rfl, W⟩ := zq1
    refine xr_ifeq (tgt := 91) dX12_product_10 (by decide) (fun zc10 => ?_) (fun zc10 => ?_)
    · skip
      refine xr_il2 dX12_product_91 ?_
      refine xr_iret dX12_product_92 rfl ?_
      exact ⟨_, rfl, Or.inr ⟨b, p', hb, bp', eb, W⟩⟩
    · skip
      exact absurd (bI_f (nI_m1 (by omega))) zc10
  refine xr_is2 dX12_product_5 (by decide) rfl ?_
  exact lp_prod Z T0 hT hd hC hN htp (min tn 40 - p1) l1 m1 hc1 bits1 e1 rel1 W (by omega)
set_option maxRecDepth 20000 in
theorem lp_sum {K : xK} {B : Nat} {l : Launch} {h0 : xH} {Y : Nat} {m : Nat → Int32} {ru ot q tn : Nat} {u : Nat → Nat → Int32} {v : Nat → Int64} {tf : xs} (Z : rQ m q tn 40) (T0 : ∀ j, j < tn → u q j &&& 255 = tf j ∧ byt (u q j)) {N F0 : Nat} (hT : rMet K B l h0 Y m ru ot q tn u v tf mX12_product 3 (fun d => d + 1) (fun sh _ _ => tp sh 3) (scP (u q) tn) N F0) {p d C : Nat} {sh ou : List Int32} (hd : d ≤ 4) (hC : C < 32) (hN : min tn 40 - p ≤ N) (htp : tp sh 2) : ∀ (r : Nat) {h : xH} {a : Int32} {x3 x4 : Option Value} {sh1 ou1 : List Int32} {p1 C1 : Nat} (hp1 : p < p1) (hpl : p1 ≤ min tn 40) (hC1 : C1 < 32) (hbits : ∀ j, j < d + 1 → C1.testBit j = C.testBit j) (hR : Rn tf tn (sh, ou, p, d, nI C, 1) = Rn tf tn (sh1, ou1, p1, d, nI C1, 0)) (hrel : Rel 2 (alM m u) sh ou sh1 ou1 a) (hsc : scP (u q) tn d p1 C1) (W : xMw K h0 h Y (rdm m p1 (-1)) (.ref (Y + q)) ru ot u v), min tn 40 - p1 ≤ r → xT K B l (F0 + 1) RX12 false cX12_sum 5 (some .int) 0 0 0 0 (xPi (fun zr g => rOut K h0 Y m ru ot q tn u v tf 2 (d + 1) (scS (u q) tn d) sh ou p d C zr g)) 6 [some (.ref Y), some (.int (nI d)), some (.int a), x3, x4] [] h := by
  have h80 : tn ≤ 80 := Z.2.2.1
  intro r
  induction r with
  | zero =>
    intro h a x3 x4 sh1 ou1 p1 C1 hp1 hpl hC1 hbits hR hrel hsc W hk
    obtain ⟨o1, e1, f1⟩ := id hrel
    refine xr_al0 dX12_sum_6 ?_
    refine xr_Vpi0 (r_fine W) kX12_115 (by omega) (Nat.le_of_ble_eq_true rfl) (Nat.zero_add _) (Nat.zero_add _) dX12_sum_7 (fun zv7 zh1 zq1 => ?_)
    obtain ⟨rfl, W⟩ := zq1
    refine xr_ifeq (tgt := 82) dX12_sum_10 (by decide) (fun zc10 => ?_) (fun zc10 => ?_)
    · skip
      exact absurd (bI_t rfl) (fun q => absurd (q.symm.trans zc10) (by decide))
    · skip
      refine xr_al0 dX12_sum_13 ?_
      refine xr_Vpi0 (r_here Z (by omega) W) kX12_119 (by omega) (Nat.le_of_ble_eq_true rfl) (Nat.zero_add _) (Nat.zero_add _) dX12_sum_14 (fun zv14 zh2 zq2 => ?_)
      obtain ⟨rfl, W⟩ := zq2
      refine xr_bipush (v := 43) dX12_sum_17 (by decide) ?_
      refine xr_icmpeq (tgt := 31) dX12_sum_19 (by decide) (fun zc19 => ?_) (fun zc19 => ?_)
      · skip
        exfalso
        have pl : p1 < min tn 40 := gs_lt (x := u q) (by rw [show hrV (u q) p1 tn 40 = 43 from zc19]; decide)
        omega
      · skip
        refine xr_al0 dX12_sum_22 ?_
        refine xr_Vpi0 (r_here Z (by omega) W) kX12_119 (by omega) (Nat.le_of_ble_eq_true rfl) (Nat.zero_add _) (Nat.zero_add _) dX12_sum_23 (fun zv23 zh3 zq3 => ?_)
        obtain ⟨rfl, W⟩ := zq3
        refine xr_bipush (v := 45) dX12_sum_26 (by decide) ?_
        refine xr_icmpne (tgt := 82) dX12_sum_28 (by decide) (fun zc28 => ?_) (fun zc28 => ?_)
        · skip
          refine xr_il2 dX12_sum_82 ?_
          refine xr_iret dX12_sum_83 rfl ?_
          exact ⟨_, rfl, Or.inl ⟨sh1, ou1, p1, C1, hp1, hpl, hC1, hbits, hR, ⟨o1, e1, f1⟩, ⟨hsc, zc19, zc28⟩, W⟩⟩
        · skip
          exfalso
          have pl : p1 < min tn 40 := gs_lt (x := u q) (by rw [show hrV (u q) p1 tn 40 = 45 from zc28]; decide)
          omega
  | succ r ih =>
    intro h a x3 x4 sh1 ou1 p1 C1 hp1 hpl hC1 hbits hR hrel hsc W hk
    obtain ⟨o1, e1, f1⟩ := id hrel
    refine xr_al0 dX12_sum_6 ?_
    refine xr_Vpi0 (r_fine W) kX12_115 (by omega) (Nat.le_of_ble_eq_true rfl) (Nat.zero_add _) (Nat.zero_add _) dX12_sum_7 (fun zv7 zh1 zq1 => ?_)
    obtain ⟨rfl, W⟩ := zq1
    refine xr_ifeq (tgt := 82) dX12_sum_10 (by decide) (fun zc10 => ?_) (fun zc10 => ?_)
    · skip
      exact absurd (bI_t rfl) (fun q => absurd (q.symm.trans zc10) (by decide))
    · skip
      refine xr_al0 dX12_sum_13 ?_
      refine xr_Vpi0 (r_here Z (by omega) W) kX12_119 (by omega) (Nat.le_of_ble_eq_true rfl) (Nat.zero_add _) (Nat.zero_add _) dX12_sum_14 (fun zv14 zh2 zq2 => ?_)
      obtain ⟨rfl, W⟩ := zq2
      refine xr_bipush (v := 43) dX12_sum_17 (by decide) ?_
      refine xr_icmpeq (tgt := 31) dX12_sum_19 (by decide) (fun zc19 => ?_) (fun zc19 => ?_)
      · skip
        have gy : hrV (u q) p1 tn 40 = 43 := zc19
        have pl : p1 < min tn 40 := gs_lt (by rw [gy]; decide)
        have hstep := stp_join h80 T0 (sh1 := sh1) (ou1 := ou1) (sh := sh) (o1 := o1) (d := d) (C := C1) gy (by decide) (k := 2) (by decide) (by decide) ((f1 2 (by decide) (by decide)).trans (bbk_tp htp o1))
        have hR := hR.trans hstep
        have tp_s : tp ((0 - 43) :: sh) 3 := fun y' t' e' => by
          cases e'
          decide
        refine xr_al0 dX12_sum_31 ?_
        refine xr_Vpi0 (r_here Z (by omega) W) kX12_119 (by omega) (Nat.le_of_ble_eq_true rfl) (Nat.zero_add _) (Nat.zero_add _) dX12_sum_32 (fun zv32 zh1 zq1 => ?_)
        obtain ⟨rfl, W⟩ := zq1
        refine xr_bipush (v := 43) dX12_sum_35 (by decide) ?_
        refine xr_icmpne (tgt := 44) dX12_sum_37 (by decide) (fun zc37 => ?_) (fun zc37 => ?_)
        · skip
          exact absurd zc19 zc37
        · skip
          refine xr_ic1 dX12_sum_40 ?_
          refine xr_goto (tgt := 45) dX12_sum_41 (by decide) ?_
          refine xr_is3 dX12_sum_45 (by decide) rfl ?_
          refine xr_al0 dX12_sum_46 ?_
          refine xr_dup dX12_sum_47 rfl ?_
          refine xr_get W.o fX12_105 rfl dX12_sum_48 ?_
          refine xr_eqi (y := nI p1) rfl ?_
          refine xr_ic1 dX12_sum_51 ?_
          refine xr_iadd dX12_sum_52 ?_
          refine xr_eqi (y := nI (p1 + 1)) (nI_1 p1) ?_
          refine xr_put W.o fX12_105 (Nat.le_of_ble_eq_true rfl) rfl rfl dX12_sum_53 ?_
          refine xT.nm (fun zh2 zg2 => ?_)
          have W := W.f9 zg2
          rw [rdm_p] at W
          refine xr_al0 dX12_sum_56 ?_
          refine xr_il1 dX12_sum_57 ?_
          refine xr_Vpi1 (hT _ ((0 - 43) :: sh) o1 (p1 + 1) d C1 (by omega) (by omega) hd hC1 (tp_s) W) kX12_154 (by omega) (Nat.le_of_ble_eq_true rfl) (Nat.zero_add _) (Nat.zero_add _) dX12_sum_58 (fun zo zh3 zq3 => ?_)
          rcases zq3 with ⟨sh3, ou3, p3, C3, l3, m3, hc3, bits3', e3, rel3, sc3, W⟩ | ⟨b, p', hb, bp', eb, W⟩
          rotate_left
          · skip
            refine xr_is4 dX12_sum_61 (by decide) rfl ?_
            refine xr_il3 dX12_sum_63 ?_
            refine xr_ifeq (tgt := 74) dX12_sum_64 (by decide) (fun zc64 => ?_) (fun zc64 => ?_)
            · skip
              exact absurd zc64 (by decide)
            · skip
              refine xr_il2 dX12_sum_67 ?_
              refine xr_il4 dX12_sum_68 ?_
              refine xr_iadd dX12_sum_70 ?_
              refine xr_goto (tgt := 78) dX12_sum_71 (by decide) ?_
              refine xr_is2 dX12_sum_78 (by decide) rfl ?_
              refine xr_goto (tgt := 6) dX12_sum_79 (by decide) ?_
              refine xr_al0 dX12_sum_6 ?_
              refine xr_Vpi0 (r_fine W) kX12_115 (by omega) (Nat.le_of_ble_eq_true rfl) (Nat.zero_add _) (Nat.zero_add _) dX12_sum_7 (fun zv7 zh1 zq1 => ?_)
              obtain ⟨rfl, W⟩ := zq1
              refine xr_ifeq (tgt := 82) dX12_sum_10 (by decide) (fun zc10 => ?_) (fun zc10 => ?_)
              · skip
                refine xr_il2 dX12_sum_82 ?_
                refine xr_iret dX12_sum_83 rfl ?_
                exact ⟨_, rfl, Or.inr ⟨b, p', hb, bp', by rw [hR]; exact eb, W⟩⟩
              · skip
                exact absurd (bI_f (nI_m1 (by omega))) zc10
          have bits3 : ∀ j, j < d + 1 → C3.testBit j = C.testBit j := fun j hj => (bits3' j hj).trans (hbits j hj)
          refine xr_is4 dX12_sum_61 (by decide) rfl ?_
          refine xr_il3 dX12_sum_63 ?_
          refine xr_ifeq (tgt := 74) dX12_sum_64 (by decide) (fun zc64 => ?_) (fun zc64 => ?_)
          · skip
            exact absurd zc64 (by decide)
          · skip
            refine xr_il2 dX12_sum_67 ?_
            refine xr_il4 dX12_sum_68 ?_
            refine xr_iadd dX12_sum_70 ?_
            refine xr_goto (tgt := 78) dX12_sum_71 (by decide) ?_
            refine xr_is2 dX12_sum_78 (by decide) rfl ?_
            refine xr_goto (tgt := 6) dX12_sum_79 (by decide) ?_
            have ej : jo 43 a zo = a + zo := rfl
            have rj := Rel_join' (n := 2) (y := 43) e1 rel3 (by intro k h1 h2; rcases (show k = 1 ∨ k = 2 by omega) with rfl | rfl <;> decide) (by decide) (st_join _ (by decide) _ _ _)
            rw [ej] at rj
            exact ih (by omega) m3 hc3 bits3 (hR.trans e3) rj sc3 W (by omega)
      · skip
        refine xr_al0 dX12_sum_22 ?_
        refine xr_Vpi0 (r_here Z (by omega) W) kX12_119 (by omega) (Nat.le_of_ble_eq_true rfl) (Nat.zero_add _) (Nat.zero_add _) dX12_sum_23 (fun zv23 zh3 zq3 => ?_)
        obtain ⟨rfl, W⟩ := zq3
        refine xr_bipush (v := 45) dX12_sum_26 (by decide) ?_
        refine xr_icmpne (tgt := 82) dX12_sum_28 (by decide) (fun zc28 => ?_) (fun zc28 => ?_)
        · skip
          refine xr_il2 dX12_sum_82 ?_
          refine xr_iret dX12_sum_83 rfl ?_
          exact ⟨_, rfl, Or.inl ⟨sh1, ou1, p1, C1, hp1, hpl, hC1, hbits, hR, ⟨o1, e1, f1⟩, ⟨hsc, zc19, zc28⟩, W⟩⟩
        · skip
          have gy : hrV (u q) p1 tn 40 = 45 := zc28
          have pl : p1 < min tn 40 := gs_lt (by rw [gy]; decide)
          have hstep := stp_join h80 T0 (sh1 := sh1) (ou1 := ou1) (sh := sh) (o1 := o1) (d := d) (C := C1) gy (by decide) (k := 2) (by decide) (by decide) ((f1 2 (by decide) (by decide)).trans (bbk_tp htp o1))
          have hR := hR.trans hstep
          have tp_s : tp ((0 - 45) :: sh) 3 := fun y' t' e' => by
            cases e'
            decide
          refine xr_al0 dX12_sum_31 ?_
          refine xr_Vpi0 (r_here Z (by omega) W) kX12_119 (by omega) (Nat.le_of_ble_eq_true rfl) (Nat.zero_add _) (Nat.zero_add _) dX12_sum_32 (fun zv32 zh1 zq1 => ?_)
          obtain ⟨rfl, W⟩ := zq1
          refine xr_bipush (v := 43) dX12_sum_35 (by decide) ?_
          refine xr_icmpne (tgt := 44) dX12_sum_37 (by decide) (fun zc37 => ?_) (fun zc37 => ?_)
          · skip
            refine xr_ic0 dX12_sum_44 ?_
            refine xr_is3 dX12_sum_45 (by decide) rfl ?_
            refine xr_al0 dX12_sum_46 ?_
            refine xr_dup dX12_sum_47 rfl ?_
            refine xr_get W.o fX12_105 rfl dX12_sum_48 ?_
            refine xr_eqi (y := nI p1) rfl ?_
            refine xr_ic1 dX12_sum_51 ?_
            refine xr_iadd dX12_sum_52 ?_
            refine xr_eqi (y := nI (p1 + 1)) (nI_1 p1) ?_
            refine xr_put W.o fX12_105 (Nat.le_of_ble_eq_true rfl) rfl rfl dX12_sum_53 ?_
            refine xT.nm (fun zh2 zg2 => ?_)
            have W := W.f9 zg2
            rw [rdm_p] at W
            refine xr_al0 dX12_sum_56 ?_
            refine xr_il1 dX12_sum_57 ?_
            refine xr_Vpi1 (hT _ ((0 - 45) :: sh) o1 (p1 + 1) d C1 (by omega) (by omega) hd hC1 (tp_s) W) kX12_154 (by omega) (Nat.le_of_ble_eq_true rfl) (Nat.zero_add _) (Nat.zero_add _) dX12_sum_58 (fun zo zh3 zq3 => ?_)
            rcases zq3 with ⟨sh3, ou3, p3, C3, l3, m3, hc3, bits3', e3, rel3, sc3, W⟩ | ⟨b, p', hb, bp', eb, W⟩
            rotate_left
            · skip
              refine xr_is4 dX12_sum_61 (by decide) rfl ?_
              refine xr_il3 dX12_sum_63 ?_
              refine xr_ifeq (tgt := 74) dX12_sum_64 (by decide) (fun zc64 => ?_) (fun zc64 => ?_)
              · skip
                refine xr_il2 dX12_sum_74 ?_
                refine xr_il4 dX12_sum_75 ?_
                refine xr_isub dX12_sum_77 ?_
                refine xr_is2 dX12_sum_78 (by decide) rfl ?_
                refine xr_goto (tgt := 6) dX12_sum_79 (by decide) ?_
                refine xr_al0 dX12_sum_6 ?_
                refine xr_Vpi0 (r_fine W) kX12_115 (by omega) (Nat.le_of_ble_eq_true rfl) (Nat.zero_add _) (Nat.zero_add _) dX12_sum_7 (fun zv7 zh1 zq1 => ?_)
                obtain ⟨rfl, W⟩ := zq1
                refine xr_ifeq (tgt := 82) dX12_sum_10 (by decide) (fun zc10 => ?_) (fun zc10 => ?_)
                · skip
                  refine xr_il2 dX12_sum_82 ?_
                  refine xr_iret dX12_sum_83 rfl ?_
                  exact ⟨_, rfl, Or.inr ⟨b, p', hb, bp', by rw [hR]; exact eb, W⟩⟩
                · skip
                  exact absurd (bI_f (nI_m1 (by omega))) zc10
              · skip
                exact absurd rfl zc64
            have bits3 : ∀ j, j < d + 1 → C3.testBit j = C.testBit j := fun j hj => (bits3' j hj).trans (hbits j hj)
            refine xr_is4 dX12_sum_61 (by decide) rfl ?_
            refine xr_il3 dX12_sum_63 ?_
            refine xr_ifeq (tgt := 74) dX12_sum_64 (by decide) (fun zc64 => ?_) (fun zc64 => ?_)
            · skip
              refine xr_il2 dX12_sum_74 ?_
              refine xr_il4 dX12_sum_75 ?_
              refine xr_isub dX12_sum_77 ?_
              refine xr_is2 dX12_sum_78 (by decide) rfl ?_
              refine xr_goto (tgt := 6) dX12_sum_79 (by decide) ?_
              have ej : jo 45 a zo = a - zo := rfl
              have rj := Rel_join' (n := 2) (y := 45) e1 rel3 (by intro k h1 h2; rcases (show k = 1 ∨ k = 2 by omega) with rfl | rfl <;> decide) (by decide) (st_join _ (by decide) _ _ _)
              rw [ej] at rj
              exact ih (by omega) m3 hc3 bits3 (hR.trans e3) rj sc3 W (by omega)
            · skip
              exact absurd rfl zc64
          · skip
            exact absurd (zc28.symm.trans zc37) (by decide)
set_option maxRecDepth 20000 in
theorem r_sum {K : xK} {B : Nat} {l : Launch} {h0 : xH} {Y : Nat} {m : Nat → Int32} {ru ot q tn : Nat} {u : Nat → Nat → Int32} {v : Nat → Int64} {tf : xs} (Z : rQ m q tn 40) (T0 : ∀ j, j < tn → u q j &&& 255 = tf j ∧ byt (u q j)) {N F0 : Nat} (hT : rMet K B l h0 Y m ru ot q tn u v tf mX12_product 3 (fun d => d + 1) (fun sh _ _ => tp sh 3) (scP (u q) tn) N F0) : rMet K B l h0 Y m ru ot q tn u v tf mX12_sum 2 (fun d => d + 1) (fun sh _ _ => tp sh 2) (scS (u q) tn) N (F0 + 1) := by
  intro h sh ou p d C hp hN hd hC htp W
  refine ⟨⟨_, _, _, _, W.o, rfl⟩, qX12_sum, ?_⟩
  refine xS.intro RX12 false ⟨rfl, rfl, by decide, by decide, Nat.le_of_ble_eq_true rfl⟩ (ls := [some (.ref Y), some (.int (nI d)), none, none, none]) rfl ?_
  refine xr_al0 dX12_sum_0 ?_
  refine xr_il1 dX12_sum_1 ?_
  refine xr_Vpi1 (hT _ sh ou p d C hp hN hd hC (tp_le htp) W) kX12_154 (by omega) (Nat.le_of_ble_eq_true rfl) (Nat.zero_add _) (Nat.zero_add _) dX12_sum_2 (fun za zh1 zq1 => ?_)
  rcases zq1 with ⟨sh1, ou1, p1, C1, l1, m1, hc1, bits1, e1, rel1, sc1, W⟩ | ⟨b, p', hb, bp', eb, W⟩
  rotate_left
  · skip
    refine xr_is2 dX12_sum_5 (by decide) rfl ?_
    refine xr_al0 dX12_sum_6 ?_
    refine xr_Vpi0 (r_fine W) kX12_115 (by omega) (Nat.le_of_ble_eq_true rfl) (Nat.zero_add _) (Nat.zero_add _) dX12_sum_7 (fun zv7 zh1 zq1 => ?_)
    obtain ⟨rfl, W⟩ := zq1
    refine xr_ifeq (tgt := 82) dX12_sum_10 (by decide) (fun zc10 => ?_) (fun zc10 => ?_)
    · skip
      refine xr_il2 dX12_sum_82 ?_
      refine xr_iret dX12_sum_83 rfl ?_
      exact ⟨_, rfl, Or.inr ⟨b, p', hb, bp', eb, W⟩⟩
    · skip
      exact absurd (bI_f (nI_m1 (by omega))) zc10
  refine xr_is2 dX12_sum_5 (by decide) rfl ?_
  exact lp_sum Z T0 hT hd hC hN htp (min tn 40 - p1) l1 m1 hc1 bits1 e1 (rel1.le (by decide)) sc1 W (by omega)
