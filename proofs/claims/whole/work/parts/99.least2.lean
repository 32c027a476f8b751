/-! The model: the least of a group, its inner loop (written by wip/whole/mod53.py) -/
theorem xix_x {x : Nat} (hx : x < 1024) (y : Int32) : xix (nI x &&& y) 1024 (nI x &&& y).toNatClampNeg := by
  have e : nI x &&& y = (nI x &&& y) &&& 1023 := by
    rw [Int32.and_assoc, Int32.and_comm y, ← Int32.and_assoc, a1023 x hx]
  rw [e]
  exact xix_1023 _
set_option maxRecDepth 20000 in
theorem lp_loI {K : xK} {B : Nat} {l : Launch} {h0 : xH} {Y : Nat} {m : Nat → Int32} {rd : Value} {ru ot : Nat} {u : Nat → Nat → Int32} {v : Nat → Int64} {Q : Option Value → xH → Prop} {x a : Nat} {fr : Int32} (hx : x < 1024) (ha : a < 32) : ∀ (r b : Nat) {z : Int32 × Int32 × Int32} {h : xH} {x6 x7 : Option Value} (W : xMw K h0 h Y (fz m z) rd ru ot u v), b + r = 32 → (∀ {h : xH} {x5 x6 x7 : Option Value}, xMw K h0 h Y (fz m (loI (u 16) (u 14) (u 1 13) fr (nI x) a r b z)) rd ru ot u v → xT K B l 1 RX12 false cX12_leastOf 8 (some .int) 0 0 0 0 (Q) 176 [some (.ref Y), some (.int (nI x)), some (.int fr), some (.int (loI (u 16) (u 14) (u 1 13) fr (nI x) a r b z).1), some (.int (nI a)), x5, x6, x7] [] h) → xT K B l 1 RX12 false cX12_leastOf 8 (some .int) 0 0 0 0 (Q) 39 [some (.ref Y), some (.int (nI x)), some (.int fr), some (.int z.1), some (.int (nI a)), some (.int (nI b)), x6, x7] [] h := by
  intro r
  induction r with
  | zero =>
    intro b z h x6 x7 W hk hc
    refine xr_il5 dX12_leastOf_39 ?_
    refine xr_bipush (v := 32) dX12_leastOf_41 (by decide) ?_
    refine xr_icmpge (tgt := 176) dX12_leastOf_43 (by decide) (fun zc43 => ?_) (fun zc43 => ?_)
    · skip
      exact hc W
    · skip
      exact absurd (nI_le (a := 32) (b := b) (by omega) (by omega)) zc43
  | succ r ih =>
    intro b z h x6 x7 W hk hc
    refine xr_il5 dX12_leastOf_39 ?_
    refine xr_bipush (v := 32) dX12_leastOf_41 (by decide) ?_
    refine xr_icmpge (tgt := 176) dX12_leastOf_43 (by decide) (fun zc43 => ?_) (fun zc43 => ?_)
    · skip
      exact absurd zc43 (nI_ge (b := 32) (a := b) (by omega) (by decide))
    · skip
      refine xr_il5 dX12_leastOf_46 ?_
      refine xr_il1 dX12_leastOf_48 ?_
      refine xr_ic5 dX12_leastOf_49 ?_
      refine xr_ishr dX12_leastOf_50 ?_
      refine xr_icm1 dX12_leastOf_51 ?_
      refine xr_ixor dX12_leastOf_52 ?_
      refine xr_iand dX12_leastOf_53 ?_
      refine xr_ifne (tgt := 170) dX12_leastOf_54 (by decide) (fun zc54 => ?_) (fun zc54 => ?_)
      · skip
        refine xr_inc5 dX12_leastOf_170 (nI_1 b) (by decide) rfl ?_
        refine xr_goto (tgt := 39) dX12_leastOf_173 (by decide) ?_
        have e := loI_n (r := r) (show ¬ loC (u 16) (u 14) (u 1 13) fr (nI x) a b z from fun q => zc54 q.1)
        rw [e] at hc
        exact ih (b + 1) W (by omega) hc
      · skip
        refine xr_al0 dX12_leastOf_57 ?_
        refine xr_get W.o fX12_57 rfl dX12_leastOf_58 ?_
        refine xr_bipush (v := 32) dX12_leastOf_61 (by decide) ?_
        refine xr_il5 dX12_leastOf_63 ?_
        refine xr_iadd dX12_leastOf_65 ?_
        refine xr_eqi (y := nI (32 + b)) (nI_add 32 b) ?_
        refine xr_iald W.a16 (xix_nI (n := 64) (j := 32 + b) (by omega) (by decide)) dX12_leastOf_66 ?_
        refine xr_iflt (tgt := 170) dX12_leastOf_67 (by decide) (fun zc67 => ?_) (fun zc67 => ?_)
        · skip
          refine xr_inc5 dX12_leastOf_170 (nI_1 b) (by decide) rfl ?_
          refine xr_goto (tgt := 39) dX12_leastOf_173 (by decide) ?_
          have e := loI_n (r := r) (show ¬ loC (u 16) (u 14) (u 1 13) fr (nI x) a b z from fun q => q.2.1 zc67)
          rw [e] at hc
          exact ih (b + 1) W (by omega) hc
        · skip
          refine xr_il4 dX12_leastOf_70 ?_
          refine xr_il5 dX12_leastOf_72 ?_
          refine xr_iadd dX12_leastOf_74 ?_
          refine xr_ifne (tgt := 81) dX12_leastOf_75 (by decide) (fun zc75 => ?_) (fun zc75 => ?_)
          · skip
            refine xr_ic0 dX12_leastOf_81 ?_
            refine xr_al0 dX12_leastOf_82 ?_
            refine xr_get W.o fX12_57 rfl dX12_leastOf_83 ?_
            refine xr_bipush (v := 32) dX12_leastOf_86 (by decide) ?_
            refine xr_il5 dX12_leastOf_88 ?_
            refine xr_iadd dX12_leastOf_90 ?_
            refine xr_eqi (y := nI (32 + b)) (nI_add 32 b) ?_
            refine xr_iald W.a16 (xix_nI (n := 64) (j := 32 + b) (by omega) (by decide)) dX12_leastOf_91 ?_
            refine xr_al0 dX12_leastOf_92 ?_
            refine xr_get W.o fX12_9 rfl dX12_leastOf_93 ?_
            refine xr_bipush (v := 13) dX12_leastOf_96 (by decide) ?_
            refine xr_iald W.a1 (xix_lit (j := 13) (by decide)) dX12_leastOf_98 ?_
            refine xr_iadd dX12_leastOf_99 ?_
            refine xr_al0 dX12_leastOf_100 ?_
            refine xr_get W.o fX12_57 rfl dX12_leastOf_101 ?_
            refine xr_il4 dX12_leastOf_104 ?_
            refine xr_iald W.a16 (xix_nI (n := 64) (j := a) (by omega) (by decide)) dX12_leastOf_106 ?_
            refine xr_isub dX12_leastOf_107 ?_
            refine xr_max kmX12_201 ms_max wz_J9 mc_max (by decide) (Nat.le_of_ble_eq_true rfl) dX12_leastOf_108 ?_
            refine xr_eqi (y := loW (u 16) (u 1 13) a b) rfl ?_
            refine xr_is6 dX12_leastOf_111 (by decide) rfl ?_
            refine xr_il2 dX12_leastOf_113 ?_
            refine xr_ifeq (tgt := 125) dX12_leastOf_114 (by decide) (fun zc114 => ?_) (fun zc114 => ?_)
            · skip
              refine xr_il6 dX12_leastOf_125 ?_
              refine xr_al0 dX12_leastOf_127 ?_
              refine xr_get W.o fX12_51 rfl dX12_leastOf_128 ?_
              refine xr_il1 dX12_leastOf_131 ?_
              refine xr_il4 dX12_leastOf_132 ?_
              refine xr_il5 dX12_leastOf_134 ?_
              refine xr_ic5 dX12_leastOf_136 ?_
              refine xr_ishl dX12_leastOf_137 ?_
              refine xr_ior dX12_leastOf_138 ?_
              refine xr_icm1 dX12_leastOf_139 ?_
              refine xr_ixor dX12_leastOf_140 ?_
              refine xr_iand dX12_leastOf_141 ?_
              refine xr_iald W.a14 (xix_x hx _) dX12_leastOf_142 ?_
              refine xr_iadd dX12_leastOf_143 ?_
              refine xr_is7 dX12_leastOf_144 (by decide) rfl ?_
              refine xr_il7 dX12_leastOf_146 ?_
              refine xr_il3 dX12_leastOf_148 ?_
              refine xr_icmplt (tgt := 155) dX12_leastOf_149 (by decide) (fun zc149 => ?_) (fun zc149 => ?_)
              · skip
                refine xr_il7 dX12_leastOf_155 ?_
                refine xr_is3 dX12_leastOf_157 (by decide) rfl ?_
                refine xr_al0 dX12_leastOf_158 ?_
                refine xr_il4 dX12_leastOf_159 ?_
                refine xr_put W.o fX12_301 (Nat.le_of_ble_eq_true rfl) rfl rfl dX12_leastOf_161 ?_
                refine xT.nm (fun zh1 zg1 => ?_)
                have W := W.f27 zg1
                refine xr_al0 dX12_leastOf_164 ?_
                refine xr_il5 dX12_leastOf_165 ?_
                refine xr_put W.o fX12_304 (Nat.le_of_ble_eq_true rfl) rfl rfl dX12_leastOf_167 ?_
                refine xT.nm (fun zh2 zg2 => ?_)
                have W := W.f28 zg2
                refine xr_inc5 dX12_leastOf_170 (nI_1 b) (by decide) rfl ?_
                refine xr_goto (tgt := 39) dX12_leastOf_173 (by decide) ?_
                rw [fz_up m z (loW (u 16) (u 1 13) a b + u 14 (loX (nI x) a b).toNatClampNeg)] at W
                have e := loI_y (r := r) (show loC (u 16) (u 14) (u 1 13) fr (nI x) a b z from ⟨zc54, zc67, zc75, Or.inl zc114, zc149⟩)
                rw [e] at hc
                exact ih (b + 1) W (by omega) hc
              · skip
                refine xr_goto (tgt := 170) dX12_leastOf_152 (by decide) ?_
                refine xr_inc5 dX12_leastOf_170 (nI_1 b) (by decide) rfl ?_
                refine xr_goto (tgt := 39) dX12_leastOf_173 (by decide) ?_
                have e := loI_n (r := r) (show ¬ loC (u 16) (u 14) (u 1 13) fr (nI x) a b z from fun q => zc149 q.2.2.2.2)
                rw [e] at hc
                exact ih (b + 1) W (by omega) hc
            · skip
              refine xr_il6 dX12_leastOf_117 ?_
              refine xr_ifle (tgt := 125) dX12_leastOf_119 (by decide) (fun zc119 => ?_) (fun zc119 => ?_)
              · skip
                refine xr_il6 dX12_leastOf_125 ?_
                refine xr_al0 dX12_leastOf_127 ?_
                refine xr_get W.o fX12_51 rfl dX12_leastOf_128 ?_
                refine xr_il1 dX12_leastOf_131 ?_
                refine xr_il4 dX12_leastOf_132 ?_
                refine xr_il5 dX12_leastOf_134 ?_
                refine xr_ic5 dX12_leastOf_136 ?_
                refine xr_ishl dX12_leastOf_137 ?_
                refine xr_ior dX12_leastOf_138 ?_
                refine xr_icm1 dX12_leastOf_139 ?_
                refine xr_ixor dX12_leastOf_140 ?_
                refine xr_iand dX12_leastOf_141 ?_
                refine xr_iald W.a14 (xix_x hx _) dX12_leastOf_142 ?_
                refine xr_iadd dX12_leastOf_143 ?_
                refine xr_is7 dX12_leastOf_144 (by decide) rfl ?_
                refine xr_il7 dX12_leastOf_146 ?_
                refine xr_il3 dX12_leastOf_148 ?_
                refine xr_icmplt (tgt := 155) dX12_leastOf_149 (by decide) (fun zc149 => ?_) (fun zc149 => ?_)
                · skip
                  refine xr_il7 dX12_leastOf_155 ?_
                  refine xr_is3 dX12_leastOf_157 (by decide) rfl ?_
                  refine xr_al0 dX12_leastOf_158 ?_
                  refine xr_il4 dX12_leastOf_159 ?_
                  refine xr_put W.o fX12_301 (Nat.le_of_ble_eq_true rfl) rfl rfl dX12_leastOf_161 ?_
                  refine xT.nm (fun zh1 zg1 => ?_)
                  have W := W.f27 zg1
                  refine xr_al0 dX12_leastOf_164 ?_
                  refine xr_il5 dX12_leastOf_165 ?_
                  refine xr_put W.o fX12_304 (Nat.le_of_ble_eq_true rfl) rfl rfl dX12_leastOf_167 ?_
                  refine xT.nm (fun zh2 zg2 => ?_)
                  have W := W.f28 zg2
                  refine xr_inc5 dX12_leastOf_170 (nI_1 b) (by decide) rfl ?_
                  refine xr_goto (tgt := 39) dX12_leastOf_173 (by decide) ?_
                  rw [fz_up m z (loW (u 16) (u 1 13) a b + u 14 (loX (nI x) a b).toNatClampNeg)] at W
                  have e := loI_y (r := r) (show loC (u 16) (u 14) (u 1 13) fr (nI x) a b z from ⟨zc54, zc67, zc75, Or.inr zc119, zc149⟩)
                  rw [e] at hc
                  exact ih (b + 1) W (by omega) hc
                · skip
                  refine xr_goto (tgt := 170) dX12_leastOf_152 (by decide) ?_
                  refine xr_inc5 dX12_leastOf_170 (nI_1 b) (by decide) rfl ?_
                  refine xr_goto (tgt := 39) dX12_leastOf_173 (by decide) ?_
                  have e := loI_n (r := r) (show ¬ loC (u 16) (u 14) (u 1 13) fr (nI x) a b z from fun q => zc149 q.2.2.2.2)
                  rw [e] at hc
                  exact ih (b + 1) W (by omega) hc
              · skip
                refine xr_goto (tgt := 170) dX12_leastOf_122 (by decide) ?_
                refine xr_inc5 dX12_leastOf_170 (nI_1 b) (by decide) rfl ?_
                refine xr_goto (tgt := 39) dX12_leastOf_173 (by decide) ?_
                have e := loI_n (r := r) (show ¬ loC (u 16) (u 14) (u 1 13) fr (nI x) a b z from fun q => q.2.2.2.1.elim zc114 zc119)
                rw [e] at hc
                exact ih (b + 1) W (by omega) hc
          · skip
            refine xr_goto (tgt := 170) dX12_leastOf_78 (by decide) ?_
            refine xr_inc5 dX12_leastOf_170 (nI_1 b) (by decide) rfl ?_
            refine xr_goto (tgt := 39) dX12_leastOf_173 (by decide) ?_
            have e := loI_n (r := r) (show ¬ loC (u 16) (u 14) (u 1 13) fr (nI x) a b z from fun q => q.2.2.1 zc75)
            rw [e] at hc
            exact ih (b + 1) W (by omega) hc
