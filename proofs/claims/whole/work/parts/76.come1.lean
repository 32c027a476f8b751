/-! The model in the class's words: parties (written by wip/whole/mod35.py) -/
theorem u4x {K : xK} {h0 h : xH} {Y : Nat} {m : Nat → Int32} {rd : Value} {ru ot : Nat} {u : Nat → Nat → Int32} {v : Nat → Int64} {t tm t' : xs} (W : xMw K h0 h Y m rd ru ot (uu (uu (uu u 4 t) 5 tm) 4 t') v) : xMw K h0 h Y m rd ru ot (uu (uu u 4 t') 5 tm) v := by
  rw [uu_cm (uu u 4 t) tm t' (by decide), uu_uu] at W
  exact W
theorem u5x {K : xK} {h0 h : xH} {Y : Nat} {m : Nat → Int32} {rd : Value} {ru ot : Nat} {u : Nat → Nat → Int32} {v : Nat → Int64} {t tm t' : xs} (W : xMw K h0 h Y m rd ru ot (uu (uu (uu u 4 t) 5 tm) 5 t') v) : xMw K h0 h Y m rd ru ot (uu (uu u 4 t) 5 t') v := by
  rw [uu_uu] at W
  exact W
def dgt (x : Int32) : Prop := ¬ x < 49 ∧ ¬ 57 < x
theorem dgt_in {x : Int32} : (¬ mIn x (nI 49) (nI 49 + nI 9 - 1) = 0) ↔ dgt x := by
  have e : nI 49 + nI 9 - 1 = 57 := by decide
  rw [e]
  exact ⟨mIn_y, fun h q => (mIn_0.mp q).elim h.1 h.2⟩
theorem nI_m1 {p : Nat} (h : p < 2 ^ 31) : ¬ nI p = -1 := fun q => absurd (by rw [q]; decide : nI p < 0) (nI_pos h)
set_option maxRecDepth 20000 in
theorem r_side {K : xK} {B : Nat} {l : Launch} {h0 h : xH} {Y : Nat} {m : Nat → Int32} {ru ot L T p : Nat} {u : Nat → Nat → Int32} {v : Nat → Int64} {t tm : xs} (Z : rQ m 2 L T) (bp : p ≤ 80) (W : xMw K h0 h Y (rdm m p (-1)) (.ref (Y + 2)) ru ot (uu (uu u 4 t) 5 tm) v) (hby : ∀ j, j < L → byt (u 2 j)) {σ : xs} (R : rr σ (u 1)) (ok : hOk σ) {s c : Nat} (hs : s < 2) (hc : tm s = nI c) (c5 : ln σ s + c ≤ 5) : xV K B l 3 mX12_readSide 0 0 (Y) [.int (nI s)] h (xPv (fun g => ((ln σ s + c = 5 ∨ ¬ dgt (hrV (u 2) p L T)) ∧ xMw K h0 g Y (rdm m p (nI p)) (.ref (Y + 2)) ru ot (uu (uu u 4 t) 5 tm) v) ∨ (¬ ln σ s + c = 5 ∧ dgt (hrV (u 2) p L T) ∧ xMw K h0 g Y (rdm m (p + 1) (-1)) (.ref (Y + 2)) ru ot (uu (uu u 4 (upd t (5 * s + c) (hrV (u 2) p L T - 49 + 1))) 5 (upd tm s (nI (c + 1)))) v))) := by
  refine ⟨⟨_, _, _, _, W.o, rfl⟩, qX12_readSide, ?_⟩
  refine xS.intro RX12 false ⟨rfl, rfl, by decide, by decide, Nat.le_of_ble_eq_true rfl⟩ (ls := [some (.ref Y), some (.int (nI s)), none]) rfl ?_
  refine xr_al0 dX12_readSide_0 ?_
  refine xr_get W.o fX12_9 rfl dX12_readSide_1 ?_
  refine xr_bipush (v := 10) dX12_readSide_4 (by decide) ?_
  refine xr_il1 dX12_readSide_6 ?_
  refine xr_iadd dX12_readSide_7 ?_
  refine xr_eqi (y := nI (10 + s)) (nI_add 10 s) ?_
  refine xr_iald W.a1 (xix_nI (n := 19) (j := 10 + s) (by omega) (by decide)) dX12_readSide_8 ?_
  refine xr_eqi (y := nI (ln σ s)) ((R.1 _ (by omega) (by omega)).trans (ok.1 s hs).1) ?_
  refine xr_al0 dX12_readSide_9 ?_
  refine xr_get W.o fX12_24 rfl dX12_readSide_10 ?_
  refine xr_il1 dX12_readSide_13 ?_
  refine xr_iald W.a5 (xix_nI (n := 2) (j := s) (by omega) (by decide)) dX12_readSide_14 ?_
  refine xr_eqi (y := nI c) hc ?_
  refine xr_iadd dX12_readSide_15 ?_
  refine xr_eqi (y := nI (ln σ s + c)) (nI_add _ _) ?_
  refine xr_ic5 dX12_readSide_16 ?_
  refine xr_icmpne (tgt := 29) dX12_readSide_17 (by decide) (fun zc17 => ?_) (fun zc17 => ?_)
  · skip
    have n5 : ¬ ln σ s + c = 5 := fun y => zc17 (by rw [y]; rfl)
    refine xr_al0 dX12_readSide_29 ?_
    refine xr_bipush (v := 49) dX12_readSide_30 (by decide) ?_
    refine xr_bipush (v := 9) dX12_readSide_32 (by decide) ?_
    refine xr_Vpi2 (r_one Z bp W hby (a := 49) (b := 9) (by decide) (by decide)) kX12_131 (by decide) (Nat.le_of_ble_eq_true rfl) (Nat.zero_add _) (Nat.zero_add _) dX12_readSide_34 (fun zv34 zh1 zq1 => ?_)
    rcases zq1 with ⟨y, -⟩ | ⟨-, y, rfl, W⟩ | ⟨-, y, rfl, W⟩
    · exact absurd rfl y
    · skip
      refine xr_ic1 dX12_readSide_37 ?_
      refine xr_iadd dX12_readSide_38 ?_
      refine xr_is2 dX12_readSide_39 (by decide) rfl ?_
      refine xr_al0 dX12_readSide_40 ?_
      refine xr_Vpi0 (r_fine W) kX12_115 (by decide) (Nat.le_of_ble_eq_true rfl) (Nat.zero_add _) (Nat.zero_add _) dX12_readSide_41 (fun zv41 zh1 zq1 => ?_)
      obtain ⟨rfl, W⟩ := zq1
      refine xr_ifne (tgt := 48) dX12_readSide_44 (by decide) (fun zc44 => ?_) (fun zc44 => ?_)
      · skip
        exact absurd (bI_f (nI_m1 (by omega))) zc44
      · skip
        refine xr_vret dX12_readSide_47 rfl ?_
        exact ⟨rfl, Or.inl ⟨Or.inr (fun y2 => y (dgt_in.mpr y2)), W⟩⟩
    refine xr_ic1 dX12_readSide_37 ?_
    refine xr_iadd dX12_readSide_38 ?_
    refine xr_is2 dX12_readSide_39 (by decide) rfl ?_
    refine xr_al0 dX12_readSide_40 ?_
    refine xr_Vpi0 (r_fine W) kX12_115 (by decide) (Nat.le_of_ble_eq_true rfl) (Nat.zero_add _) (Nat.zero_add _) dX12_readSide_41 (fun zv41 zh2 zq2 => ?_)
    obtain ⟨rfl, W⟩ := zq2
    refine xr_ifne (tgt := 48) dX12_readSide_44 (by decide) (fun zc44 => ?_) (fun zc44 => ?_)
    · skip
      refine xr_al0 dX12_readSide_48 ?_
      refine xr_get W.o fX12_21 rfl dX12_readSide_49 ?_
      refine xr_ic5 dX12_readSide_52 ?_
      refine xr_il1 dX12_readSide_53 ?_
      refine xr_imul dX12_readSide_54 ?_
      refine xr_eqi (y := nI (5 * s)) (pk_mul 5 s) ?_
      refine xr_al0 dX12_readSide_55 ?_
      refine xr_get W.o fX12_24 rfl dX12_readSide_56 ?_
      refine xr_il1 dX12_readSide_59 ?_
      refine xr_iald W.a5 (xix_nI (n := 2) (j := s) (by omega) (by decide)) dX12_readSide_60 ?_
      refine xr_eqi (y := nI c) hc ?_
      refine xr_iadd dX12_readSide_61 ?_
      refine xr_eqi (y := nI (5 * s + c)) (nI_add _ _) ?_
      refine xr_il2 dX12_readSide_62 ?_
      refine xr_iast W.a4 (xix_nI (n := 10) (j := 5 * s + c) (by omega) (by decide)) dX12_readSide_63 ?_
      refine xT.nm (fun zh3 zg3 => ?_)
      have W := u4x (W.p4 zg3)
      refine xr_al0 dX12_readSide_64 ?_
      refine xr_get W.o fX12_24 rfl dX12_readSide_65 ?_
      refine xr_il1 dX12_readSide_68 ?_
      refine xr_dup2 dX12_readSide_69 rfl rfl ?_
      refine xr_iald W.a5 (xix_nI (n := 2) (j := s) (by omega) (by decide)) dX12_readSide_70 ?_
      refine xr_eqi (y := nI c) hc ?_
      refine xr_ic1 dX12_readSide_71 ?_
      refine xr_iadd dX12_readSide_72 ?_
      refine xr_eqi (y := nI (c + 1)) (nI_1 c) ?_
      refine xr_iast W.a5 (xix_nI (n := 2) (j := s) (by omega) (by decide)) dX12_readSide_73 ?_
      refine xT.nm (fun zh4 zg4 => ?_)
      have W := u5x (W.p5 zg4)
      refine xr_vret dX12_readSide_74 rfl ?_
      exact ⟨rfl, Or.inr ⟨n5, dgt_in.mp y, W⟩⟩
    · skip
      exact absurd zc44 (by decide)
  · skip
    have n5 : ln σ s + c = 5 := (nI_eq (b := 5) (by omega) (by decide)).mp zc17
    refine xr_al0 dX12_readSide_20 ?_
    refine xr_al0 dX12_readSide_21 ?_
    refine xr_get W.o fX12_105 rfl dX12_readSide_22 ?_
    refine xr_eqi (y := nI p) rfl ?_
    refine xr_Vpv1 (r_fault W _) kX12_127 (by decide) (Nat.le_of_ble_eq_true rfl) (Nat.zero_add _) (Nat.zero_add _) dX12_readSide_25 (fun zh1 zq1 => ?_)
    have W := zq1
    refine xr_vret dX12_readSide_28 rfl ?_
    rw [if_pos rfl] at W
    exact ⟨rfl, Or.inl ⟨Or.inl n5, W⟩⟩
