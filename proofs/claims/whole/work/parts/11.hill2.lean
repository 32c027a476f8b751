def hCome (σ : xs) (s : Nat) (w : Int32) : xs := if ln σ s < 5 then upd (upd σ (10 + s) (nI (ln σ s + 1))) (5 * s + ln σ s) w else σ
theorem hOk_come {σ : xs} (ok : hOk σ) {s : Nat} (hs : s < 2) (w : Int32) : hOk (hCome σ s w) := by
  unfold hCome
  split
  · rename_i h
    exact hOk_up0 (hOk_upn ok hs (by omega)) (by omega) w
  · exact ok
theorem hCome_has {σ : xs} (ok : hOk σ) {s : Nat} (hs : s < 2) (h5 : ln σ s < 5) (w : Int32) : hWeigh (upd σ (10 + s) (nI (ln σ s + 1))) (nI s) (nI (ln σ s)) w = hCome σ s w := by
  unfold hWeigh hCome
  have hh : hHas (upd σ (10 + s) (nI (ln σ s + 1))) (nI s) (nI (ln σ s)) := by
    refine ⟨nI_pos (by omega), ?_, lt5' _ h5⟩
    rw [hWaits_s hs, pk_us]
    exact nI_ge (by omega) (by omega)
  rw [if_pos hh, if_pos h5, (xix_sk hs h5).2]
set_option maxRecDepth 20000 in
theorem s_letCome {K : xK} {B : Nat} {l : Launch} {h : xH} {a : Nat} {σ : xs} (H : xHill K h a σ) (ok : hOk σ) {s : Nat} (hs : s < 2) (w : Int32) : xV K B l 3 mX3_letCome 0 0 (a) [.int (nI s), .int w] h (xQi (bI (ln σ s < 5)) (xpH K h a (hCome σ s w))) := by
  obtain ⟨o0, o1, o2⟩ := id H
  unfold hO at o0; unfold hW at o1; unfold hN at o2
  refine ⟨⟨_, _, _, _, H.1, rfl⟩, qX3_letCome, ?_⟩
  refine xS.intro RX3 false ⟨rfl, rfl, by decide, by decide, Nat.le_of_ble_eq_true rfl⟩ (ls := [some (.ref a), some (.int (nI s)), some (.int w), none]) rfl ?_
  refine xr_al0 dX3_letCome_0 ?_
  refine xr_il1 dX3_letCome_1 ?_
  refine xr_Vi1 (s_waits H _) kX3_46 (by decide) (Nat.le_of_ble_eq_true rfl) (Nat.zero_add _) (Nat.zero_add _) dX3_letCome_2 ?_
  refine xr_eqi (y := nI (ln σ s)) ((hWaits_s hs).trans (ok.1 s hs).1) ?_
  refine xr_is3 dX3_letCome_5 (by decide) rfl ?_
  refine xr_il1 dX3_letCome_6 ?_
  refine xr_ifeq (tgt := 15) dX3_letCome_7 (by decide) (fun zc7 => ?_) (fun zc7 => ?_)
  · skip
    refine xr_il3 dX3_letCome_15 ?_
    refine xr_ic5 dX3_letCome_16 ?_
    refine xr_icmplt (tgt := 22) dX3_letCome_17 (by decide) (fun zc17 => ?_) (fun zc17 => ?_)
    · skip
      refine xr_al0 dX3_letCome_22 ?_
      refine xr_get o0 fX3_15 rfl dX3_letCome_23 ?_
      refine xr_il1 dX3_letCome_26 ?_
      refine xr_il3 dX3_letCome_27 ?_
      refine xr_ic1 dX3_letCome_28 ?_
      refine xr_iadd dX3_letCome_29 ?_
      refine xr_eqi (nI_1 _) ?_
      refine xr_iast o2 (xix_nI hs (by decide)) dX3_letCome_30 ?_
      refine xT.nm (fun zh1 zg1 => ?_)
      have o0 := xg_ne zg1 (by omega) o0
      have o1 := xg_ne zg1 (by omega) o1
      have o2 := xg_eq zg1
      have h5 : ln σ s < 5 := (nI_ltI (by have := (ok.1 s hs).2; omega) (by decide)).mp zc17
      rw [zg1]
      refine xT.equiv (hill_n H hs _) ?_
      have HN := xpH_at K h a (upd σ (10 + s) (nI (ln σ s + 1)))
      refine xr_al0 dX3_letCome_31 ?_
      refine xr_il1 dX3_letCome_32 ?_
      refine xr_il3 dX3_letCome_33 ?_
      refine xr_il2 dX3_letCome_34 ?_
      refine xr_Vv3 (s_weigh HN _ _ _) kX3_58 (by decide) (Nat.le_of_ble_eq_true rfl) (Nat.zero_add _) (Nat.zero_add _) dX3_letCome_35 ?_
      rw [xpH_pH, hCome_has ok hs h5]
      refine xr_ic1 dX3_letCome_38 ?_
      refine xr_zret dX3_letCome_39 rfl (by first | rfl | decide | assumption) ?_
      exact ⟨by rw [bI_t h5], rfl⟩
    · skip
      refine xr_ic0 dX3_letCome_20 ?_
      refine xr_zret dX3_letCome_21 rfl (by first | rfl | decide | assumption) ?_
      have h5 : ¬ ln σ s < 5 := fun q => zc17 (nI_lt q (by decide))
      exact ⟨by rw [bI_f h5], by unfold hCome; rw [if_neg h5, xpH_id H]⟩
  · skip
    refine xr_il1 dX3_letCome_10 ?_
    refine xr_ic1 dX3_letCome_11 ?_
    refine xr_icmpne (tgt := 20) dX3_letCome_12 (by decide) (fun zc12 => ?_) (fun zc12 => ?_)
    · skip
      exact absurd (side2 hs zc7) zc12
    · skip
      refine xr_il3 dX3_letCome_15 ?_
      refine xr_ic5 dX3_letCome_16 ?_
      refine xr_icmplt (tgt := 22) dX3_letCome_17 (by decide) (fun zc17 => ?_) (fun zc17 => ?_)
      · skip
        refine xr_al0 dX3_letCome_22 ?_
        refine xr_get o0 fX3_15 rfl dX3_letCome_23 ?_
        refine xr_il1 dX3_letCome_26 ?_
        refine xr_il3 dX3_letCome_27 ?_
        refine xr_ic1 dX3_letCome_28 ?_
        refine xr_iadd dX3_letCome_29 ?_
        refine xr_eqi (nI_1 _) ?_
        refine xr_iast o2 (xix_nI hs (by decide)) dX3_letCome_30 ?_
        refine xT.nm (fun zh1 zg1 => ?_)
        have o0 := xg_ne zg1 (by omega) o0
        have o1 := xg_ne zg1 (by omega) o1
        have o2 := xg_eq zg1
        have h5 : ln σ s < 5 := (nI_ltI (by have := (ok.1 s hs).2; omega) (by decide)).mp zc17
        rw [zg1]
        refine xT.equiv (hill_n H hs _) ?_
        have HN := xpH_at K h a (upd σ (10 + s) (nI (ln σ s + 1)))
        refine xr_al0 dX3_letCome_31 ?_
        refine xr_il1 dX3_letCome_32 ?_
        refine xr_il3 dX3_letCome_33 ?_
        refine xr_il2 dX3_letCome_34 ?_
        refine xr_Vv3 (s_weigh HN _ _ _) kX3_58 (by decide) (Nat.le_of_ble_eq_true rfl) (Nat.zero_add _) (Nat.zero_add _) dX3_letCome_35 ?_
        rw [xpH_pH, hCome_has ok hs h5]
        refine xr_ic1 dX3_letCome_38 ?_
        refine xr_zret dX3_letCome_39 rfl (by first | rfl | decide | assumption) ?_
        exact ⟨by rw [bI_t h5], rfl⟩
      · skip
        refine xr_ic0 dX3_letCome_20 ?_
        refine xr_zret dX3_letCome_21 rfl (by first | rfl | decide | assumption) ?_
        have h5 : ¬ ln σ s < 5 := fun q => zc17 (nI_lt q (by decide))
        exact ⟨by rw [bI_f h5], by unfold hCome; rw [if_neg h5, xpH_id H]⟩
def hSo (σ : xs) (side k what v : Int32) : Int32 := if what = 0 then bI (side = v) else if what = 1 then bI (¬ hWat σ side k < v) else if what = 2 then bI (k = v) else if what = 3 then bI (bI (¬ σ 12 ≤ k) = bI (v = 1)) else 0
theorem hSo_n (σ : xs) (side k what v : Int32) : narrow .boolean (.int (hSo σ side k what v)) = .int (hSo σ side k what v) := by
  unfold hSo
  split
  · exact bI_n _
  · split
    · exact bI_n _
    · split
      · exact bI_n _
      · split
        · exact bI_n _
        · rfl
set_option maxRecDepth 20000 in
theorem s_isSo {K : xK} {B : Nat} {l : Launch} {h : xH} {a : Nat} {σ : xs} (H : xHill K h a σ) (side k what v : Int32) (hw : what = 0 ∨ what = 1 ∨ what = 2 ∨ what = 3) : xV K B l 3 mX3_isSo 0 0 (a) [.int side, .int k, .int what, .int v] h (xQi (hSo σ side k what v) h) := by
  obtain ⟨o0, o1, o2⟩ := id H
  unfold hO at o0; unfold hW at o1; unfold hN at o2
  refine ⟨⟨_, _, _, _, H.1, rfl⟩, qX3_isSo, ?_⟩
  refine xS.intro RX3 false ⟨rfl, rfl, by decide, by decide, Nat.le_of_ble_eq_true rfl⟩ (ls := [some (.ref a), some (.int side), some (.int k), some (.int what), some (.int v)]) rfl ?_
  refine xr_il3 dX3_isSo_0 ?_
  rcases hw with rfl | rfl | rfl | rfl
  · skip
    refine xr_tabIn (tgt := 32) dX3_isSo_1 (by decide) (by decide) rfl (by decide) ?_
    refine xr_il1 dX3_isSo_32 ?_
    refine xr_il4 dX3_isSo_33 ?_
    refine xr_icmpne (tgt := 42) dX3_isSo_35 (by decide) (fun zc35 => ?_) (fun zc35 => ?_)
    · skip
      refine xr_ic0 dX3_isSo_42 ?_
      refine xr_zret dX3_isSo_43 rfl (by first | rfl | decide | assumption) ?_
      exact ⟨by show _ = some (Value.int (bI (side = v))); rw [bI_f zc35], rfl⟩
    · skip
      refine xr_ic1 dX3_isSo_38 ?_
      refine xr_goto (tgt := 43) dX3_isSo_39 (by decide) ?_
      refine xr_zret dX3_isSo_43 rfl (by first | rfl | decide | assumption) ?_
      exact ⟨by show _ = some (Value.int (bI (side = v))); rw [bI_t zc35], rfl⟩
  · skip
    refine xr_tabIn (tgt := 44) dX3_isSo_1 (by decide) (by decide) rfl (by decide) ?_
    refine xr_al0 dX3_isSo_44 ?_
    refine xr_il1 dX3_isSo_45 ?_
    refine xr_il2 dX3_isSo_46 ?_
    refine xr_Vi2 (s_weightAt H _ _) kX3_82 (by decide) (Nat.le_of_ble_eq_true rfl) (Nat.zero_add _) (Nat.zero_add _) dX3_isSo_47 ?_
    refine xr_il4 dX3_isSo_50 ?_
    refine xr_icmplt (tgt := 59) dX3_isSo_52 (by decide) (fun zc52 => ?_) (fun zc52 => ?_)
    · skip
      refine xr_ic0 dX3_isSo_59 ?_
      refine xr_zret dX3_isSo_60 rfl (by first | rfl | decide | assumption) ?_
      exact ⟨by show _ = some (Value.int (bI (¬ hWat σ side k < v))); rw [bI_f (not_not_intro zc52)], rfl⟩
    · skip
      refine xr_ic1 dX3_isSo_55 ?_
      refine xr_goto (tgt := 60) dX3_isSo_56 (by decide) ?_
      refine xr_zret dX3_isSo_60 rfl (by first | rfl | decide | assumption) ?_
      exact ⟨by show _ = some (Value.int (bI (¬ hWat σ side k < v))); rw [bI_t zc52], rfl⟩
  · skip
    refine xr_tabIn (tgt := 61) dX3_isSo_1 (by decide) (by decide) rfl (by decide) ?_
    refine xr_il2 dX3_isSo_61 ?_
    refine xr_il4 dX3_isSo_62 ?_
    refine xr_icmpne (tgt := 71) dX3_isSo_64 (by decide) (fun zc64 => ?_) (fun zc64 => ?_)
    · skip
      refine xr_ic0 dX3_isSo_71 ?_
      refine xr_zret dX3_isSo_72 rfl (by first | rfl | decide | assumption) ?_
      exact ⟨by show _ = some (Value.int (bI (k = v))); rw [bI_f zc64], rfl⟩
    · skip
      refine xr_ic1 dX3_isSo_67 ?_
      refine xr_goto (tgt := 72) dX3_isSo_68 (by decide) ?_
      refine xr_zret dX3_isSo_72 rfl (by first | rfl | decide | assumption) ?_
      exact ⟨by show _ = some (Value.int (bI (k = v))); rw [bI_t zc64], rfl⟩
  · skip
    refine xr_tabIn (tgt := 73) dX3_isSo_1 (by decide) (by decide) rfl (by decide) ?_
    refine xr_il2 dX3_isSo_73 ?_
    refine xr_al0 dX3_isSo_74 ?_
    refine xr_get o0 fX3_18 rfl dX3_isSo_75 ?_
    refine xr_icmpge (tgt := 85) dX3_isSo_78 (by decide) (fun zc78 => ?_) (fun zc78 => ?_)
    · skip
      refine xr_ic0 dX3_isSo_85 ?_
      refine xr_il4 dX3_isSo_86 ?_
      refine xr_ic1 dX3_isSo_88 ?_
      refine xr_icmpne (tgt := 96) dX3_isSo_89 (by decide) (fun zc89 => ?_) (fun zc89 => ?_)
      · skip
        refine xr_ic0 dX3_isSo_96 ?_
        refine xr_icmpne (tgt := 104) dX3_isSo_97 (by decide) (fun zc97 => ?_) (fun zc97 => ?_)
        · skip
          refine xr_ic0 dX3_isSo_104 ?_
          refine xr_zret dX3_isSo_105 rfl (by first | rfl | decide | assumption) ?_
          exact absurd rfl zc97
        · skip
          refine xr_ic1 dX3_isSo_100 ?_
          refine xr_goto (tgt := 105) dX3_isSo_101 (by decide) ?_
          refine xr_zret dX3_isSo_105 rfl (by first | rfl | decide | assumption) ?_
          exact ⟨by show _ = some (Value.int (bI (bI (¬ σ 12 ≤ k) = bI (v = 1)))); rw [(bI_f (not_not_intro zc78)), (bI_f zc89)]; rfl, rfl⟩
      · skip
        refine xr_ic1 dX3_isSo_92 ?_
        refine xr_goto (tgt := 97) dX3_isSo_93 (by decide) ?_
        refine xr_icmpne (tgt := 104) dX3_isSo_97 (by decide) (fun zc97 => ?_) (fun zc97 => ?_)
        · skip
          refine xr_ic0 dX3_isSo_104 ?_
          refine xr_zret dX3_isSo_105 rfl (by first | rfl | decide | assumption) ?_
          exact ⟨by show _ = some (Value.int (bI (bI (¬ σ 12 ≤ k) = bI (v = 1)))); rw [(bI_f (not_not_intro zc78)), (bI_t zc89)]; rfl, rfl⟩
        · skip
          refine xr_ic1 dX3_isSo_100 ?_
          refine xr_goto (tgt := 105) dX3_isSo_101 (by decide) ?_
          refine xr_zret dX3_isSo_105 rfl (by first | rfl | decide | assumption) ?_
          exact absurd zc97 (by decide)
    · skip
      refine xr_ic1 dX3_isSo_81 ?_
      refine xr_goto (tgt := 86) dX3_isSo_82 (by decide) ?_
      refine xr_il4 dX3_isSo_86 ?_
      refine xr_ic1 dX3_isSo_88 ?_
      refine xr_icmpne (tgt := 96) dX3_isSo_89 (by decide) (fun zc89 => ?_) (fun zc89 => ?_)
      · skip
        refine xr_ic0 dX3_isSo_96 ?_
        refine xr_icmpne (tgt := 104) dX3_isSo_97 (by decide) (fun zc97 => ?_) (fun zc97 => ?_)
        · skip
          refine xr_ic0 dX3_isSo_104 ?_
          refine xr_zret dX3_isSo_105 rfl (by first | rfl | decide | assumption) ?_
          exact ⟨by show _ = some (Value.int (bI (bI (¬ σ 12 ≤ k) = bI (v = 1)))); rw [(bI_t zc78), (bI_f zc89)]; rfl, rfl⟩
        · skip
          refine xr_ic1 dX3_isSo_100 ?_
          refine xr_goto (tgt := 105) dX3_isSo_101 (by decide) ?_
          refine xr_zret dX3_isSo_105 rfl (by first | rfl | decide | assumption) ?_
          exact absurd zc97 (by decide)
      · skip
        refine xr_ic1 dX3_isSo_92 ?_
        refine xr_goto (tgt := 97) dX3_isSo_93 (by decide) ?_
        refine xr_icmpne (tgt := 104) dX3_isSo_97 (by decide) (fun zc97 => ?_) (fun zc97 => ?_)
        · skip
          refine xr_ic0 dX3_isSo_104 ?_
          refine xr_zret dX3_isSo_105 rfl (by first | rfl | decide | assumption) ?_
          exact absurd rfl zc97
        · skip
          refine xr_ic1 dX3_isSo_100 ?_
          refine xr_goto (tgt := 105) dX3_isSo_101 (by decide) ?_
          refine xr_zret dX3_isSo_105 rfl (by first | rfl | decide | assumption) ?_
          exact ⟨by show _ = some (Value.int (bI (bI (¬ σ 12 ≤ k) = bI (v = 1)))); rw [(bI_t zc78), (bI_t zc89)]; rfl, rfl⟩
def saN (σ : xs) (what v : Int32) (s : Nat) (b : Int32) : Nat → Int32
  | 0 => b
  | k + 1 => if hSo σ (nI s) (nI k) what v = 0 then saN σ what v s b k else saN σ what v s b k ||| (1 : Int32) <<< ((nI s * 5 + nI k) &&& 31)
def hSuch (σ : xs) (what v : Int32) : Int32 := saN σ what v 1 (saN σ what v 0 0 (ln σ 0)) (ln σ 1)
set_option maxRecDepth 20000 in
theorem lp_suchAs {K : xK} {B : Nat} {l : Launch} {h : xH} {a : Nat} {σ : xs} (H : xHill K h a σ) (ok : hOk σ) {what v : Int32} (hw : what = 0 ∨ what = 1 ∨ what = 2 ∨ what = 3) {s : Nat} (hs : s < 2) (b : Int32) {Q : Option Value → xH → Prop} (kx : xT K B l 4 RX3 false cX3_suchAs 6 (some .int) 0 0 0 0 (Q) 56 [some (.ref a), some (.int what), some (.int v), some (.int (saN σ what v s b (ln σ s))), some (.int (nI s)), some (.int (nI (ln σ s)))] [] h) : ∀ (r k : Nat), k + r = ln σ s → xT K B l 4 RX3 false cX3_suchAs 6 (some .int) 0 0 0 0 (Q) 14 [some (.ref a), some (.int what), some (.int v), some (.int (saN σ what v s b k)), some (.int (nI s)), some (.int (nI k))] [] h := by
  have ok5 := (ok.1 s hs).2
  intro r
  induction r with
  | zero =>
    intro k hk
    have hk' : k = ln σ s := hk
    refine xr_il5 dX3_suchAs_14 ?_
    refine xr_al0 dX3_suchAs_16 ?_
    refine xr_il4 dX3_suchAs_17 ?_
    refine xr_Vi1 (s_waits H _) kX3_46 (by decide) (Nat.le_of_ble_eq_true rfl) (Nat.zero_add _) (Nat.zero_add _) dX3_suchAs_19 ?_
    refine xr_eqi (y := nI (ln σ s)) ((hWaits_s hs).trans (ok.1 s hs).1) ?_
    refine xr_icmpge (tgt := 56) dX3_suchAs_22 (by decide) (fun zc22 => ?_) (fun zc22 => ?_)
    · skip
      subst hk'
      exact kx
    · skip
      exact absurd (nI_le (by omega) (by omega)) zc22
  | succ r ih =>
    intro k hk
    refine xr_il5 dX3_suchAs_14 ?_
    refine xr_al0 dX3_suchAs_16 ?_
    refine xr_il4 dX3_suchAs_17 ?_
    refine xr_Vi1 (s_waits H _) kX3_46 (by decide) (Nat.le_of_ble_eq_true rfl) (Nat.zero_add _) (Nat.zero_add _) dX3_suchAs_19 ?_
    refine xr_eqi (y := nI (ln σ s)) ((hWaits_s hs).trans (ok.1 s hs).1) ?_
    refine xr_icmpge (tgt := 56) dX3_suchAs_22 (by decide) (fun zc22 => ?_) (fun zc22 => ?_)
    · skip
      exact absurd zc22 (nI_ge (by omega) (by omega))
    · skip
      refine xr_al0 dX3_suchAs_25 ?_
      refine xr_il4 dX3_suchAs_26 ?_
      refine xr_il5 dX3_suchAs_28 ?_
      refine xr_il1 dX3_suchAs_30 ?_
      refine xr_il2 dX3_suchAs_31 ?_
      refine xr_Vi4 (s_isSo H _ _ _ _ hw) kX3_112 (by decide) (Nat.le_of_ble_eq_true rfl) (Nat.zero_add _) (Nat.zero_add _) dX3_suchAs_32 ?_
      refine xr_ifeq (tgt := 50) dX3_suchAs_35 (by decide) (fun zc35 => ?_) (fun zc35 => ?_)
      · skip
        refine xr_inc5 dX3_suchAs_50 (nI_inc k) (by decide) rfl ?_
        refine xr_goto (tgt := 14) dX3_suchAs_53 (by decide) ?_
        have hi := ih (k + 1) (by omega)
        unfold saN at hi
        rw [if_pos zc35] at hi
        exact hi
      · skip
        refine xr_il3 dX3_suchAs_38 ?_
        refine xr_ic1 dX3_suchAs_39 ?_
        refine xr_il4 dX3_suchAs_40 ?_
        refine xr_ic5 dX3_suchAs_42 ?_
        refine xr_imul dX3_suchAs_43 ?_
        refine xr_il5 dX3_suchAs_44 ?_
        refine xr_iadd dX3_suchAs_46 ?_
        refine xr_ishl dX3_suchAs_47 ?_
        refine xr_ior dX3_suchAs_48 ?_
        refine xr_is3 dX3_suchAs_49 (by decide) rfl ?_
        refine xr_inc5 dX3_suchAs_50 (nI_inc k) (by decide) rfl ?_
        refine xr_goto (tgt := 14) dX3_suchAs_53 (by decide) ?_
        have hi := ih (k + 1) (by omega)
        unfold saN at hi
        rw [if_neg zc35] at hi
        exact hi
set_option maxRecDepth 20000 in
theorem s_suchAs {K : xK} {B : Nat} {l : Launch} {h : xH} {a : Nat} {σ : xs} (H : xHill K h a σ) (ok : hOk σ) {what v : Int32} (hw : what = 0 ∨ what = 1 ∨ what = 2 ∨ what = 3) : xV K B l 4 mX3_suchAs 0 0 (a) [.int what, .int v] h (xQi (hSuch σ what v) h) := by
  obtain ⟨o0, o1, o2⟩ := id H
  unfold hO at o0; unfold hW at o1; unfold hN at o2
  refine ⟨⟨_, _, _, _, H.1, rfl⟩, qX3_suchAs, ?_⟩
  refine xS.intro RX3 false ⟨rfl, rfl, by decide, by decide, Nat.le_of_ble_eq_true rfl⟩ (ls := [some (.ref a), some (.int what), some (.int v), none, none, none]) rfl ?_
  refine xr_ic0 dX3_suchAs_0 ?_
  refine xr_is3 dX3_suchAs_1 (by decide) rfl ?_
  refine xr_ic0 dX3_suchAs_2 ?_
  refine xr_is4 dX3_suchAs_3 (by decide) rfl ?_
  refine xr_il4 dX3_suchAs_5 ?_
  refine xr_ic1 dX3_suchAs_7 ?_
  refine xr_icmpgt (tgt := 62) dX3_suchAs_8 (by decide) (fun zc8 => ?_) (fun zc8 => ?_)
  · skip
    exact absurd zc8 (by decide)
  · skip
    refine xr_ic0 dX3_suchAs_11 ?_
    refine xr_is5 dX3_suchAs_12 (by decide) rfl ?_
    refine lp_suchAs H ok hw (s := 0) (by decide) 0 ?_ (ln σ 0) 0 (by omega)
    refine xr_inc4 dX3_suchAs_56 rfl (by decide) rfl ?_
    refine xr_goto (tgt := 5) dX3_suchAs_59 (by decide) ?_
    refine xr_il4 dX3_suchAs_5 ?_
    refine xr_ic1 dX3_suchAs_7 ?_
    refine xr_icmpgt (tgt := 62) dX3_suchAs_8 (by decide) (fun zc8 => ?_) (fun zc8 => ?_)
    · skip
      exact absurd zc8 (by decide)
    · skip
      refine xr_ic0 dX3_suchAs_11 ?_
      refine xr_is5 dX3_suchAs_12 (by decide) rfl ?_
      refine lp_suchAs H ok hw (s := 1) (by decide) (saN σ what v 0 0 (ln σ 0)) ?_ (ln σ 1) 0 (by omega)
      refine xr_inc4 dX3_suchAs_56 rfl (by decide) rfl ?_
      refine xr_goto (tgt := 5) dX3_suchAs_59 (by decide) ?_
      refine xr_il4 dX3_suchAs_5 ?_
      refine xr_ic1 dX3_suchAs_7 ?_
      refine xr_icmpgt (tgt := 62) dX3_suchAs_8 (by decide) (fun zc8 => ?_) (fun zc8 => ?_)
      · skip
        refine xr_il3 dX3_suchAs_62 ?_
        refine xr_iret dX3_suchAs_63 rfl ?_
        exact ⟨rfl, rfl⟩
      · skip
        exact absurd (by decide) zc8
theorem xpH_of {K : xK} {h g : xH} {a : Nat} {σ : xs} (e1 : g.1 = h.1) (e0 : g.2 a = some (hO a σ)) (ho : ∀ b, b ≠ a → b ≠ a + 1 → b ≠ a + 2 → g.2 b = h.2 b) {f1 f2 : Nat → Int32} (ew : g.2 (a + 1) = some (.inl (K.2 1, 10, .inl f1))) (en : g.2 (a + 2) = some (.inl (K.2 1, 2, .inl f2))) (hw : ∀ j, j < 10 → f1 j = σ j) (hn : ∀ j, j < 2 → f2 j = σ (10 + j)) : xEq g (xpH K h a σ) := xEq_hill e1 e0 ew en hw hn ho
set_option maxRecDepth 20000 in
theorem s_copyFrom {K : xK} {B : Nat} {l : Launch} {h : xH} {a : Nat} {σ : xs} {b : Nat} {τ : xs} (H : xHill K h a σ) (G : xHill K h b τ) (dj : a + 3 ≤ b ∨ b + 3 ≤ a) : xV K B l 1 mX3_copyFrom 0 0 (a) [.ref b] h (xQv (xpH K h a τ)) := by
  obtain ⟨o0, o1, o2⟩ := id H
  unfold hO at o0; unfold hW at o1; unfold hN at o2
  obtain ⟨q0, q1, q2⟩ := id G
  unfold hO at q0; unfold hW at q1; unfold hN at q2
  refine ⟨⟨_, _, _, _, H.1, rfl⟩, qX3_copyFrom, ?_⟩
  refine xS.intro RX3 false ⟨rfl, rfl, by decide, by decide, Nat.le_of_ble_eq_true rfl⟩ (ls := [some (.ref a), some (.ref b)]) rfl ?_
  refine xr_al1 dX3_copyFrom_0 ?_
  refine xr_get q0 fX3_9 rfl dX3_copyFrom_1 ?_
  refine xr_ic0 dX3_copyFrom_4 ?_
  refine xr_al0 dX3_copyFrom_5 ?_
  refine xr_get o0 fX3_9 rfl dX3_copyFrom_6 ?_
  refine xr_ic0 dX3_copyFrom_9 ?_
  refine xr_al0 dX3_copyFrom_10 ?_
  refine xr_get o0 fX3_9 rfl dX3_copyFrom_11 ?_
  refine xr_alen o1 1 rfl (v := 10) rfl dX3_copyFrom_14 ?_
  refine xr_copy kcX3_28 mn_arraycopy ms_arraycopy wz_J10 q1 o1 (ns := 0) (nd := 0) (nn := 10) rfl rfl rfl (by decide) (by decide) (by decide) (by decide) (by decide) (Nat.le_of_ble_eq_true rfl) dX3_copyFrom_15 ?_
  refine xT.nm (fun zh1 zg1 => ?_)
  have o0 := xg_ne zg1 (by omega) o0
  have o1 := xg_eq zg1
  have o2 := xg_ne zg1 (by omega) o2
  have q0 := xg_ne zg1 (by omega) q0
  have q1 := xg_ne zg1 (by omega) q1
  have q2 := xg_ne zg1 (by omega) q2
  refine xr_al1 dX3_copyFrom_18 ?_
  refine xr_get q0 fX3_15 rfl dX3_copyFrom_19 ?_
  refine xr_ic0 dX3_copyFrom_22 ?_
  refine xr_al0 dX3_copyFrom_23 ?_
  refine xr_get o0 fX3_15 rfl dX3_copyFrom_24 ?_
  refine xr_ic0 dX3_copyFrom_27 ?_
  refine xr_al0 dX3_copyFrom_28 ?_
  refine xr_get o0 fX3_15 rfl dX3_copyFrom_29 ?_
  refine xr_alen o2 1 rfl (v := 2) rfl dX3_copyFrom_32 ?_
  refine xr_copy kcX3_28 mn_arraycopy ms_arraycopy wz_J10 q2 o2 (ns := 0) (nd := 0) (nn := 2) rfl rfl rfl (by decide) (by decide) (by decide) (by decide) (by decide) (Nat.le_of_ble_eq_true rfl) dX3_copyFrom_33 ?_
  refine xT.nm (fun zh2 zg2 => ?_)
  have o0 := xg_ne zg2 (by omega) o0
  have o1 := xg_ne zg2 (by omega) o1
  have o2 := xg_eq zg2
  have q0 := xg_ne zg2 (by omega) q0
  have q1 := xg_ne zg2 (by omega) q1
  have q2 := xg_ne zg2 (by omega) q2
  refine xr_al0 dX3_copyFrom_36 ?_
  refine xr_al1 dX3_copyFrom_37 ?_
  refine xr_get q0 fX3_18 rfl dX3_copyFrom_38 ?_
  refine xr_put o0 fX3_18 (Nat.le_of_ble_eq_true rfl) rfl rfl dX3_copyFrom_41 ?_
  refine xT.nm (fun zh3 zg3 => ?_)
  have o0 := xg_eq zg3
  have o1 := xg_ne zg3 (by omega) o1
  have o2 := xg_ne zg3 (by omega) o2
  have q0 := xg_ne zg3 (by omega) q0
  have q1 := xg_ne zg3 (by omega) q1
  have q2 := xg_ne zg3 (by omega) q2
  refine xr_al0 dX3_copyFrom_44 ?_
  refine xr_al1 dX3_copyFrom_45 ?_
  refine xr_get q0 fX3_22 rfl dX3_copyFrom_46 ?_
  refine xr_put o0 fX3_22 (Nat.le_of_ble_eq_true rfl) rfl rfl dX3_copyFrom_49 ?_
  refine xT.nm (fun zh4 zg4 => ?_)
  have o0 := xg_eq zg4
  have o1 := xg_ne zg4 (by omega) o1
  have o2 := xg_ne zg4 (by omega) o2
  have q0 := xg_ne zg4 (by omega) q0
  have q1 := xg_ne zg4 (by omega) q1
  have q2 := xg_ne zg4 (by omega) q2
  refine xr_al0 dX3_copyFrom_52 ?_
  refine xr_al1 dX3_copyFrom_53 ?_
  refine xr_get q0 fX3_25 rfl dX3_copyFrom_54 ?_
  refine xr_put o0 fX3_25 (Nat.le_of_ble_eq_true rfl) rfl rfl dX3_copyFrom_57 ?_
  refine xT.nm (fun zh5 zg5 => ?_)
  have o0 := xg_eq zg5
  have o1 := xg_ne zg5 (by omega) o1
  have o2 := xg_ne zg5 (by omega) o2
  have q0 := xg_ne zg5 (by omega) q0
  have q1 := xg_ne zg5 (by omega) q1
  have q2 := xg_ne zg5 (by omega) q2
  refine xr_al0 dX3_copyFrom_60 ?_
  refine xr_al1 dX3_copyFrom_61 ?_
  refine xr_get q0 fX3_34 rfl dX3_copyFrom_62 ?_
  refine xr_put o0 fX3_34 (Nat.le_of_ble_eq_true rfl) rfl rfl dX3_copyFrom_65 ?_
  refine xT.nm (fun zh6 zg6 => ?_)
  have o0 := xg_eq zg6
  have o1 := xg_ne zg6 (by omega) o1
  have o2 := xg_ne zg6 (by omega) o2
  have q0 := xg_ne zg6 (by omega) q0
  have q1 := xg_ne zg6 (by omega) q1
  have q2 := xg_ne zg6 (by omega) q2
  refine xr_al0 dX3_copyFrom_68 ?_
  refine xr_al1 dX3_copyFrom_69 ?_
  refine xr_get q0 fX3_37 rfl dX3_copyFrom_70 ?_
  refine xr_put o0 fX3_37 (Nat.le_of_ble_eq_true rfl) rfl rfl dX3_copyFrom_73 ?_
  refine xT.nm (fun zh7 zg7 => ?_)
  have o0 := xg_eq zg7
  have o1 := xg_ne zg7 (by omega) o1
  have o2 := xg_ne zg7 (by omega) o2
  have q0 := xg_ne zg7 (by omega) q0
  have q1 := xg_ne zg7 (by omega) q1
  have q2 := xg_ne zg7 (by omega) q2
  refine xr_al0 dX3_copyFrom_76 ?_
  refine xr_al1 dX3_copyFrom_77 ?_
  refine xr_get q0 fX3_40 rfl dX3_copyFrom_78 ?_
  refine xr_put o0 fX3_40 (Nat.le_of_ble_eq_true rfl) rfl rfl dX3_copyFrom_81 ?_
  refine xT.nm (fun zh8 zg8 => ?_)
  have o0 := xg_eq zg8
  have o1 := xg_ne zg8 (by omega) o1
  have o2 := xg_ne zg8 (by omega) o2
  have q0 := xg_ne zg8 (by omega) q0
  have q1 := xg_ne zg8 (by omega) q1
  have q2 := xg_ne zg8 (by omega) q2
  refine xr_al0 dX3_copyFrom_84 ?_
  refine xr_al1 dX3_copyFrom_85 ?_
  refine xr_get q0 fX3_43 rfl dX3_copyFrom_86 ?_
  refine xr_put o0 fX3_43 (Nat.le_of_ble_eq_true rfl) rfl rfl dX3_copyFrom_89 ?_
  refine xT.nm (fun zh9 zg9 => ?_)
  have o0 := xg_eq zg9
  have o1 := xg_ne zg9 (by omega) o1
  have o2 := xg_ne zg9 (by omega) o2
  have q0 := xg_ne zg9 (by omega) q0
  have q1 := xg_ne zg9 (by omega) q1
  have q2 := xg_ne zg9 (by omega) q2
  refine xT.equiv (xpH_of (h := h) (a := a) (σ := τ) ?_ ?_ ?_ o1 o2 (fun j hj => ?_) (fun j hj => ?_)) ?_
  · rw [zg9, zg8, zg7, zg6, zg5, zg4, zg3, zg2, zg1]; rfl
  · exact o0
  · intro c n0 n1 n2
    rw [zg9, xup_ne _ _ n0, zg8, xup_ne _ _ n0, zg7, xup_ne _ _ n0, zg6, xup_ne _ _ n0, zg5, xup_ne _ _ n0, zg4, xup_ne _ _ n0, zg3, xup_ne _ _ n0, zg2, xup_ne _ _ n2, zg1, xup_ne _ _ n1]
  · rw [pk_cpy_in (by omega) (by omega)]; congr 1; omega
  · rw [pk_cpy_in (by omega) (by omega)]; congr 1; omega
  refine xr_vret dX3_copyFrom_92 rfl ?_
  exact ⟨rfl, rfl⟩
def h0s : xs := fun i => if i = 12 then 2 else if i = 13 then 2 else if i = 14 then 20 else 0
theorem hOk_0 : hOk h0s := ⟨fun s hs => by rcases (show s = 0 ∨ s = 1 by omega) with rfl | rfl <;> exact ⟨rfl, by decide⟩, rfl, by decide, by decide⟩
set_option maxRecDepth 20000 in
theorem s_Hill {K : xK} {B : Nat} {l : Launch} {h : xH} {a : Nat} (ha : h.1 = a + 1) (o0 : h.2 a = some (.inr (3, [.null, .null, .int 0, .int 0, .int 0, .int 0, .int 0, .int 0, .int 0]))) : xN K B l 1 mX3_init 2 12 (a) [] h (xQv (xpH K (a + 3, h.2) a h0s)) := by
  refine ⟨qX3_init, ?_⟩
  refine xS.intro RX3 true ⟨rfl, rfl, by decide, by decide, Nat.le_of_ble_eq_true rfl⟩ (ls := [some (.ref a)]) rfl ?_
  refine xr_al0 dX3_init_0 ?_
  refine xr_objInit koX3_3 oi oc (by decide) (Nat.le_of_ble_eq_true rfl) dX3_init_1 ?_
  refine xr_al0 dX3_init_4 ?_
  refine xr_bipush (v := 10) dX3_init_5 (by decide) ?_
  refine xr_newi (rc' := 1) (rs' := 2) (N := 10) wa_int (by decide) (by decide) (by decide) rfl rfl dX3_init_7 ?_
  refine xT.nm (fun zh1 zg1 => ?_)
  have o0 := xn_ne zg1 (by (try have := xg_1 zg2); (try have := xn_1 zg1); omega) o0
  have o1 := xn_eq zg1
  rw [ha] at o1
  have e1 := xn_1 zg1
  rw [ha]
  refine xr_putF rfl o0 fX3_9 (Nat.le_of_ble_eq_true rfl) rfl rfl dX3_init_9 ?_
  refine xT.nm (fun zh2 zg2 => ?_)
  have o0 := xg_eq zg2
  have o1 := xg_ne zg2 (by omega) o1
  refine xr_al0 dX3_init_12 ?_
  refine xr_ic2 dX3_init_13 ?_
  refine xr_newi (rc' := 0) (rs' := 0) (N := 2) wa_int (by decide) (by decide) (by decide) rfl rfl dX3_init_14 ?_
  refine xT.nm (fun zh3 zg3 => ?_)
  have o0 := xn_ne zg3 (by (try have := xg_1 zg2); (try have := xn_1 zg1); omega) o0
  have o1 := xn_ne zg3 (by (try have := xg_1 zg2); (try have := xn_1 zg1); omega) o1
  have o2 := xn_eq zg3
  have e3 := xn_1 zg3
  have e2 : zh2.1 = a + 2 := (xg_1 zg2).trans (e1.trans (by omega))
  rw [e2] at o2
  rw [e2]
  refine xr_putF rfl o0 fX3_15 (Nat.le_of_ble_eq_true rfl) rfl rfl dX3_init_16 ?_
  refine xT.nm (fun zh4 zg4 => ?_)
  have o0 := xg_eq zg4
  have o1 := xg_ne zg4 (by omega) o1
  have o2 := xg_ne zg4 (by omega) o2
  refine xr_al0 dX3_init_19 ?_
  refine xr_ic2 dX3_init_20 ?_
  refine xr_put o0 fX3_18 (Nat.le_of_ble_eq_true rfl) rfl rfl dX3_init_21 ?_
  refine xT.nm (fun zh5 zg5 => ?_)
  have o0 := xg_eq zg5
  have o1 := xg_ne zg5 (by omega) o1
  have o2 := xg_ne zg5 (by omega) o2
  refine xr_al0 dX3_init_24 ?_
  refine xr_ic2 dX3_init_25 ?_
  refine xr_put o0 fX3_22 (Nat.le_of_ble_eq_true rfl) rfl rfl dX3_init_26 ?_
  refine xT.nm (fun zh6 zg6 => ?_)
  have o0 := xg_eq zg6
  have o1 := xg_ne zg6 (by omega) o1
  have o2 := xg_ne zg6 (by omega) o2
  refine xr_al0 dX3_init_29 ?_
  refine xr_bipush (v := 20) dX3_init_30 (by decide) ?_
  refine xr_put o0 fX3_25 (Nat.le_of_ble_eq_true rfl) rfl rfl dX3_init_32 ?_
  refine xT.nm (fun zh7 zg7 => ?_)
  have o0 := xg_eq zg7
  have o1 := xg_ne zg7 (by omega) o1
  have o2 := xg_ne zg7 (by omega) o2
  refine xT.equiv (xpH_of (h := (a + 3, h.2)) (a := a) (σ := h0s) ?_ ?_ ?_ o1 o2 (fun j hj => ?_) (fun j hj => ?_)) ?_
  · rw [zg7, zg6, zg5, zg4]; show zh3.1 = a + 3; omega
  · exact o0
  · intro c n0 n1 n2
    rw [zg7, xup_ne _ _ n0, zg6, xup_ne _ _ n0, zg5, xup_ne _ _ n0, zg4, xup_ne _ _ n0, xn_ne zg3 (by omega) rfl, zg2, xup_ne _ _ n0, xn_ne zg1 (by omega) rfl]
  · show (0 : Int32) = h0s j
    unfold h0s
    rw [if_neg (by omega), if_neg (by omega), if_neg (by omega)]
  · show (0 : Int32) = h0s (10 + j)
    unfold h0s
    rw [if_neg (by omega), if_neg (by omega), if_neg (by omega)]
  refine xr_vret dX3_init_35 rfl ?_
  exact ⟨rfl, rfl⟩
