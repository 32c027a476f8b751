set_option maxRecDepth 20000 in
theorem s_waits {K : xK} {B : Nat} {l : Launch} {h : xH} {a : Nat} {σ : xs} (H : xHill K h a σ) (side : Int32) : xV K B l 0 mX3_waits 0 0 (a) [.int side] h (xQi (hWaits σ side) h) := by
  obtain ⟨o0, o1, o2⟩ := id H
  unfold hO at o0; unfold hW at o1; unfold hN at o2
  refine ⟨⟨_, _, _, _, H.1, rfl⟩, qX3_waits, ?_⟩
  refine xS.intro RX3 false ⟨rfl, rfl, by decide, by decide, Nat.le_of_ble_eq_true rfl⟩ (ls := [some (.ref a), some (.int side)]) rfl ?_
  refine xr_il1 dX3_waits_0 ?_
  refine xr_ifeq (tgt := 9) dX3_waits_1 (by decide) (fun zc1 => ?_) (fun zc1 => ?_)
  · skip
    refine xr_al0 dX3_waits_9 ?_
    refine xr_get o0 fX3_15 rfl dX3_waits_10 ?_
    refine xr_il1 dX3_waits_13 ?_
    refine xr_iald o2 (by rw [zc1]; exact xix_lit (j := 0) (by decide)) dX3_waits_14 ?_
    refine xr_goto (tgt := 19) dX3_waits_15 (by decide) ?_
    refine xr_iret dX3_waits_19 rfl ?_
    exact ⟨by rw [zc1]; rfl, rfl⟩
  · skip
    refine xr_il1 dX3_waits_4 ?_
    refine xr_ic1 dX3_waits_5 ?_
    refine xr_icmpne (tgt := 18) dX3_waits_6 (by decide) (fun zc6 => ?_) (fun zc6 => ?_)
    · skip
      refine xr_ic0 dX3_waits_18 ?_
      refine xr_iret dX3_waits_19 rfl ?_
      exact ⟨by unfold hWaits; rw [if_neg zc1, if_neg zc6], rfl⟩
    · skip
      refine xr_al0 dX3_waits_9 ?_
      refine xr_get o0 fX3_15 rfl dX3_waits_10 ?_
      refine xr_il1 dX3_waits_13 ?_
      refine xr_iald o2 (by rw [zc6]; exact xix_lit (j := 1) (by decide)) dX3_waits_14 ?_
      refine xr_goto (tgt := 19) dX3_waits_15 (by decide) ?_
      refine xr_iret dX3_waits_19 rfl ?_
      exact ⟨by rw [zc6]; rfl, rfl⟩
set_option maxRecDepth 20000 in
theorem s_waitsInAll {K : xK} {B : Nat} {l : Launch} {h : xH} {a : Nat} {σ : xs} (H : xHill K h a σ) : xV K B l 1 mX3_waitsInAll 0 0 (a) [] h (xQi (σ 10 + σ 11) h) := by
  obtain ⟨o0, o1, o2⟩ := id H
  unfold hO at o0; unfold hW at o1; unfold hN at o2
  refine ⟨⟨_, _, _, _, H.1, rfl⟩, qX3_waitsInAll, ?_⟩
  refine xS.intro RX3 false ⟨rfl, rfl, by decide, by decide, Nat.le_of_ble_eq_true rfl⟩ (ls := [some (.ref a)]) rfl ?_
  refine xr_al0 dX3_waitsInAll_0 ?_
  refine xr_ic0 dX3_waitsInAll_1 ?_
  refine xr_Vi1 (s_waits H _) kX3_46 (by decide) (Nat.le_of_ble_eq_true rfl) (Nat.zero_add _) (Nat.zero_add _) dX3_waitsInAll_2 ?_
  refine xr_al0 dX3_waitsInAll_5 ?_
  refine xr_ic1 dX3_waitsInAll_6 ?_
  refine xr_Vi1 (s_waits H _) kX3_46 (by decide) (Nat.le_of_ble_eq_true rfl) (Nat.zero_add _) (Nat.zero_add _) dX3_waitsInAll_7 ?_
  refine xr_iadd dX3_waitsInAll_10 ?_
  refine xr_iret dX3_waitsInAll_11 rfl ?_
  exact ⟨rfl, rfl⟩
set_option maxRecDepth 20000 in
theorem s_nobodyWaits {K : xK} {B : Nat} {l : Launch} {h : xH} {a : Nat} {σ : xs} (H : xHill K h a σ) : xV K B l 2 mX3_nobodyWaits 0 0 (a) [] h (xQi (bI (σ 10 + σ 11 = 0)) h) := by
  obtain ⟨o0, o1, o2⟩ := id H
  unfold hO at o0; unfold hW at o1; unfold hN at o2
  refine ⟨⟨_, _, _, _, H.1, rfl⟩, qX3_nobodyWaits, ?_⟩
  refine xS.intro RX3 false ⟨rfl, rfl, by decide, by decide, Nat.le_of_ble_eq_true rfl⟩ (ls := [some (.ref a)]) rfl ?_
  refine xr_al0 dX3_nobodyWaits_0 ?_
  refine xr_Vi0 (s_waitsInAll H) kX3_50 (by decide) (Nat.le_of_ble_eq_true rfl) (Nat.zero_add _) (Nat.zero_add _) dX3_nobodyWaits_1 ?_
  refine xr_ifne (tgt := 11) dX3_nobodyWaits_4 (by decide) (fun zc4 => ?_) (fun zc4 => ?_)
  · skip
    refine xr_ic0 dX3_nobodyWaits_11 ?_
    refine xr_zret dX3_nobodyWaits_12 rfl (by first | rfl | decide | assumption) ?_
    exact ⟨by rw [bI_f zc4], rfl⟩
  · skip
    refine xr_ic1 dX3_nobodyWaits_7 ?_
    refine xr_goto (tgt := 12) dX3_nobodyWaits_8 (by decide) ?_
    refine xr_zret dX3_nobodyWaits_12 rfl (by first | rfl | decide | assumption) ?_
    exact ⟨by rw [bI_t zc4], rfl⟩
abbrev hHas (σ : xs) (side k : Int32) : Prop := ¬ k < 0 ∧ ¬ hWaits σ side ≤ k ∧ ¬ (5 : Int32) ≤ k
set_option maxRecDepth 20000 in
theorem s_has {K : xK} {B : Nat} {l : Launch} {h : xH} {a : Nat} {σ : xs} (H : xHill K h a σ) (side k : Int32) : xV K B l 1 mX3_has 0 0 (a) [.int side, .int k] h (xQi (bI (hHas σ side k)) h) := by
  obtain ⟨o0, o1, o2⟩ := id H
  unfold hO at o0; unfold hW at o1; unfold hN at o2
  refine ⟨⟨_, _, _, _, H.1, rfl⟩, qX3_has, ?_⟩
  refine xS.intro RX3 false ⟨rfl, rfl, by decide, by decide, Nat.le_of_ble_eq_true rfl⟩ (ls := [some (.ref a), some (.int side), some (.int k)]) rfl ?_
  refine xr_il2 dX3_has_0 ?_
  refine xr_iflt (tgt := 22) dX3_has_1 (by decide) (fun zc1 => ?_) (fun zc1 => ?_)
  · skip
    refine xr_ic0 dX3_has_22 ?_
    refine xr_zret dX3_has_23 rfl (by first | rfl | decide | assumption) ?_
    exact ⟨by rw [bI_f (fun q => q.1 zc1)], rfl⟩
  · skip
    refine xr_il2 dX3_has_4 ?_
    refine xr_al0 dX3_has_5 ?_
    refine xr_il1 dX3_has_6 ?_
    refine xr_Vi1 (s_waits H _) kX3_46 (by decide) (Nat.le_of_ble_eq_true rfl) (Nat.zero_add _) (Nat.zero_add _) dX3_has_7 ?_
    refine xr_icmpge (tgt := 22) dX3_has_10 (by decide) (fun zc10 => ?_) (fun zc10 => ?_)
    · skip
      refine xr_ic0 dX3_has_22 ?_
      refine xr_zret dX3_has_23 rfl (by first | rfl | decide | assumption) ?_
      exact ⟨by rw [bI_f (fun q => q.2.1 zc10)], rfl⟩
    · skip
      refine xr_il2 dX3_has_13 ?_
      refine xr_ic5 dX3_has_14 ?_
      refine xr_icmpge (tgt := 22) dX3_has_15 (by decide) (fun zc15 => ?_) (fun zc15 => ?_)
      · skip
        refine xr_ic0 dX3_has_22 ?_
        refine xr_zret dX3_has_23 rfl (by first | rfl | decide | assumption) ?_
        exact ⟨by rw [bI_f (fun q => q.2.2 zc15)], rfl⟩
      · skip
        refine xr_ic1 dX3_has_18 ?_
        refine xr_goto (tgt := 23) dX3_has_19 (by decide) ?_
        refine xr_zret dX3_has_23 rfl (by first | rfl | decide | assumption) ?_
        exact ⟨by rw [bI_t ⟨zc1, zc10, zc15⟩], rfl⟩
theorem hHas_sk {σ : xs} {side k : Int32} (q : hHas σ side k) : ∃ s j : Nat, s < 2 ∧ j < 5 ∧ side = nI s ∧ k = nI j := by
  obtain ⟨q1, q2, q3⟩ := q
  obtain ⟨j, hj, rfl⟩ : ∃ j : Nat, j < 5 ∧ k = nI j := by
    rcases pk_ix k (n := 5) (by decide) with z | z | z
    · exact absurd z q1
    · exact absurd z q3
    · exact z
  unfold hWaits at q2
  by_cases h0 : side = 0
  · exact ⟨0, j, by decide, hj, h0, rfl⟩
  · by_cases h1 : side = 1
    · exact ⟨1, j, by decide, hj, h1, rfl⟩
    · rw [if_neg h0, if_neg h1] at q2
      exact absurd (nI_pos' (by omega)) q2
theorem xix_sk {s k : Nat} (hs : s < 2) (hk : k < 5) : xix (nI s * 5 + nI k) 10 (5 * s + k) := by
  have e : nI s * 5 + nI k = nI (5 * s + k) := by
    rw [show (5 : Int32) = nI 5 from rfl, pk_mul, nI_add, Nat.mul_comm]
  rw [e]
  exact xix_nI (by omega) (by decide)
def hWat (σ : xs) (side k : Int32) : Int32 := if hHas σ side k then σ ((side * 5 + k).toNatClampNeg) else 0
theorem xix_has {σ : xs} {side k : Int32} (q : hHas σ side k) : xix (side * 5 + k) 10 (side * 5 + k).toNatClampNeg := by
  obtain ⟨s, j, hs, hj, rfl, rfl⟩ := hHas_sk q
  exact ⟨(xix_sk hs hj).1, rfl⟩
set_option maxRecDepth 20000 in
theorem s_weightAt {K : xK} {B : Nat} {l : Launch} {h : xH} {a : Nat} {σ : xs} (H : xHill K h a σ) (side k : Int32) : xV K B l 2 mX3_weightAt 0 0 (a) [.int side, .int k] h (xQi (hWat σ side k) h) := by
  obtain ⟨o0, o1, o2⟩ := id H
  unfold hO at o0; unfold hW at o1; unfold hN at o2
  refine ⟨⟨_, _, _, _, H.1, rfl⟩, qX3_weightAt, ?_⟩
  refine xS.intro RX3 false ⟨rfl, rfl, by decide, by decide, Nat.le_of_ble_eq_true rfl⟩ (ls := [some (.ref a), some (.int side), some (.int k)]) rfl ?_
  refine xr_al0 dX3_weightAt_0 ?_
  refine xr_il1 dX3_weightAt_1 ?_
  refine xr_il2 dX3_weightAt_2 ?_
  refine xr_Vi2 (s_has H _ _) kX3_54 (by decide) (Nat.le_of_ble_eq_true rfl) (Nat.zero_add _) (Nat.zero_add _) dX3_weightAt_3 ?_
  refine xr_ifeq (tgt := 22) dX3_weightAt_6 (by decide) (fun zc6 => ?_) (fun zc6 => ?_)
  · skip
    refine xr_ic0 dX3_weightAt_22 ?_
    refine xr_iret dX3_weightAt_23 rfl ?_
    exact ⟨by unfold hWat; rw [if_neg (bI_0.mp zc6)], rfl⟩
  · skip
    refine xr_al0 dX3_weightAt_9 ?_
    refine xr_get o0 fX3_9 rfl dX3_weightAt_10 ?_
    refine xr_il1 dX3_weightAt_13 ?_
    refine xr_ic5 dX3_weightAt_14 ?_
    refine xr_imul dX3_weightAt_15 ?_
    refine xr_il2 dX3_weightAt_16 ?_
    refine xr_iadd dX3_weightAt_17 ?_
    refine xr_iald o1 (xix_has (σ := σ) (Decidable.not_not.mp (fun z => zc6 (bI_0.mpr z)))) dX3_weightAt_18 ?_
    refine xr_goto (tgt := 23) dX3_weightAt_19 (by decide) ?_
    refine xr_iret dX3_weightAt_23 rfl ?_
    exact ⟨by unfold hWat; rw [if_pos (Decidable.not_not.mp (fun z => zc6 (bI_0.mpr z)))], rfl⟩
def hWeigh (σ : xs) (side k x : Int32) : xs := if hHas σ side k then upd σ ((side * 5 + k).toNatClampNeg) x else σ
theorem upd_hi (σ : xs) {i j : Nat} (x : Int32) (h : j ≠ i) : upd σ i x j = σ j := pk_un h
/-- a weight is written: the hill behind it -/
theorem hill_w {K : xK} {h : xH} {a : Nat} {σ : xs} (H : xHill K h a σ) {i : Nat} (hi : i < 10) (x : Int32) : xEq (xup h (a + 1) (.inl (K.2 1, 10, .inl (upd σ i x)))) (xpH K h a (upd σ i x)) := by
  obtain ⟨o0, o1, o2⟩ := H
  refine xEq_hill (f1 := upd σ i x) (f2 := fun j => σ (10 + j)) rfl ?_ (xup_eq _ _ _) ?_ (fun j _ => rfl) (fun j hj => ?_) (fun b h0 h1 h2 => xup_ne _ _ h1)
  · rw [xup_ne _ _ (by omega), o0]
    unfold hO
    simp only [upd_hi σ x (show 12 ≠ i by omega), upd_hi σ x (show 13 ≠ i by omega), upd_hi σ x (show 14 ≠ i by omega), upd_hi σ x (show 15 ≠ i by omega), upd_hi σ x (show 16 ≠ i by omega), upd_hi σ x (show 17 ≠ i by omega), upd_hi σ x (show 18 ≠ i by omega)]
  · rw [xup_ne _ _ (by omega), o2]
    rfl
  · exact (upd_hi σ x (by omega)).symm
/-- a length is written -/
theorem hill_n {K : xK} {h : xH} {a : Nat} {σ : xs} (H : xHill K h a σ) {s : Nat} (hs : s < 2) (x : Int32) : xEq (xup h (a + 2) (.inl (K.2 1, 2, .inl (upd (fun j => σ (10 + j)) s x)))) (xpH K h a (upd σ (10 + s) x)) := by
  obtain ⟨o0, o1, o2⟩ := H
  refine xEq_hill (f1 := σ) (f2 := upd (fun j => σ (10 + j)) s x) rfl ?_ ?_ (xup_eq _ _ _) (fun j hj => (upd_hi σ x (by omega)).symm) (fun j hj => ?_) (fun b h0 h1 h2 => xup_ne _ _ h2)
  · rw [xup_ne _ _ (by omega), o0]
    unfold hO
    simp only [upd_hi σ x (show 12 ≠ 10 + s by omega), upd_hi σ x (show 13 ≠ 10 + s by omega), upd_hi σ x (show 14 ≠ 10 + s by omega), upd_hi σ x (show 15 ≠ 10 + s by omega), upd_hi σ x (show 16 ≠ 10 + s by omega), upd_hi σ x (show 17 ≠ 10 + s by omega), upd_hi σ x (show 18 ≠ 10 + s by omega)]
  · rw [xup_ne _ _ (by omega), o1]
    rfl
  · by_cases e : j = s
    · subst e
      rw [pk_us, pk_us]
    · rw [upd_hi _ _ e, upd_hi _ _ (by omega)]
/-- a field is written -/
theorem hill_f {K : xK} {h : xH} {a : Nat} {σ : xs} (H : xHill K h a σ) {i : Nat} (hi : 12 ≤ i) (x : Int32) {e : va_E} (he : e = hO a (upd σ i x)) : xEq (xup h a e) (xpH K h a (upd σ i x)) := by
  obtain ⟨o0, o1, o2⟩ := H
  refine xEq_hill (f1 := σ) (f2 := fun j => σ (10 + j)) rfl ?_ ?_ ?_ (fun j hj => (upd_hi σ x (by omega)).symm) (fun j hj => (upd_hi σ x (by omega)).symm) (fun b h0 h1 h2 => xup_ne _ _ h0)
  · rw [he]; exact xup_eq _ _ _
  · rw [xup_ne _ _ (by omega), o1]
    rfl
  · rw [xup_ne _ _ (by omega), o2]
    rfl
set_option maxRecDepth 20000 in
theorem s_weigh {K : xK} {B : Nat} {l : Launch} {h : xH} {a : Nat} {σ : xs} (H : xHill K h a σ) (side k x : Int32) : xV K B l 2 mX3_weigh 0 0 (a) [.int side, .int k, .int x] h (xQv (xpH K h a (hWeigh σ side k x))) := by
  obtain ⟨o0, o1, o2⟩ := id H
  unfold hO at o0; unfold hW at o1; unfold hN at o2
  refine ⟨⟨_, _, _, _, H.1, rfl⟩, qX3_weigh, ?_⟩
  refine xS.intro RX3 false ⟨rfl, rfl, by decide, by decide, Nat.le_of_ble_eq_true rfl⟩ (ls := [some (.ref a), some (.int side), some (.int k), some (.int x)]) rfl ?_
  refine xr_al0 dX3_weigh_0 ?_
  refine xr_il1 dX3_weigh_1 ?_
  refine xr_il2 dX3_weigh_2 ?_
  refine xr_Vi2 (s_has H _ _) kX3_54 (by decide) (Nat.le_of_ble_eq_true rfl) (Nat.zero_add _) (Nat.zero_add _) dX3_weigh_3 ?_
  refine xr_ifeq (tgt := 20) dX3_weigh_6 (by decide) (fun zc6 => ?_) (fun zc6 => ?_)
  · skip
    
    refine xr_vret dX3_weigh_20 rfl ?_
    exact ⟨rfl, by unfold hWeigh; rw [if_neg (bI_0.mp zc6), xpH_id H]⟩
  · skip
    refine xr_al0 dX3_weigh_9 ?_
    refine xr_get o0 fX3_9 rfl dX3_weigh_10 ?_
    refine xr_il1 dX3_weigh_13 ?_
    refine xr_ic5 dX3_weigh_14 ?_
    refine xr_imul dX3_weigh_15 ?_
    refine xr_il2 dX3_weigh_16 ?_
    refine xr_iadd dX3_weigh_17 ?_
    refine xr_il3 dX3_weigh_18 ?_
    refine xr_iast o1 (xix_has (σ := σ) (Decidable.not_not.mp (fun z => zc6 (bI_0.mpr z)))) dX3_weigh_19 ?_
    refine xT.nm (fun zh1 zg1 => ?_)
    have o0 := xg_ne zg1 (by omega) o0
    have o1 := xg_eq zg1
    have o2 := xg_ne zg1 (by omega) o2
    have hh : hHas σ side k := Decidable.not_not.mp (fun z => zc6 (bI_0.mpr z))
    rw [zg1]
    refine xT.equiv (hill_w H (xix_has hh).lt x) ?_
    refine xr_vret dX3_weigh_20 rfl ?_
    exact ⟨rfl, by unfold hWeigh; rw [if_pos hh]⟩
theorem side2 {s : Nat} (hs : s < 2) (h0 : ¬ nI s = 0) : nI s = 1 := by
  rcases (show s = 0 ∨ s = 1 by omega) with rfl | rfl
  · exact absurd rfl h0
  · rfl
theorem nI_inc (k : Nat) : nI k + Int32.ofInt 1 = nI (k + 1) := nI_1 k
theorem hWaits_s {σ : xs} {s : Nat} (hs : s < 2) : hWaits σ (nI s) = σ (10 + s) := by
  rcases (show s = 0 ∨ s = 1 by omega) with rfl | rfl
  · rfl
  · rfl
set_option maxRecDepth 20000 in
theorem s_allOf {K : xK} {B : Nat} {l : Launch} {h : xH} {a : Nat} {σ : xs} (H : xHill K h a σ) (side : Int32) : xV K B l 1 mX3_allOf 0 0 (a) [.int side] h (xQi ((1 : Int32) <<< (hWaits σ side &&& 31) - 1) h) := by
  obtain ⟨o0, o1, o2⟩ := id H
  unfold hO at o0; unfold hW at o1; unfold hN at o2
  refine ⟨⟨_, _, _, _, H.1, rfl⟩, qX3_allOf, ?_⟩
  refine xS.intro RX3 false ⟨rfl, rfl, by decide, by decide, Nat.le_of_ble_eq_true rfl⟩ (ls := [some (.ref a), some (.int side)]) rfl ?_
  refine xr_ic1 dX3_allOf_0 ?_
  refine xr_al0 dX3_allOf_1 ?_
  refine xr_il1 dX3_allOf_2 ?_
  refine xr_Vi1 (s_waits H _) kX3_46 (by decide) (Nat.le_of_ble_eq_true rfl) (Nat.zero_add _) (Nat.zero_add _) dX3_allOf_3 ?_
  refine xr_ishl dX3_allOf_6 ?_
  refine xr_ic1 dX3_allOf_7 ?_
  refine xr_isub dX3_allOf_8 ?_
  refine xr_iret dX3_allOf_9 rfl ?_
  exact ⟨rfl, rfl⟩
def iMin (x y : Int32) : Int32 := if y < x then y else x
def iMax (x y : Int32) : Int32 := if x < y then y else x
def hNext (σ : xs) (side : Int32) : Int32 := (1 : Int32) <<< (iMin (σ 12) (hWaits σ side) &&& 31) - 1
set_option maxRecDepth 20000 in
theorem s_nextOf {K : xK} {B : Nat} {l : Launch} {h : xH} {a : Nat} {σ : xs} (H : xHill K h a σ) (side : Int32) : xV K B l 1 mX3_nextOf 0 0 (a) [.int side] h (xQi (hNext σ side) h) := by
  obtain ⟨o0, o1, o2⟩ := id H
  unfold hO at o0; unfold hW at o1; unfold hN at o2
  refine ⟨⟨_, _, _, _, H.1, rfl⟩, qX3_nextOf, ?_⟩
  refine xS.intro RX3 false ⟨rfl, rfl, by decide, by decide, Nat.le_of_ble_eq_true rfl⟩ (ls := [some (.ref a), some (.int side)]) rfl ?_
  refine xr_ic1 dX3_nextOf_0 ?_
  refine xr_al0 dX3_nextOf_1 ?_
  refine xr_get o0 fX3_18 rfl dX3_nextOf_2 ?_
  refine xr_al0 dX3_nextOf_5 ?_
  refine xr_il1 dX3_nextOf_6 ?_
  refine xr_Vi1 (s_waits H _) kX3_46 (by decide) (Nat.le_of_ble_eq_true rfl) (Nat.zero_add _) (Nat.zero_add _) dX3_nextOf_7 ?_
  refine xr_min kmX3_62 ms_min wz_J9 mc_min (by decide) (Nat.le_of_ble_eq_true rfl) dX3_nextOf_10 ?_
  refine xr_ishl dX3_nextOf_13 ?_
  refine xr_ic1 dX3_nextOf_14 ?_
  refine xr_isub dX3_nextOf_15 ?_
  refine xr_iret dX3_nextOf_16 rfl ?_
  exact ⟨rfl, rfl⟩
def ushr (x y : Int32) : Int32 := (x.toUInt32 >>> (y.toUInt32 &&& Int32.toUInt32 31)).toInt32
def bc1 (x : Int32) : Int32 := x - (ushr x 1 &&& 1431655765)
def bc2 (x : Int32) : Int32 := (x &&& 858993459) + (ushr x 2 &&& 858993459)
def bc3 (x : Int32) : Int32 := (x + ushr x 4) &&& 252645135
def bc4 (x : Int32) : Int32 := x + ushr x 8
def bc5 (x : Int32) : Int32 := x + ushr x 16
def bc (x : Int32) : Int32 := bc5 (bc4 (bc3 (bc2 (bc1 x)))) &&& 63
set_option maxRecDepth 20000 in
theorem s_bitCount {K : xK} {B : Nat} {l : Launch} {h : xH} (x : Int32) : xU K B l 0 mJ6_bitCount_0f7a4 0 0 [.int x] h (xQi (bc x) h) := by
  refine ⟨qJ6_bitCount_0f7a4, ?_⟩
  refine xS.intro RJ6 false ⟨rfl, rfl, by decide, by decide, Nat.le_of_ble_eq_true rfl⟩ (ls := [some (.int x)]) rfl ?_
  refine xr_il0 dJ6_bitCount_0f7a4_0 ?_
  refine xr_il0 dJ6_bitCount_0f7a4_1 ?_
  refine xr_ic1 dJ6_bitCount_0f7a4_2 ?_
  refine xr_iushr dJ6_bitCount_0f7a4_3 ?_
  refine xr_ldcw nJ6_265 dJ6_bitCount_0f7a4_4 ?_
  refine xr_iand dJ6_bitCount_0f7a4_7 ?_
  refine xr_isub dJ6_bitCount_0f7a4_8 ?_
  refine xr_is0 dJ6_bitCount_0f7a4_9 (by decide) ?_
  refine xr_il0 dJ6_bitCount_0f7a4_10 ?_
  refine xr_ldcw nJ6_266 dJ6_bitCount_0f7a4_11 ?_
  refine xr_iand dJ6_bitCount_0f7a4_14 ?_
  refine xr_il0 dJ6_bitCount_0f7a4_15 ?_
  refine xr_ic2 dJ6_bitCount_0f7a4_16 ?_
  refine xr_iushr dJ6_bitCount_0f7a4_17 ?_
  refine xr_ldcw nJ6_266 dJ6_bitCount_0f7a4_18 ?_
  refine xr_iand dJ6_bitCount_0f7a4_21 ?_
  refine xr_iadd dJ6_bitCount_0f7a4_22 ?_
  refine xr_is0 dJ6_bitCount_0f7a4_23 (by decide) ?_
  refine xr_il0 dJ6_bitCount_0f7a4_24 ?_
  refine xr_il0 dJ6_bitCount_0f7a4_25 ?_
  refine xr_ic4 dJ6_bitCount_0f7a4_26 ?_
  refine xr_iushr dJ6_bitCount_0f7a4_27 ?_
  refine xr_iadd dJ6_bitCount_0f7a4_28 ?_
  refine xr_ldcw nJ6_267 dJ6_bitCount_0f7a4_29 ?_
  refine xr_iand dJ6_bitCount_0f7a4_32 ?_
  refine xr_is0 dJ6_bitCount_0f7a4_33 (by decide) ?_
  refine xr_il0 dJ6_bitCount_0f7a4_34 ?_
  refine xr_il0 dJ6_bitCount_0f7a4_35 ?_
  refine xr_bipush (v := 8) dJ6_bitCount_0f7a4_36 (by decide) ?_
  refine xr_iushr dJ6_bitCount_0f7a4_38 ?_
  refine xr_iadd dJ6_bitCount_0f7a4_39 ?_
  refine xr_is0 dJ6_bitCount_0f7a4_40 (by decide) ?_
  refine xr_il0 dJ6_bitCount_0f7a4_41 ?_
  refine xr_il0 dJ6_bitCount_0f7a4_42 ?_
  refine xr_bipush (v := 16) dJ6_bitCount_0f7a4_43 (by decide) ?_
  refine xr_iushr dJ6_bitCount_0f7a4_45 ?_
  refine xr_iadd dJ6_bitCount_0f7a4_46 ?_
  refine xr_is0 dJ6_bitCount_0f7a4_47 (by decide) ?_
  refine xr_il0 dJ6_bitCount_0f7a4_48 ?_
  refine xr_bipush (v := 63) dJ6_bitCount_0f7a4_49 (by decide) ?_
  refine xr_iand dJ6_bitCount_0f7a4_51 ?_
  refine xr_iret dJ6_bitCount_0f7a4_52 rfl ?_
  exact ⟨rfl, rfl⟩
abbrev hMay (σ : xs) (side g : Int32) : Prop := g &&& (((1 : Int32) <<< (hWaits σ side &&& 31) - 1) ^^^ (-1)) = 0 ∧ ¬ σ 12 < bc g
set_option maxRecDepth 20000 in
theorem s_mayBoard {K : xK} {B : Nat} {l : Launch} {h : xH} {a : Nat} {σ : xs} (H : xHill K h a σ) (side g : Int32) : xV K B l 2 mX3_mayBoard 0 0 (a) [.int side, .int g] h (xQi (bI (hMay σ side g)) h) := by
  obtain ⟨o0, o1, o2⟩ := id H
  unfold hO at o0; unfold hW at o1; unfold hN at o2
  refine ⟨⟨_, _, _, _, H.1, rfl⟩, qX3_mayBoard, ?_⟩
  refine xS.intro RX3 false ⟨rfl, rfl, by decide, by decide, Nat.le_of_ble_eq_true rfl⟩ (ls := [some (.ref a), some (.int side), some (.int g)]) rfl ?_
  refine xr_il2 dX3_mayBoard_0 ?_
  refine xr_al0 dX3_mayBoard_1 ?_
  refine xr_il1 dX3_mayBoard_2 ?_
  refine xr_Vi1 (s_allOf H _) kX3_68 (by decide) (Nat.le_of_ble_eq_true rfl) (Nat.zero_add _) (Nat.zero_add _) dX3_mayBoard_3 ?_
  refine xr_icm1 dX3_mayBoard_6 ?_
  refine xr_ixor dX3_mayBoard_7 ?_
  refine xr_iand dX3_mayBoard_8 ?_
  refine xr_ifne (tgt := 27) dX3_mayBoard_9 (by decide) (fun zc9 => ?_) (fun zc9 => ?_)
  · skip
    refine xr_ic0 dX3_mayBoard_27 ?_
    refine xr_zret dX3_mayBoard_28 rfl (by first | rfl | decide | assumption) ?_
    exact ⟨by rw [bI_f (fun q => zc9 q.1)], rfl⟩
  · skip
    refine xr_il2 dX3_mayBoard_12 ?_
    refine xr_Si1 (s_bitCount _) kX3_71 (by decide) (Nat.le_of_ble_eq_true rfl) (Nat.zero_add _) (Nat.zero_add _) dX3_mayBoard_13 ?_
    refine xr_al0 dX3_mayBoard_16 ?_
    refine xr_get o0 fX3_18 rfl dX3_mayBoard_17 ?_
    refine xr_icmpgt (tgt := 27) dX3_mayBoard_20 (by decide) (fun zc20 => ?_) (fun zc20 => ?_)
    · skip
      refine xr_ic0 dX3_mayBoard_27 ?_
      refine xr_zret dX3_mayBoard_28 rfl (by first | rfl | decide | assumption) ?_
      exact ⟨by rw [bI_f (fun q => q.2 zc20)], rfl⟩
    · skip
      refine xr_ic1 dX3_mayBoard_23 ?_
      refine xr_goto (tgt := 28) dX3_mayBoard_24 (by decide) ?_
      refine xr_zret dX3_mayBoard_28 rfl (by first | rfl | decide | assumption) ?_
      exact ⟨by rw [bI_t ⟨zc9, zc20⟩], rfl⟩
def wtN (σ : xs) (s : Nat) (g : Int32) : Nat → Int32
  | 0 => 0
  | k + 1 => wtN σ s g k + (g >>> (nI k &&& 31) &&& 1) * σ (5 * s + k)
def wt (σ : xs) (s : Nat) (g : Int32) : Int32 := wtN σ s g (ln σ s)
set_option maxRecDepth 20000 in
theorem lp_weightOf {K : xK} {B : Nat} {l : Launch} {h : xH} {a : Nat} {σ : xs} (H : xHill K h a σ) (ok : hOk σ) {s : Nat} (hs : s < 2) (g : Int32) : ∀ (r k : Nat), k + r = ln σ s → xT K B l 0 RX3 false cX3_weightOf 5 (some .int) 0 0 0 0 (xQi (wt σ s g) h) 14 [some (.ref a), some (.int (nI s)), some (.int g), some (.int (wtN σ s g k)), some (.int (nI k))] [] h := by
  obtain ⟨o0, o1, o2⟩ := id H
  unfold hO at o0; unfold hW at o1; unfold hN at o2
  have ok5 := (ok.1 s hs).2
  intro r
  induction r with
  | zero =>
    intro k hk
    have hk' : k = ln σ s := hk
    have hk5 : k < 5 ∨ k = 5 := by omega
    refine xr_il4 dX3_weightOf_14 ?_
    refine xr_ic5 dX3_weightOf_16 ?_
    refine xr_icmpge (tgt := 58) dX3_weightOf_17 (by decide) (fun zc17 => ?_) (fun zc17 => ?_)
    · skip
      refine xr_il3 dX3_weightOf_58 ?_
      refine xr_iret dX3_weightOf_59 rfl ?_
      exact ⟨by rw [hk']; rfl, rfl⟩
    · skip
      refine xr_il4 dX3_weightOf_20 ?_
      refine xr_al0 dX3_weightOf_22 ?_
      refine xr_get o0 fX3_15 rfl dX3_weightOf_23 ?_
      refine xr_il1 dX3_weightOf_26 ?_
      refine xr_iald o2 (xix_nI hs (by decide)) dX3_weightOf_27 ?_
      refine xr_eqi (y := nI (ln σ s)) (ok.1 s hs).1 ?_
      refine xr_icmpge (tgt := 58) dX3_weightOf_28 (by decide) (fun zc28 => ?_) (fun zc28 => ?_)
      · skip
        refine xr_il3 dX3_weightOf_58 ?_
        refine xr_iret dX3_weightOf_59 rfl ?_
        exact ⟨by rw [hk']; rfl, rfl⟩
      · skip
        exact absurd (nI_le (by omega) (by omega)) zc28
  | succ r ih =>
    intro k hk
    have hk5 : k < 5 := by omega
    refine xr_il4 dX3_weightOf_14 ?_
    refine xr_ic5 dX3_weightOf_16 ?_
    refine xr_icmpge (tgt := 58) dX3_weightOf_17 (by decide) (fun zc17 => ?_) (fun zc17 => ?_)
    · skip
      exact absurd zc17 (lt5' k hk5)
    · skip
      refine xr_il4 dX3_weightOf_20 ?_
      refine xr_al0 dX3_weightOf_22 ?_
      refine xr_get o0 fX3_15 rfl dX3_weightOf_23 ?_
      refine xr_il1 dX3_weightOf_26 ?_
      refine xr_iald o2 (xix_nI hs (by decide)) dX3_weightOf_27 ?_
      refine xr_eqi (y := nI (ln σ s)) (ok.1 s hs).1 ?_
      refine xr_icmpge (tgt := 58) dX3_weightOf_28 (by decide) (fun zc28 => ?_) (fun zc28 => ?_)
      · skip
        exact absurd zc28 (nI_ge (by omega) (by omega))
      · skip
        refine xr_il3 dX3_weightOf_31 ?_
        refine xr_il2 dX3_weightOf_32 ?_
        refine xr_il4 dX3_weightOf_33 ?_
        refine xr_ishr dX3_weightOf_35 ?_
        refine xr_ic1 dX3_weightOf_36 ?_
        refine xr_iand dX3_weightOf_37 ?_
        refine xr_al0 dX3_weightOf_38 ?_
        refine xr_get o0 fX3_9 rfl dX3_weightOf_39 ?_
        refine xr_il1 dX3_weightOf_42 ?_
        refine xr_ic5 dX3_weightOf_43 ?_
        refine xr_imul dX3_weightOf_44 ?_
        refine xr_il4 dX3_weightOf_45 ?_
        refine xr_iadd dX3_weightOf_47 ?_
        refine xr_iald o1 (xix_sk hs hk5) dX3_weightOf_48 ?_
        refine xr_imul dX3_weightOf_49 ?_
        refine xr_iadd dX3_weightOf_50 ?_
        refine xr_is3 dX3_weightOf_51 (by decide) rfl ?_
        refine xr_inc4 dX3_weightOf_52 (nI_inc k) (by decide) rfl ?_
        refine xr_goto (tgt := 14) dX3_weightOf_55 (by decide) ?_
        exact ih (k + 1) (by omega)
set_option maxRecDepth 20000 in
theorem s_weightOf {K : xK} {B : Nat} {l : Launch} {h : xH} {a : Nat} {σ : xs} (H : xHill K h a σ) (ok : hOk σ) {s : Nat} (hs : s < 2) (g : Int32) : xV K B l 0 mX3_weightOf 0 0 (a) [.int (nI s), .int g] h (xQi (wt σ s g) h) := by
  obtain ⟨o0, o1, o2⟩ := id H
  unfold hO at o0; unfold hW at o1; unfold hN at o2
  refine ⟨⟨_, _, _, _, H.1, rfl⟩, qX3_weightOf, ?_⟩
  refine xS.intro RX3 false ⟨rfl, rfl, by decide, by decide, Nat.le_of_ble_eq_true rfl⟩ (ls := [some (.ref a), some (.int (nI s)), some (.int g), none, none]) rfl ?_
  refine xr_ic0 dX3_weightOf_0 ?_
  refine xr_is3 dX3_weightOf_1 (by decide) rfl ?_
  refine xr_il1 dX3_weightOf_2 ?_
  refine xr_ifeq (tgt := 11) dX3_weightOf_3 (by decide) (fun zc3 => ?_) (fun zc3 => ?_)
  · skip
    refine xr_ic0 dX3_weightOf_11 ?_
    refine xr_is4 dX3_weightOf_12 (by decide) rfl ?_
    exact lp_weightOf H ok hs g (ln σ s) 0 (by omega)
  · skip
    refine xr_il1 dX3_weightOf_6 ?_
    refine xr_ic1 dX3_weightOf_7 ?_
    refine xr_icmpne (tgt := 58) dX3_weightOf_8 (by decide) (fun zc8 => ?_) (fun zc8 => ?_)
    · skip
      exact absurd (side2 hs zc3) zc8
    · skip
      refine xr_ic0 dX3_weightOf_11 ?_
      refine xr_is4 dX3_weightOf_12 (by decide) rfl ?_
      exact lp_weightOf H ok hs g (ln σ s) 0 (by omega)
def hWater (σ : xs) (x y : Int32) : Int32 := iMax 0 (wt σ 1 y + σ 13 - wt σ 0 x)
set_option maxRecDepth 20000 in
theorem s_waterFor {K : xK} {B : Nat} {l : Launch} {h : xH} {a : Nat} {σ : xs} (H : xHill K h a σ) (ok : hOk σ) (x y : Int32) : xV K B l 1 mX3_waterFor 0 0 (a) [.int x, .int y] h (xQi (hWater σ x y) h) := by
  obtain ⟨o0, o1, o2⟩ := id H
  unfold hO at o0; unfold hW at o1; unfold hN at o2
  refine ⟨⟨_, _, _, _, H.1, rfl⟩, qX3_waterFor, ?_⟩
  refine xS.intro RX3 false ⟨rfl, rfl, by decide, by decide, Nat.le_of_ble_eq_true rfl⟩ (ls := [some (.ref a), some (.int x), some (.int y)]) rfl ?_
  refine xr_ic0 dX3_waterFor_0 ?_
  refine xr_al0 dX3_waterFor_1 ?_
  refine xr_ic1 dX3_waterFor_2 ?_
  refine xr_il2 dX3_waterFor_3 ?_
  refine xr_Vi2 (s_weightOf H ok (s := 1) (by decide) _) kX3_76 (by decide) (Nat.le_of_ble_eq_true rfl) (Nat.zero_add _) (Nat.zero_add _) dX3_waterFor_4 ?_
  refine xr_al0 dX3_waterFor_7 ?_
  refine xr_get o0 fX3_22 rfl dX3_waterFor_8 ?_
  refine xr_iadd dX3_waterFor_11 ?_
  refine xr_al0 dX3_waterFor_12 ?_
  refine xr_ic0 dX3_waterFor_13 ?_
  refine xr_il1 dX3_waterFor_14 ?_
  refine xr_Vi2 (s_weightOf H ok (s := 0) (by decide) _) kX3_76 (by decide) (Nat.le_of_ble_eq_true rfl) (Nat.zero_add _) (Nat.zero_add _) dX3_waterFor_15 ?_
  refine xr_isub dX3_waterFor_18 ?_
  refine xr_max kmX3_79 ms_max wz_J9 mc_max (by decide) (Nat.le_of_ble_eq_true rfl) dX3_waterFor_19 ?_
  refine xr_iret dX3_waterFor_22 rfl ?_
  exact ⟨rfl, rfl⟩
def tk (σ : xs) (s : Nat) (g : Int32) : Nat → xs × Nat
  | 0 => (σ, 0)
  | k + 1 => if (g >>> (nI k &&& 31) &&& 1) = 0 then (upd (tk σ s g k).1 (5 * s + (tk σ s g k).2) ((tk σ s g k).1 (5 * s + k)), (tk σ s g k).2 + 1) else tk σ s g k
theorem tk_le (σ : xs) (s : Nat) (g : Int32) (k : Nat) : (tk σ s g k).2 ≤ k := by
  induction k with
  | zero => exact Nat.le_refl _
  | succ k ih =>
    unfold tk
    split
    · show (tk σ s g k).2 + 1 ≤ k + 1
      omega
    · omega
theorem tk_hi (σ : xs) {s : Nat} (g : Int32) (hs : s < 2) {k : Nat} (hk : k ≤ 5) {i : Nat} (hi : 10 ≤ i) : (tk σ s g k).1 i = σ i := by
  induction k with
  | zero => rfl
  | succ k ih =>
    have h1 := tk_le σ s g k
    unfold tk
    split
    · show upd _ _ _ i = σ i
      rw [upd_hi _ _ (by omega)]
      exact ih (by omega)
    · exact ih (by omega)
def hTake (σ : xs) (s : Nat) (g : Int32) : xs := upd (tk σ s g (ln σ s)).1 (10 + s) (nI (tk σ s g (ln σ s)).2)
theorem hill_ws {K : xK} {h : xH} {a : Nat} {σ τ : xs} (H : xHill K h a σ) (ht : ∀ i, 10 ≤ i → τ i = σ i) : xEq (xup h (a + 1) (.inl (K.2 1, 10, .inl τ))) (xpH K h a τ) := by
  obtain ⟨o0, o1, o2⟩ := H
  refine xEq_hill (f1 := τ) (f2 := fun j => σ (10 + j)) rfl ?_ (xup_eq _ _ _) ?_ (fun j _ => rfl) (fun j hj => (ht _ (by omega)).symm) (fun b h0 h1 h2 => xup_ne _ _ h1)
  · rw [xup_ne _ _ (by omega), o0]
    unfold hO
    rw [ht 12 (by omega), ht 13 (by omega), ht 14 (by omega), ht 15 (by omega), ht 16 (by omega), ht 17 (by omega), ht 18 (by omega)]
  · rw [xup_ne _ _ (by omega), o2]
    rfl
set_option maxRecDepth 20000 in
theorem lp_takeAway {K : xK} {B : Nat} {l : Launch} {h : xH} {a : Nat} {σ : xs} (H : xHill K h a σ) (ok : hOk σ) {s : Nat} (hs : s < 2) (g : Int32) : ∀ (r k : Nat), k + r = ln σ s → xT K B l 0 RX3 false cX3_takeAway 5 none 0 0 0 0 (xQv (xpH K h a (hTake σ s g))) 15 [some (.ref a), some (.int (nI s)), some (.int g), some (.int (nI (tk σ s g k).2)), some (.int (nI k))] [] (xup h (a + 1) (.inl (K.2 1, 10, .inl (tk σ s g k).1))) := by
  have ok5 := (ok.1 s hs).2
  intro r
  induction r with
  | zero =>
    intro k hk
    have hk' : k = ln σ s := hk
    have hj := tk_le σ s g k
    obtain ⟨o0, o1, o2⟩ := id H
    unfold hO at o0; unfold hN at o2
    have o0 := (xup_ne h (.inl (K.2 1, 10, .inl (tk σ s g k).1)) (show a ≠ a + 1 by omega)).trans o0
    have o2 := (xup_ne h (.inl (K.2 1, 10, .inl (tk σ s g k).1)) (show a + 2 ≠ a + 1 by omega)).trans o2
    have o1 := xup_eq h (a + 1) (.inl (K.2 1, 10, .inl (tk σ s g k).1))
    refine xr_il4 dX3_takeAway_15 ?_
    refine xr_ic5 dX3_takeAway_17 ?_
    refine xr_icmpge (tgt := 71) dX3_takeAway_18 (by decide) (fun zc18 => ?_) (fun zc18 => ?_)
    · skip
      refine xr_al0 dX3_takeAway_71 ?_
      refine xr_get o0 fX3_15 rfl dX3_takeAway_72 ?_
      refine xr_il1 dX3_takeAway_75 ?_
      refine xr_il3 dX3_takeAway_76 ?_
      refine xr_iast o2 (xix_nI hs (by decide)) dX3_takeAway_77 ?_
      refine xT.nm (fun zh1 zg1 => ?_)
      have o0 := xg_ne zg1 (by omega) o0
      have o1 := xg_ne zg1 (by omega) o1
      have o2 := xg_eq zg1
      rw [zg1]
      refine xT.nm (fun zq zqe => ?_)
      have hq : xEq zq (xpH K h a (hTake σ s g)) := by
        rw [zqe]
        unfold hTake
        rw [← hk']
        have hE := hill_ws H (τ := (tk σ s g k).1) (fun i hi => tk_hi σ g hs (by omega) hi)
        refine xEq_hill (f1 := (tk σ s g k).1) (f2 := upd (fun j => σ (10 + j)) s (nI (tk σ s g k).2)) rfl ?_ ?_ (xup_eq _ _ _) (fun j hj => (upd_hi _ _ (by omega)).symm) (fun j hj => ?_) (fun b h0 h1 h2 => (xup_ne _ _ h2).trans (xup_ne _ _ h1))
        · rw [xup_ne _ _ (by omega), xup_ne _ _ (by omega)]
          rw [H.1]
          unfold hO
          simp only [upd_hi _ _ (show 12 ≠ 10 + s by omega), upd_hi _ _ (show 13 ≠ 10 + s by omega), upd_hi _ _ (show 14 ≠ 10 + s by omega), upd_hi _ _ (show 15 ≠ 10 + s by omega), upd_hi _ _ (show 16 ≠ 10 + s by omega), upd_hi _ _ (show 17 ≠ 10 + s by omega), upd_hi _ _ (show 18 ≠ 10 + s by omega)]
          rw [tk_hi σ g hs (by omega) (show 10 ≤ 12 by omega), tk_hi σ g hs (by omega) (show 10 ≤ 13 by omega), tk_hi σ g hs (by omega) (show 10 ≤ 14 by omega), tk_hi σ g hs (by omega) (show 10 ≤ 15 by omega), tk_hi σ g hs (by omega) (show 10 ≤ 16 by omega), tk_hi σ g hs (by omega) (show 10 ≤ 17 by omega), tk_hi σ g hs (by omega) (show 10 ≤ 18 by omega)]
        · rw [xup_ne _ _ (by omega)]
          exact xup_eq _ _ _
        · by_cases e : j = s
          · subst e
            rw [pk_us, pk_us]
          · rw [upd_hi _ _ e, upd_hi _ _ (by omega)]
            exact (tk_hi σ g hs (by omega) (by omega)).symm
      refine xT.equiv hq ?_
      refine xr_vret dX3_takeAway_78 rfl ?_
      exact ⟨rfl, rfl⟩
    · skip
      refine xr_il4 dX3_takeAway_21 ?_
      refine xr_al0 dX3_takeAway_23 ?_
      refine xr_get o0 fX3_15 rfl dX3_takeAway_24 ?_
      refine xr_il1 dX3_takeAway_27 ?_
      refine xr_iald o2 (xix_nI hs (by decide)) dX3_takeAway_28 ?_
      refine xr_eqi (y := nI (ln σ s)) (ok.1 s hs).1 ?_
      refine xr_icmpge (tgt := 71) dX3_takeAway_29 (by decide) (fun zc29 => ?_) (fun zc29 => ?_)
      · skip
        refine xr_al0 dX3_takeAway_71 ?_
        refine xr_get o0 fX3_15 rfl dX3_takeAway_72 ?_
        refine xr_il1 dX3_takeAway_75 ?_
        refine xr_il3 dX3_takeAway_76 ?_
        refine xr_iast o2 (xix_nI hs (by decide)) dX3_takeAway_77 ?_
        refine xT.nm (fun zh1 zg1 => ?_)
        have o0 := xg_ne zg1 (by omega) o0
        have o1 := xg_ne zg1 (by omega) o1
        have o2 := xg_eq zg1
        rw [zg1]
        refine xT.nm (fun zq zqe => ?_)
        have hq : xEq zq (xpH K h a (hTake σ s g)) := by
          rw [zqe]
          unfold hTake
          rw [← hk']
          have hE := hill_ws H (τ := (tk σ s g k).1) (fun i hi => tk_hi σ g hs (by omega) hi)
          refine xEq_hill (f1 := (tk σ s g k).1) (f2 := upd (fun j => σ (10 + j)) s (nI (tk σ s g k).2)) rfl ?_ ?_ (xup_eq _ _ _) (fun j hj => (upd_hi _ _ (by omega)).symm) (fun j hj => ?_) (fun b h0 h1 h2 => (xup_ne _ _ h2).trans (xup_ne _ _ h1))
          · rw [xup_ne _ _ (by omega), xup_ne _ _ (by omega)]
            rw [H.1]
            unfold hO
            simp only [upd_hi _ _ (show 12 ≠ 10 + s by omega), upd_hi _ _ (show 13 ≠ 10 + s by omega), upd_hi _ _ (show 14 ≠ 10 + s by omega), upd_hi _ _ (show 15 ≠ 10 + s by omega), upd_hi _ _ (show 16 ≠ 10 + s by omega), upd_hi _ _ (show 17 ≠ 10 + s by omega), upd_hi _ _ (show 18 ≠ 10 + s by omega)]
            rw [tk_hi σ g hs (by omega) (show 10 ≤ 12 by omega), tk_hi σ g hs (by omega) (show 10 ≤ 13 by omega), tk_hi σ g hs (by omega) (show 10 ≤ 14 by omega), tk_hi σ g hs (by omega) (show 10 ≤ 15 by omega), tk_hi σ g hs (by omega) (show 10 ≤ 16 by omega), tk_hi σ g hs (by omega) (show 10 ≤ 17 by omega), tk_hi σ g hs (by omega) (show 10 ≤ 18 by omega)]
          · rw [xup_ne _ _ (by omega)]
            exact xup_eq _ _ _
          · by_cases e : j = s
            · subst e
              rw [pk_us, pk_us]
            · rw [upd_hi _ _ e, upd_hi _ _ (by omega)]
              exact (tk_hi σ g hs (by omega) (by omega)).symm
        refine xT.equiv hq ?_
        refine xr_vret dX3_takeAway_78 rfl ?_
        exact ⟨rfl, rfl⟩
      · skip
        exact absurd (nI_le (by omega) (by omega)) zc29
  | succ r ih =>
    intro k hk
    have hk5 : k < 5 := by omega
    have hj := tk_le σ s g k
    obtain ⟨o0, o1, o2⟩ := id H
    unfold hO at o0; unfold hN at o2
    have o0 := (xup_ne h (.inl (K.2 1, 10, .inl (tk σ s g k).1)) (show a ≠ a + 1 by omega)).trans o0
    have o2 := (xup_ne h (.inl (K.2 1, 10, .inl (tk σ s g k).1)) (show a + 2 ≠ a + 1 by omega)).trans o2
    have o1 := xup_eq h (a + 1) (.inl (K.2 1, 10, .inl (tk σ s g k).1))
    refine xr_il4 dX3_takeAway_15 ?_
    refine xr_ic5 dX3_takeAway_17 ?_
    refine xr_icmpge (tgt := 71) dX3_takeAway_18 (by decide) (fun zc18 => ?_) (fun zc18 => ?_)
    · skip
      exact absurd zc18 (lt5' k hk5)
    · skip
      refine xr_il4 dX3_takeAway_21 ?_
      refine xr_al0 dX3_takeAway_23 ?_
      refine xr_get o0 fX3_15 rfl dX3_takeAway_24 ?_
      refine xr_il1 dX3_takeAway_27 ?_
      refine xr_iald o2 (xix_nI hs (by decide)) dX3_takeAway_28 ?_
      refine xr_eqi (y := nI (ln σ s)) (ok.1 s hs).1 ?_
      refine xr_icmpge (tgt := 71) dX3_takeAway_29 (by decide) (fun zc29 => ?_) (fun zc29 => ?_)
      · skip
        exact absurd zc29 (nI_ge (by omega) (by omega))
      · skip
        refine xr_il2 dX3_takeAway_32 ?_
        refine xr_il4 dX3_takeAway_33 ?_
        refine xr_ishr dX3_takeAway_35 ?_
        refine xr_ic1 dX3_takeAway_36 ?_
        refine xr_iand dX3_takeAway_37 ?_
        refine xr_ifne (tgt := 65) dX3_takeAway_38 (by decide) (fun zc38 => ?_) (fun zc38 => ?_)
        · skip
          refine xr_inc4 dX3_takeAway_65 (nI_inc k) (by decide) rfl ?_
          refine xr_goto (tgt := 15) dX3_takeAway_68 (by decide) ?_
          have hi := ih (k + 1) (by omega)
          unfold tk at hi
          rw [if_neg zc38] at hi
          exact hi
        · skip
          refine xr_al0 dX3_takeAway_41 ?_
          refine xr_get o0 fX3_9 rfl dX3_takeAway_42 ?_
          refine xr_il1 dX3_takeAway_45 ?_
          refine xr_ic5 dX3_takeAway_46 ?_
          refine xr_imul dX3_takeAway_47 ?_
          refine xr_il3 dX3_takeAway_48 ?_
          refine xr_iadd dX3_takeAway_49 ?_
          refine xr_al0 dX3_takeAway_50 ?_
          refine xr_get o0 fX3_9 rfl dX3_takeAway_51 ?_
          refine xr_il1 dX3_takeAway_54 ?_
          refine xr_ic5 dX3_takeAway_55 ?_
          refine xr_imul dX3_takeAway_56 ?_
          refine xr_il4 dX3_takeAway_57 ?_
          refine xr_iadd dX3_takeAway_59 ?_
          refine xr_iald o1 (xix_sk hs hk5) dX3_takeAway_60 ?_
          refine xr_iast o1 (xix_sk hs (by omega)) dX3_takeAway_61 ?_
          refine xT.nm (fun zh1 zg1 => ?_)
          have o0 := xg_ne zg1 (by omega) o0
          have o1 := xg_eq zg1
          have o2 := xg_ne zg1 (by omega) o2
          refine xr_inc3 dX3_takeAway_62 (nI_inc _) (by decide) rfl ?_
          refine xr_inc4 dX3_takeAway_65 (nI_inc k) (by decide) rfl ?_
          refine xr_goto (tgt := 15) dX3_takeAway_68 (by decide) ?_
          have hi := ih (k + 1) (by omega)
          unfold tk at hi
          rw [if_pos zc38] at hi
          rw [zg1, xup_xup]
          exact hi
set_option maxRecDepth 20000 in
theorem s_takeAway {K : xK} {B : Nat} {l : Launch} {h : xH} {a : Nat} {σ : xs} (H : xHill K h a σ) (ok : hOk σ) {s : Nat} (hs : s < 2) (g : Int32) : xV K B l 0 mX3_takeAway 0 0 (a) [.int (nI s), .int g] h (xQv (xpH K h a (hTake σ s g))) := by
  obtain ⟨o0, o1, o2⟩ := id H
  unfold hO at o0; unfold hW at o1; unfold hN at o2
  refine ⟨⟨_, _, _, _, H.1, rfl⟩, qX3_takeAway, ?_⟩
  refine xS.intro RX3 false ⟨rfl, rfl, by decide, by decide, Nat.le_of_ble_eq_true rfl⟩ (ls := [some (.ref a), some (.int (nI s)), some (.int g), none, none]) rfl ?_
  refine xr_il1 dX3_takeAway_0 ?_
  refine xr_ifeq (tgt := 10) dX3_takeAway_1 (by decide) (fun zc1 => ?_) (fun zc1 => ?_)
  · skip
    refine xr_ic0 dX3_takeAway_10 ?_
    refine xr_is3 dX3_takeAway_11 (by decide) rfl ?_
    refine xr_ic0 dX3_takeAway_12 ?_
    refine xr_is4 dX3_takeAway_13 (by decide) rfl ?_
    have hi := lp_takeAway (B := B) (l := l) H ok hs g (ln σ s) 0 (by omega)
    have e0 : xup h (a + 1) (.inl (K.2 1, 10, .inl (tk σ s g 0).1)) = h := xup_id H.2.1
    rw [e0] at hi
    exact hi
  · skip
    refine xr_il1 dX3_takeAway_4 ?_
    refine xr_ic1 dX3_takeAway_5 ?_
    refine xr_icmpeq (tgt := 10) dX3_takeAway_6 (by decide) (fun zc6 => ?_) (fun zc6 => ?_)
    · skip
      refine xr_ic0 dX3_takeAway_10 ?_
      refine xr_is3 dX3_takeAway_11 (by decide) rfl ?_
      refine xr_ic0 dX3_takeAway_12 ?_
      refine xr_is4 dX3_takeAway_13 (by decide) rfl ?_
      have hi := lp_takeAway (B := B) (l := l) H ok hs g (ln σ s) 0 (by omega)
      have e0 : xup h (a + 1) (.inl (K.2 1, 10, .inl (tk σ s g 0).1)) = h := xup_id H.2.1
      rw [e0] at hi
      exact hi
    · skip
      exact absurd (side2 hs zc1) zc6
theorem hOk_upd {σ : xs} (ok : hOk σ) {i : Nat} (hi : 13 ≤ i) (x : Int32) : hOk (upd σ i x) := by
  refine ⟨fun s hs => ?_, ?_⟩
  · unfold ln
    rw [upd_hi _ _ (by omega)]
    exact ok.1 s hs
  · unfold sn
    rw [upd_hi _ _ (by omega)]
    exact ok.2
theorem hOk_up0 {σ : xs} (ok : hOk σ) {i : Nat} (hi : i < 10) (x : Int32) : hOk (upd σ i x) := by
  refine ⟨fun s hs => ?_, ?_⟩
  · unfold ln
    rw [upd_hi _ _ (by omega)]
    exact ok.1 s hs
  · unfold sn
    rw [upd_hi _ _ (by omega)]
    exact ok.2
theorem hOk_upn {σ : xs} (ok : hOk σ) {s n : Nat} (hs : s < 2) (hn : n ≤ 5) : hOk (upd σ (10 + s) (nI n)) := by
  refine ⟨fun t ht => ?_, ?_⟩
  · unfold ln
    by_cases e : t = s
    · subst e
      rw [pk_us]
      rw [nI_clamp (by omega)]
      exact ⟨rfl, hn⟩
    · rw [upd_hi _ _ (by omega)]
      exact ok.1 t ht
  · unfold sn
    rw [upd_hi _ _ (by omega)]
    exact ok.2
theorem hOk_tk {σ : xs} (ok : hOk σ) {s : Nat} (hs : s < 2) (g : Int32) : hOk (tk σ s g (ln σ s)).1 := by
  have h5 := (ok.1 s hs).2
  refine ⟨fun t ht => ?_, ?_⟩
  · unfold ln at *
    rw [tk_hi σ g hs h5 (by omega)]
    exact ok.1 t ht
  · unfold sn
    rw [tk_hi σ g hs h5 (by omega)]
    exact ok.2
theorem hOk_take {σ : xs} (ok : hOk σ) {s : Nat} (hs : s < 2) (g : Int32) : hOk (hTake σ s g) := by
  have h5 := (ok.1 s hs).2
  have hj := tk_le σ s g (ln σ s)
  exact hOk_upn (hOk_tk ok hs g) hs (by omega)
def hExch (σ : xs) (side i j : Int32) : xs := hWeigh (hWeigh σ side i (hWat σ side j)) side j (hWat σ side i)
set_option maxRecDepth 20000 in
theorem s_exchange {K : xK} {B : Nat} {l : Launch} {h : xH} {a : Nat} {σ : xs} (H : xHill K h a σ) (side i j : Int32) : xV K B l 3 mX3_exchange 0 0 (a) [.int side, .int i, .int j] h (xQv (xpH K h a (hExch σ side i j))) := by
  obtain ⟨o0, o1, o2⟩ := id H
  unfold hO at o0; unfold hW at o1; unfold hN at o2
  refine ⟨⟨_, _, _, _, H.1, rfl⟩, qX3_exchange, ?_⟩
  refine xS.intro RX3 false ⟨rfl, rfl, by decide, by decide, Nat.le_of_ble_eq_true rfl⟩ (ls := [some (.ref a), some (.int side), some (.int i), some (.int j), none]) rfl ?_
  refine xr_al0 dX3_exchange_0 ?_
  refine xr_il1 dX3_exchange_1 ?_
  refine xr_il2 dX3_exchange_2 ?_
  refine xr_Vi2 (s_weightAt H _ _) kX3_82 (by decide) (Nat.le_of_ble_eq_true rfl) (Nat.zero_add _) (Nat.zero_add _) dX3_exchange_3 ?_
  refine xr_is4 dX3_exchange_6 (by decide) rfl ?_
  refine xr_al0 dX3_exchange_8 ?_
  refine xr_il1 dX3_exchange_9 ?_
  refine xr_il2 dX3_exchange_10 ?_
  refine xr_al0 dX3_exchange_11 ?_
  refine xr_il1 dX3_exchange_12 ?_
  refine xr_il3 dX3_exchange_13 ?_
  refine xr_Vi2 (s_weightAt H _ _) kX3_82 (by decide) (Nat.le_of_ble_eq_true rfl) (Nat.zero_add _) (Nat.zero_add _) dX3_exchange_14 ?_
  refine xr_Vv3 (s_weigh H _ _ _) kX3_58 (by decide) (Nat.le_of_ble_eq_true rfl) (Nat.zero_add _) (Nat.zero_add _) dX3_exchange_17 ?_
  refine xr_al0 dX3_exchange_20 ?_
  refine xr_il1 dX3_exchange_21 ?_
  refine xr_il3 dX3_exchange_22 ?_
  refine xr_il4 dX3_exchange_23 ?_
  refine xr_Vv3 (s_weigh (xpH_at K h a _) _ _ _) kX3_58 (by decide) (Nat.le_of_ble_eq_true rfl) (Nat.zero_add _) (Nat.zero_add _) dX3_exchange_25 ?_
  refine xr_vret dX3_exchange_28 rfl ?_
  exact ⟨rfl, xpH_pH _ _ _ _ _⟩
def hTakeNext (σ : xs) : xs := hTake (hTake σ 0 (hNext σ 0)) 1 (hNext (hTake σ 0 (hNext σ 0)) 1)
theorem hOk_takeNext {σ : xs} (ok : hOk σ) : hOk (hTakeNext σ) := hOk_take (hOk_take ok (by decide) _) (by decide) _
set_option maxRecDepth 20000 in
theorem s_takeNext {K : xK} {B : Nat} {l : Launch} {h : xH} {a : Nat} {σ : xs} (H : xHill K h a σ) (ok : hOk σ) : xV K B l 2 mX3_takeNext 0 0 (a) [] h (xQv (xpH K h a (hTakeNext σ))) := by
  obtain ⟨o0, o1, o2⟩ := id H
  unfold hO at o0; unfold hW at o1; unfold hN at o2
  refine ⟨⟨_, _, _, _, H.1, rfl⟩, qX3_takeNext, ?_⟩
  refine xS.intro RX3 false ⟨rfl, rfl, by decide, by decide, Nat.le_of_ble_eq_true rfl⟩ (ls := [some (.ref a)]) rfl ?_
  refine xr_al0 dX3_takeNext_0 ?_
  refine xr_ic0 dX3_takeNext_1 ?_
  refine xr_al0 dX3_takeNext_2 ?_
  refine xr_ic0 dX3_takeNext_3 ?_
  refine xr_Vi1 (s_nextOf H _) kX3_85 (by decide) (Nat.le_of_ble_eq_true rfl) (Nat.zero_add _) (Nat.zero_add _) dX3_takeNext_4 ?_
  refine xr_Vv2 (s_takeAway H ok (s := 0) (by decide) _) kX3_88 (by decide) (Nat.le_of_ble_eq_true rfl) (Nat.zero_add _) (Nat.zero_add _) dX3_takeNext_7 ?_
  refine xr_al0 dX3_takeNext_10 ?_
  refine xr_ic1 dX3_takeNext_11 ?_
  refine xr_al0 dX3_takeNext_12 ?_
  refine xr_ic1 dX3_takeNext_13 ?_
  refine xr_Vi1 (s_nextOf (xpH_at K h a _) _) kX3_85 (by decide) (Nat.le_of_ble_eq_true rfl) (Nat.zero_add _) (Nat.zero_add _) dX3_takeNext_14 ?_
  refine xr_Vv2 (s_takeAway (xpH_at K h a _) (hOk_take ok (by decide) _) (s := 1) (by decide) _) kX3_88 (by decide) (Nat.le_of_ble_eq_true rfl) (Nat.zero_add _) (Nat.zero_add _) dX3_takeNext_17 ?_
  refine xr_vret dX3_takeNext_20 rfl ?_
  exact ⟨rfl, xpH_pH _ _ _ _ _⟩
def hT1 (σ : xs) (x y : Int32) : xs := upd σ 14 (σ 14 - hWater σ x y)
def hT2 (σ : xs) (x : Int32) : xs := upd σ 15 (iMin 9999 (σ 15 + wt σ 0 x))
def hT3 (σ : xs) (y : Int32) : xs := upd σ 16 (iMin 9999 (σ 16 + wt σ 1 y))
def hT6 (σ : xs) : xs := upd σ 17 (σ 17 + 1)
def hTravel (σ : xs) (x y : Int32) : xs := hT6 (hTake (hTake (hT3 (hT2 (hT1 σ x y) x) y) 0 x) 1 y)
theorem hOk_travel {σ : xs} (ok : hOk σ) (x y : Int32) : hOk (hTravel σ x y) := hOk_upd (hOk_take (hOk_take (hOk_upd (hOk_upd (hOk_upd ok (by decide) _) (by decide) _) (by decide) _) (by decide) _) (by decide) _) (by decide) _
set_option maxRecDepth 20000 in
theorem s_travel {K : xK} {B : Nat} {l : Launch} {h : xH} {a : Nat} {σ : xs} (H : xHill K h a σ) (ok : hOk σ) (x y : Int32) : xV K B l 2 mX3_travel 0 0 (a) [.int x, .int y] h (xQv (xpH K h a (hTravel σ x y))) := by
  obtain ⟨o0, o1, o2⟩ := id H
  unfold hO at o0; unfold hW at o1; unfold hN at o2
  refine ⟨⟨_, _, _, _, H.1, rfl⟩, qX3_travel, ?_⟩
  refine xS.intro RX3 false ⟨rfl, rfl, by decide, by decide, Nat.le_of_ble_eq_true rfl⟩ (ls := [some (.ref a), some (.int x), some (.int y)]) rfl ?_
  refine xr_al0 dX3_travel_0 ?_
  refine xr_dup dX3_travel_1 rfl ?_
  refine xr_get o0 fX3_25 rfl dX3_travel_2 ?_
  refine xr_al0 dX3_travel_5 ?_
  refine xr_il1 dX3_travel_6 ?_
  refine xr_il2 dX3_travel_7 ?_
  refine xr_Vi2 (s_waterFor H ok _ _) kX3_92 (by decide) (Nat.le_of_ble_eq_true rfl) (Nat.zero_add _) (Nat.zero_add _) dX3_travel_8 ?_
  refine xr_isub dX3_travel_11 ?_
  refine xr_put o0 fX3_25 (Nat.le_of_ble_eq_true rfl) rfl rfl dX3_travel_12 ?_
  refine xT.nm (fun zh1 zg1 => ?_)
  have o0 := xg_eq zg1
  have o1 := xg_ne zg1 (by omega) o1
  have o2 := xg_ne zg1 (by omega) o2
  rw [zg1]
  refine xT.equiv (hill_f H (i := 14) (by decide) (σ 14 - hWater σ x y) (by simp [hO, upd, iMin])) ?_
  have H1 := xpH_at K h a (hT1 σ x y)
  change xT _ _ _ _ _ _ _ _ _ _ _ _ _ _ _ _ _ (xpH K h a (hT1 σ x y))
  obtain ⟨o0, o1, o2⟩ := id H1
  unfold hO at o0; unfold hW at o1; unfold hN at o2
  have ok1 : hOk (hT1 σ x y) := hOk_upd ok (by decide) _
  refine xr_al0 dX3_travel_15 ?_
  refine xr_sipush (v := 9999) dX3_travel_16 (by decide) ?_
  refine xr_al0 dX3_travel_19 ?_
  refine xr_get o0 fX3_34 rfl dX3_travel_20 ?_
  refine xr_al0 dX3_travel_23 ?_
  refine xr_ic0 dX3_travel_24 ?_
  refine xr_il1 dX3_travel_25 ?_
  refine xr_Vi2 (s_weightOf H1 ok1 (s := 0) (by decide) _) kX3_76 (by decide) (Nat.le_of_ble_eq_true rfl) (Nat.zero_add _) (Nat.zero_add _) dX3_travel_26 ?_
  refine xr_iadd dX3_travel_29 ?_
  refine xr_min kmX3_62 ms_min wz_J9 mc_min (by decide) (Nat.le_of_ble_eq_true rfl) dX3_travel_30 ?_
  refine xr_put o0 fX3_34 (Nat.le_of_ble_eq_true rfl) rfl rfl dX3_travel_33 ?_
  refine xT.nm (fun zh2 zg2 => ?_)
  have o0 := xg_eq zg2
  have o1 := xg_ne zg2 (by omega) o1
  have o2 := xg_ne zg2 (by omega) o2
  rw [zg2]
  refine xT.equiv (hill_f H1 (i := 15) (by decide) (iMin 9999 ((hT1 σ x y) 15 + wt (hT1 σ x y) 0 x)) (by simp [hO, upd, iMin])) ?_
  rw [xpH_pH]
  have H2 := xpH_at K h a (hT2 (hT1 σ x y) x)
  change xT _ _ _ _ _ _ _ _ _ _ _ _ _ _ _ _ _ (xpH K h a (hT2 (hT1 σ x y) x))
  obtain ⟨o0, o1, o2⟩ := id H2
  unfold hO at o0; unfold hW at o1; unfold hN at o2
  have ok2 : hOk (hT2 (hT1 σ x y) x) := hOk_upd ok1 (by decide) _
  refine xr_al0 dX3_travel_36 ?_
  refine xr_sipush (v := 9999) dX3_travel_37 (by decide) ?_
  refine xr_al0 dX3_travel_40 ?_
  refine xr_get o0 fX3_37 rfl dX3_travel_41 ?_
  refine xr_al0 dX3_travel_44 ?_
  refine xr_ic1 dX3_travel_45 ?_
  refine xr_il2 dX3_travel_46 ?_
  refine xr_Vi2 (s_weightOf H2 ok2 (s := 1) (by decide) _) kX3_76 (by decide) (Nat.le_of_ble_eq_true rfl) (Nat.zero_add _) (Nat.zero_add _) dX3_travel_47 ?_
  refine xr_iadd dX3_travel_50 ?_
  refine xr_min kmX3_62 ms_min wz_J9 mc_min (by decide) (Nat.le_of_ble_eq_true rfl) dX3_travel_51 ?_
  refine xr_put o0 fX3_37 (Nat.le_of_ble_eq_true rfl) rfl rfl dX3_travel_54 ?_
  refine xT.nm (fun zh3 zg3 => ?_)
  have o0 := xg_eq zg3
  have o1 := xg_ne zg3 (by omega) o1
  have o2 := xg_ne zg3 (by omega) o2
  rw [zg3]
  refine xT.equiv (hill_f H2 (i := 16) (by decide) (iMin 9999 ((hT2 (hT1 σ x y) x) 16 + wt (hT2 (hT1 σ x y) x) 1 y)) (by simp [hO, upd, iMin])) ?_
  rw [xpH_pH]
  have H3 := xpH_at K h a (hT3 (hT2 (hT1 σ x y) x) y)
  change xT _ _ _ _ _ _ _ _ _ _ _ _ _ _ _ _ _ (xpH K h a (hT3 (hT2 (hT1 σ x y) x) y))
  obtain ⟨o0, o1, o2⟩ := id H3
  unfold hO at o0; unfold hW at o1; unfold hN at o2
  have ok3 : hOk (hT3 (hT2 (hT1 σ x y) x) y) := hOk_upd ok2 (by decide) _
  refine xr_al0 dX3_travel_57 ?_
  refine xr_ic0 dX3_travel_58 ?_
  refine xr_il1 dX3_travel_59 ?_
  refine xr_Vv2 (s_takeAway H3 ok3 (s := 0) (by decide) _) kX3_88 (by decide) (Nat.le_of_ble_eq_true rfl) (Nat.zero_add _) (Nat.zero_add _) dX3_travel_60 ?_
  rw [xpH_pH]
  refine xr_al0 dX3_travel_63 ?_
  refine xr_ic1 dX3_travel_64 ?_
  refine xr_il2 dX3_travel_65 ?_
  refine xr_Vv2 (s_takeAway (xpH_at K h a (hTake (hT3 (hT2 (hT1 σ x y) x) y) 0 x)) (hOk_take ok3 (by decide) _) (s := 1) (by decide) _) kX3_88 (by decide) (Nat.le_of_ble_eq_true rfl) (Nat.zero_add _) (Nat.zero_add _) dX3_travel_66 ?_
  rw [xpH_pH]
  have H4 := xpH_at K h a (hTake (hTake (hT3 (hT2 (hT1 σ x y) x) y) 0 x) 1 y)
  obtain ⟨o0, o1, o2⟩ := id H4
  unfold hO at o0; unfold hW at o1; unfold hN at o2
  refine xr_al0 dX3_travel_69 ?_
  refine xr_dup dX3_travel_70 rfl ?_
  refine xr_get o0 fX3_40 rfl dX3_travel_71 ?_
  refine xr_ic1 dX3_travel_74 ?_
  refine xr_iadd dX3_travel_75 ?_
  refine xr_put o0 fX3_40 (Nat.le_of_ble_eq_true rfl) rfl rfl dX3_travel_76 ?_
  refine xT.nm (fun zh4 zg4 => ?_)
  have o0 := xg_eq zg4
  have o1 := xg_ne zg4 (by omega) o1
  have o2 := xg_ne zg4 (by omega) o2
  rw [zg4]
  refine xT.equiv (hill_f H4 (i := 17) (by decide) ((hTake (hTake (hT3 (hT2 (hT1 σ x y) x) y) 0 x) 1 y) 17 + 1) (by simp [hO, upd, iMin])) ?_
  rw [xpH_pH]
  have H4 := xpH_at K h a (hTravel σ x y)
  change xT _ _ _ _ _ _ _ _ _ _ _ _ _ _ _ _ _ (xpH K h a (hTravel σ x y))
  obtain ⟨o0, o1, o2⟩ := id H4
  unfold hO at o0; unfold hW at o1; unfold hN at o2
  refine xr_vret dX3_travel_79 rfl ?_
  exact ⟨rfl, rfl⟩
def hPass (σ : xs) (p : Int32) : xs := upd (upd σ 14 (iMin 999 (σ 14 + p))) 18 (σ 18 + 1)
theorem hOk_pass {σ : xs} (ok : hOk σ) (p : Int32) : hOk (hPass σ p) := hOk_upd (hOk_upd ok (by decide) _) (by decide) _
set_option maxRecDepth 20000 in
theorem s_passMinute {K : xK} {B : Nat} {l : Launch} {h : xH} {a : Nat} {σ : xs} (H : xHill K h a σ) (p : Int32) : xV K B l 1 mX3_passMinute 0 0 (a) [.int p] h (xQv (xpH K h a (hPass σ p))) := by
  obtain ⟨o0, o1, o2⟩ := id H
  unfold hO at o0; unfold hW at o1; unfold hN at o2
  refine ⟨⟨_, _, _, _, H.1, rfl⟩, qX3_passMinute, ?_⟩
  refine xS.intro RX3 false ⟨rfl, rfl, by decide, by decide, Nat.le_of_ble_eq_true rfl⟩ (ls := [some (.ref a), some (.int p)]) rfl ?_
  refine xr_al0 dX3_passMinute_0 ?_
  refine xr_sipush (v := 999) dX3_passMinute_1 (by decide) ?_
  refine xr_al0 dX3_passMinute_4 ?_
  refine xr_get o0 fX3_25 rfl dX3_passMinute_5 ?_
  refine xr_il1 dX3_passMinute_8 ?_
  refine xr_iadd dX3_passMinute_9 ?_
  refine xr_min kmX3_62 ms_min wz_J9 mc_min (by decide) (Nat.le_of_ble_eq_true rfl) dX3_passMinute_10 ?_
  refine xr_put o0 fX3_25 (Nat.le_of_ble_eq_true rfl) rfl rfl dX3_passMinute_13 ?_
  refine xT.nm (fun zh1 zg1 => ?_)
  have o0 := xg_eq zg1
  have o1 := xg_ne zg1 (by omega) o1
  have o2 := xg_ne zg1 (by omega) o2
  rw [zg1]
  refine xT.equiv (hill_f H (i := 14) (by decide) (iMin 999 (σ 14 + p)) (by simp [hO, upd, iMin])) ?_
  have H1 := xpH_at K h a (upd σ 14 (iMin 999 (σ 14 + p)))
  change xT _ _ _ _ _ _ _ _ _ _ _ _ _ _ _ _ _ (xpH K h a (upd σ 14 (iMin 999 (σ 14 + p))))
  obtain ⟨o0, o1, o2⟩ := id H1
  unfold hO at o0; unfold hW at o1; unfold hN at o2
  refine xr_al0 dX3_passMinute_16 ?_
  refine xr_dup dX3_passMinute_17 rfl ?_
  refine xr_get o0 fX3_43 rfl dX3_passMinute_18 ?_
  refine xr_ic1 dX3_passMinute_21 ?_
  refine xr_iadd dX3_passMinute_22 ?_
  refine xr_put o0 fX3_43 (Nat.le_of_ble_eq_true rfl) rfl rfl dX3_passMinute_23 ?_
  refine xT.nm (fun zh2 zg2 => ?_)
  have o0 := xg_eq zg2
  have o1 := xg_ne zg2 (by omega) o1
  have o2 := xg_ne zg2 (by omega) o2
  rw [zg2]
  refine xT.equiv (hill_f H1 (i := 18) (by decide) ((upd σ 14 (iMin 999 (σ 14 + p))) 18 + 1) (by simp [hO, upd, iMin])) ?_
  rw [xpH_pH]
  have H2 := xpH_at K h a (hPass σ p)
  change xT _ _ _ _ _ _ _ _ _ _ _ _ _ _ _ _ _ (xpH K h a (hPass σ p))
  obtain ⟨o0, o1, o2⟩ := id H2
  unfold hO at o0; unfold hW at o1; unfold hN at o2
  refine xr_vret dX3_passMinute_26 rfl ?_
  exact ⟨rfl, rfl⟩
