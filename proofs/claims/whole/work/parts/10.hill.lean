set_option maxRecDepth 20000 in
theorem s_waits {K : xK} {B : Nat} {l : Launch} {h : xH} {a : Nat} {σ : xs} (H : xHill K h a σ) (side : Int32) : xV K B l 0 mX3_waits 0 0 (a) [.int side] h (xQi (hWaits σ side) h) := by
  obtain ⟨o0, o1, o2⟩ := id H
  unfold hO at o0; unfold hW at o1; unfold hN at o2
  refine ⟨⟨_, _, _, _, H.1, rfl⟩, qX3_waits, ?_⟩
  refine xS.intro RX3 false ⟨rfl, rfl, by decide, by decide, Nat.le_of_ble_eq_true rfl⟩ (ls := [some (.ref a), some (.int side)]) rfl ?_
  refine xr_il1 dX3_waits_0 ?_
  refine xr_ifeq (tgt := 9) dX3_waits_1 (by decide) (fun zc1 => ?_) (fun zc1 => ?_)
  · skip
    refine xr_al0 dX3_waits_9 ?_
    refine xr_get o0 fX3_15 rfl dX3_waits_10 ?_
    refine xr_il1 dX3_waits_13 ?_
    refine xr_iald o2 (by rw [zc1]; exact xix_lit (j := 0) (by decide)) dX3_waits_14 ?_
    refine xr_goto (tgt := 19) dX3_waits_15 (by decide) ?_
    refine xr_iret dX3_waits_19 rfl ?_
    exact ⟨by rw [zc1]; rfl, rfl⟩
  · skip
    refine xr_il1 dX3_waits_4 ?_
    refine xr_ic1 dX3_waits_5 ?_
    refine xr_icmpne (tgt := 18) dX3_waits_6 (by decide) (fun zc6 => ?_) (fun zc6 => ?_)
    · skip
      refine xr_ic0 dX3_waits_18 ?_
      refine xr_iret dX3_waits_19 rfl ?_
      exact ⟨by unfold hWaits; rw [if_neg zc1, if_neg zc6], rfl⟩
    · skip
      refine xr_al0 dX3_waits_9 ?_
      refine xr_get o0 fX3_15 rfl dX3_waits_10 ?_
      refine xr_il1 dX3_waits_13 ?_
      refine xr_iald o2 (by rw [zc6]; exact xix_lit (j := 1) (by decide)) dX3_waits_14 ?_
      refine xr_goto (tgt := 19) dX3_waits_15 (by decide) ?_
      refine xr_iret dX3_waits_19 rfl ?_
      exact ⟨by rw [zc6]; rfl, rfl⟩
set_option maxRecDepth 20000 in
theorem s_waitsInAll {K : xK} {B : Nat} {l : Launch} {h : xH} {a : Nat} {σ : xs} (H : xHill K h a σ) : xV K B l 1 mX3_waitsInAll 0 0 (a) [] h (xQi (σ 10 + σ 11) h) := by
  obtain ⟨o0, o1, o2⟩ := id H
  unfold hO at o0; unfold hW at o1; unfold hN at o2
  refine ⟨⟨_, _, _, _, H.1, rfl⟩, qX3_waitsInAll, ?_⟩
  refine xS.intro RX3 false ⟨rfl, rfl, by decide, by decide, Nat.le_of_ble_eq_true rfl⟩ (ls := [some (.ref a)]) rfl ?_
  refine xr_al0 dX3_waitsInAll_0 ?_
  refine xr_ic0 dX3_waitsInAll_1 ?_
  refine xr_Vi1 (s_waits H _) kX3_46 (by decide) (Nat.le_of_ble_eq_true rfl) (Nat.zero_add _) (Nat.zero_add _) dX3_waitsInAll_2 ?_
  refine xr_al0 dX3_waitsInAll_5 ?_
  refine xr_ic1 dX3_waitsInAll_6 ?_
  refine xr_Vi1 (s_waits H _) kX3_46 (by decide) (Nat.le_of_ble_eq_true rfl) (Nat.zero_add _) (Nat.zero_add _) dX3_waitsInAll_7 ?_
  refine xr_iadd dX3_waitsInAll_10 ?_
  refine xr_iret dX3_waitsInAll_11 rfl ?_
  exact ⟨rfl, rfl⟩
set_option maxRecDepth 20000 in
theorem s_nobodyWaits {K : xK} {B : Nat} {l : Launch} {h : xH} {a : Nat} {σ : xs} (H : xHill K h a σ) : xV K B l 2 mX3_nobodyWaits 0 0 (a) [] h (xQi (bI (σ 10 + σ 11 = 0)) h) := by
  obtain ⟨o0, o1, o2⟩ := id H
  unfold hO at o0; unfold hW at o1; unfold hN at o2
  refine ⟨⟨_, _, _, _, H.1, rfl⟩, qX3_nobodyWaits, ?_⟩
  refine xS.intro RX3 false ⟨rfl, rfl, by decide, by decide, Nat.le_of_ble_eq_true rfl⟩ (ls := [some (.ref a)]) rfl ?_
  refine xr_al0 dX3_nobodyWaits_0 ?_
  refine xr_Vi0 (s_waitsInAll H) kX3_50 (by decide) (Nat.le_of_ble_eq_true rfl) (Nat.zero_add _) (Nat.zero_add _) dX3_nobodyWaits_1 ?_
  refine xr_ifne (tgt := 11) dX3_nobodyWaits_4 (by decide) (fun zc4 => ?_) (fun zc4 => ?_)
  · skip
    refine xr_ic0 dX3_nobodyWaits_11 ?_
    refine xr_zret dX3_nobodyWaits_12 rfl (by first | rfl | decide | assumption) ?_
    exact ⟨by rw [bI_f zc4], rfl⟩
  · skip
    refine xr_ic1 dX3_nobodyWaits_7 ?_
    refine xr_goto (tgt := 12) dX3_nobodyWaits_8 (by decide) ?_
    refine xr_zret dX3_nobodyWaits_12 rfl (by first | rfl | decide | assumption) ?_
    exact ⟨by rw [bI_t zc4], rfl⟩
