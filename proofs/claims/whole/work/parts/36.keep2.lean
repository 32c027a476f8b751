/-! keep, again (written by wip/whole/car15.py) -/
set_option maxRecDepth 20000 in
theorem lp_keep {K : xK} {B : Nat} {l : Launch} {h0 h : xH} {X D : Nat} {tn : Nat} {tf : Nat → Int32} {rk : Int32} {rv : Nat → Int64} {σ : xs} {β : xs} {γ : xs} {pn : Nat} {τ : Nat → xs} {ks : Nat → Bool} {κ : Nat → xs} {φ : xs → Int32} {hn : Nat} {hf : Nat → Int32} {hg : Nat → Int32} {wn : Nat} {wf : Nat → Int32} {wg : Nat → Int32} (W : xCw K h0 h X D tn tf rk rv σ β γ pn τ ks κ φ hn hf hg wn wf wg) {i : Nat} (hi : i < 2) : xT K B l 3 RX11 false cX11_keep 3 (some .boolean) 3 21 3 21 (xPi (fun zr g => zr = 1 ∧ xCw K h0 g X D tn tf rk rv σ β γ pn τ (kU ks i) (kX κ i σ) φ hn hf hg wn wf wg)) 15 [some (.ref X), some (.int (nI i)), none] [] h := by
  obtain ⟨pm, pp, kq, τ', h1, h2, Hs, h4, h5⟩ := id W.Hp
  have pXD := W.pXD
  have pD := W.pD
  have zoX := W.oX
  have zoH := W.Hh.1
  by_cases hk : ks i = true
  · obtain ⟨z1, z2, z3, z4⟩ := h4 i hi hk
    have zk0 := z1.1
    refine xr_al0 dX11_keep_15 ?_
    refine xr_get zoX fX11_43 rfl dX11_keep_16 ?_
    refine xr_il1 dX11_keep_19 ?_
    refine xr_aald Hs (xix_nI (n := 2) hi (by decide)) dX11_keep_20 ?_
    refine xr_eqv (kf_t ks kq hk) ?_
    refine xr_nonnull (tgt := 34) dX11_keep_21 (by decide) ?_
    refine xr_al0 dX11_keep_34 ?_
    refine xr_get zoX fX11_43 rfl dX11_keep_35 ?_
    refine xr_il1 dX11_keep_38 ?_
    refine xr_aald Hs (xix_nI (n := 2) hi (by decide)) dX11_keep_39 ?_
    refine xr_eqv (kf_t ks kq hk) ?_
    refine xr_as2 dX11_keep_40 (by decide) rfl ?_
    refine xr_al2 dX11_keep_41 ?_
    refine xr_al0 dX11_keep_42 ?_
    refine xr_get zoX fX11_26 rfl dX11_keep_43 ?_
    refine xr_Vv1 (s_copyFrom z1 W.Hh (by omega)) kX11_179 (by decide) (Nat.le_of_ble_eq_true rfl) (Nat.zero_add _) (Nat.zero_add _) dX11_keep_46 ?_
    refine xT.nm (fun zh1 zg1 => ?_)
    have Hs := xh_ne zg1 (by omega) Hs
    have zk0 := xh_eq zg1
    have zoX := xh_ne zg1 (by omega) zoX
    have zoH := xh_ne zg1 (by omega) zoH
    refine xr_al0 dX11_keep_49 ?_
    refine xr_get zoX fX11_43 rfl dX11_keep_50 ?_
    refine xr_il1 dX11_keep_53 ?_
    refine xr_al2 dX11_keep_54 ?_
    refine xr_aast Hs zk0 (xix_nI (n := 2) hi (by decide)) dX11_keep_55 ?_
    refine xT.nm (fun zh2 zg2 => ?_)
    have zoX := xg_ne zg2 (by omega) zoX
    have Hs := xg_eq zg2
    have zoH := xg_ne zg2 (by omega) zoH
    have zk0 := xg_ne zg2 (by omega) zk0
    refine xr_ic1 dX11_keep_56 ?_
    refine xr_zret dX11_keep_57 rfl (by first | rfl | decide | assumption) ?_
    have Hs2 := xg_eq zg2
    have L : xLo K zh2 X D pn τ (kU ks i) (kX κ i σ) := keep_lo (x := kq i) hi h1 h2 h4 h5 pXD pD (by rw [xg_1 zg2, (fBH zg1).1]; exact Nat.le_refl _) (fun c c1 c2 c3 => (xg_ne zg2 (by omega) rfl).trans ((fBH zg1).2.1 c (by omega))) (by rw [← kf_up]; exact Hs2) ((xh_at zg1).fr (fun c _ _ => xg_ne zg2 (by omega) rfl)) z2 (by rw [xg_1 zg2, (fBH zg1).1]; exact z3) z4 (fun j hj e q => by
      rcases (show i = 0 ∨ i = 1 by omega) with rfl | rfl
      · rcases (show j = 1 by omega) with rfl
        exact h5 hk q
      · rcases (show j = 0 by omega) with rfl
        exact (h5 q hk).symm)
    exact ⟨_, rfl, rfl, W.lo (fun c c1 c2 => (xg_ne zg2 (by omega) rfl).trans ((fBH zg1).2.1 c (by omega))) (by rw [xg_1 zg2, (fBH zg1).1]; exact Nat.le_refl _) L W.pop (fun j hj q => by
      unfold kX
      by_cases e : j = i
      · rw [if_pos e]
        exact W.pok
      · rw [if_neg e]
        unfold kU at q
        rw [if_neg e] at q
        exact W.pok2 j hj q)⟩
  · skip
    refine xr_al0 dX11_keep_15 ?_
    refine xr_get zoX fX11_43 rfl dX11_keep_16 ?_
    refine xr_il1 dX11_keep_19 ?_
    refine xr_aald Hs (xix_nI (n := 2) hi (by decide)) dX11_keep_20 ?_
    refine xr_eqv (kf_n ks kq hk) ?_
    refine xr_nonnullN dX11_keep_21 ?_
    refine xr_new (rc' := 2) (rs' := 12) (fs := [.null, .null, .int 0, .int 0, .int 0, .int 0, .int 0, .int 0, .int 0]) clX3 wX11_23 wi_X3 wz_X3 (def_X3) rfl rfl dX11_keep_24 ?_
    refine xT.nm (fun zh1 zg1 => ?_)
    have zoX := xn_ne zg1 (by omega) zoX
    have Hs := xn_ne zg1 (by omega) Hs
    have zoH := xn_ne zg1 (by omega) zoH
    have q3 := xn_eq zg1
    
    refine xr_dup dX11_keep_27 rfl ?_
    refine xr_Iv0 (s_Hill (xn_1 zg1) q3) kX11_25 (by decide) (Nat.le_of_ble_eq_true rfl) (rc' := 0) (rs' := 0) rfl rfl dX11_keep_28 ?_
    refine xT.nm (fun zh2 zg2 => ?_)
    have Hs := xh_ne zg2 (by omega) Hs
    have zoX := xh_ne zg2 (by omega) zoX
    have zoH := xh_ne zg2 (by omega) zoH
    have q3 := xh_eq zg2
    refine xr_goto (tgt := 40) dX11_keep_31 (by decide) ?_
    refine xr_as2 dX11_keep_40 (by decide) rfl ?_
    refine xr_al2 dX11_keep_41 ?_
    refine xr_al0 dX11_keep_42 ?_
    refine xr_get zoX fX11_26 rfl dX11_keep_43 ?_
    refine xr_Vv1 (s_copyFrom (xh_at zg2) (W.Hh.fr (fun c _ _ => ((fBH zg2).2.1 c (by omega)).trans (xn_ne zg1 (by omega) rfl))) (by omega)) kX11_179 (by decide) (Nat.le_of_ble_eq_true rfl) (Nat.zero_add _) (Nat.zero_add _) dX11_keep_46 ?_
    refine xT.nm (fun zh3 zg3 => ?_)
    have Hs := xh_ne zg3 (by omega) Hs
    have zoX := xh_ne zg3 (by omega) zoX
    have zoH := xh_ne zg3 (by omega) zoH
    have q3 := xh_eq zg3
    refine xr_al0 dX11_keep_49 ?_
    refine xr_get zoX fX11_43 rfl dX11_keep_50 ?_
    refine xr_il1 dX11_keep_53 ?_
    refine xr_al2 dX11_keep_54 ?_
    refine xr_aast Hs q3 (xix_nI (n := 2) hi (by decide)) dX11_keep_55 ?_
    refine xT.nm (fun zh4 zg4 => ?_)
    have zoX := xg_ne zg4 (by omega) zoX
    have Hs := xg_eq zg4
    have zoH := xg_ne zg4 (by omega) zoH
    have q3 := xg_ne zg4 (by omega) q3
    refine xr_ic1 dX11_keep_56 ?_
    refine xr_zret dX11_keep_57 rfl (by first | rfl | decide | assumption) ?_
    have Hs2 := xg_eq zg4
    have L : xLo K zh4 X D pn τ (kU ks i) (kX κ i σ) := keep_lo (x := h.1) hi h1 h2 h4 h5 pXD pD (by rw [xg_1 zg4, (fBH zg3).1, (fBH zg2).1]; omega) (fun c c1 c2 c3 => (xg_ne zg4 (by omega) rfl).trans (((fBH zg3).2.1 c (by omega)).trans (((fBH zg2).2.1 c (by omega)).trans (xn_ne zg1 (by omega) rfl)))) (by rw [← kf_up]; exact Hs2) ((xh_at zg3).fr (fun c _ _ => xg_ne zg4 (by omega) rfl)) pD (by rw [xg_1 zg4, (fBH zg3).1, (fBH zg2).1]; exact Nat.le_refl _) (fun j hj => by have := h1.2.2.2.2.2.2 j hj; omega) (fun j hj e q => by have := (h4 j hj q).2.2.1; omega)
    exact ⟨_, rfl, rfl, W.lo (fun c c1 c2 => (xg_ne zg4 (by omega) rfl).trans (((fBH zg3).2.1 c (by omega)).trans (((fBH zg2).2.1 c (by omega)).trans (xn_ne zg1 (by omega) rfl)))) (by rw [xg_1 zg4, (fBH zg3).1, (fBH zg2).1]; omega) L W.pop (fun j hj q => by
      unfold kX
      by_cases e : j = i
      · rw [if_pos e]
        exact W.pok
      · rw [if_neg e]
        unfold kU at q
        rw [if_neg e] at q
        exact W.pok2 j hj q)⟩
set_option maxRecDepth 20000 in
theorem s_keep {K : xK} {B : Nat} {l : Launch} {h0 h : xH} {X D : Nat} {tn : Nat} {tf : Nat → Int32} {rk : Int32} {rv : Nat → Int64} {σ : xs} {β : xs} {γ : xs} {pn : Nat} {τ : Nat → xs} {ks : Nat → Bool} {κ : Nat → xs} {φ : xs → Int32} {hn : Nat} {hf : Nat → Int32} {hg : Nat → Int32} {wn : Nat} {wf : Nat → Int32} {wg : Nat → Int32} (W : xCw K h0 h X D tn tf rk rv σ β γ pn τ ks κ φ hn hf hg wn wf wg) (x : Int32) : xV K B l 3 mX11_keep 3 21 (X) [.int x] h (xPi (fun zr g => zr = bI (¬ x < 0 ∧ x < 2) ∧ xCw K h0 g X D tn tf rk rv σ β γ pn τ (if ¬ x < 0 ∧ x < 2 then kU ks x.toNatClampNeg else ks) (if ¬ x < 0 ∧ x < 2 then kX κ x.toNatClampNeg σ else κ) φ hn hf hg wn wf wg)) := by
  obtain ⟨pm, pp, kq, τ', h1, h2, Hs, h4, h5⟩ := id W.Hp
  have zoX := W.oX
  refine ⟨⟨_, _, _, _, W.oX, rfl⟩, qX11_keep, ?_⟩
  refine xS.intro RX11 false ⟨rfl, rfl, by decide, by decide, Nat.le_of_ble_eq_true rfl⟩ (ls := [some (.ref X), some (.int x), none]) rfl ?_
  refine xr_il1 dX11_keep_0 ?_
  refine xr_iflt (tgt := 13) dX11_keep_1 (by decide) (fun zc1 => ?_) (fun zc1 => ?_)
  · skip
    refine xr_ic0 dX11_keep_13 ?_
    refine xr_zret dX11_keep_14 rfl (by first | rfl | decide | assumption) ?_
    have zn : ¬ (¬ x < 0 ∧ x < 2) := fun q => q.1 zc1
    refine ⟨_, rfl, (bI_f zn).symm, ?_⟩
    rw [if_neg zn, if_neg zn]
    exact W
  · skip
    refine xr_il1 dX11_keep_4 ?_
    refine xr_al0 dX11_keep_5 ?_
    refine xr_get zoX fX11_43 rfl dX11_keep_6 ?_
    refine xr_alen Hs 4 rfl (v := 2) rfl dX11_keep_9 ?_
    refine xr_icmplt (tgt := 15) dX11_keep_10 (by decide) (fun zc10 => ?_) (fun zc10 => ?_)
    · skip
      rcases pk_ix x (n := 2) (by decide) with z | z | ⟨i, hi, rfl⟩
      · exact absurd z zc1
      · exact absurd zc10 (Int32.not_lt.mpr z)
      · have zy : ¬ nI i < 0 ∧ nI i < 2 := ⟨zc1, zc10⟩
        refine xT.post (fun r g q => ?_) (lp_keep W hi)
        obtain ⟨v, q1, q2, q3⟩ := q
        refine ⟨v, q1, ?_, ?_⟩
        · rw [q2, bI_t zy]
        · rw [if_pos zy, if_pos zy, nI_clamp (by omega)]
          exact q3
    · skip
      refine xr_ic0 dX11_keep_13 ?_
      refine xr_zret dX11_keep_14 rfl (by first | rfl | decide | assumption) ?_
      have zn : ¬ (¬ x < 0 ∧ x < 2) := fun q => zc10 q.2
      refine ⟨_, rfl, (bI_f zn).symm, ?_⟩
      rw [if_neg zn, if_neg zn]
      exact W
set_option maxRecDepth 20000 in
theorem lp_again {K : xK} {B : Nat} {l : Launch} {h0 h : xH} {X D : Nat} {tn : Nat} {tf : Nat → Int32} {rk : Int32} {rv : Nat → Int64} {σ : xs} {β : xs} {γ : xs} {pn : Nat} {τ : Nat → xs} {ks : Nat → Bool} {κ : Nat → xs} {φ : xs → Int32} {hn : Nat} {hf : Nat → Int32} {hg : Nat → Int32} {wn : Nat} {wf : Nat → Int32} {wg : Nat → Int32} (W : xCw K h0 h X D tn tf rk rv σ β γ pn τ ks κ φ hn hf hg wn wf wg) {i : Nat} (hi : i < 2) : xT K B l 3 RX11 false cX11_again 2 (some .boolean) 0 0 0 0 (xPi (fun zr g => zr = bI (ks i = true) ∧ xCw K h0 g X D tn tf rk rv (if ks i = true then κ i else σ) β γ (if ks i = true then 0 else pn) τ ks κ φ hn hf hg wn wf wg)) 13 [some (.ref X), some (.int (nI i))] [] h := by
  obtain ⟨pm, pp, kq, τ', h1, h2, Hs, h4, h5⟩ := id W.Hp
  have pXD := W.pXD
  by_cases hk : ks i = true
  · obtain ⟨z1, z2, z3, z4⟩ := h4 i hi hk
    refine xr_al0 dX11_again_13 ?_
    refine xr_get W.oX fX11_43 rfl dX11_again_14 ?_
    refine xr_il1 dX11_again_17 ?_
    refine xr_aald Hs (xix_nI (n := 2) hi (by decide)) dX11_again_18 ?_
    refine xr_eqv (kf_t ks kq hk) ?_
    refine xr_nonnull (tgt := 24) dX11_again_19 (by decide) ?_
    refine xr_al0 dX11_again_24 ?_
    refine xr_get W.oX fX11_26 rfl dX11_again_25 ?_
    refine xr_al0 dX11_again_28 ?_
    refine xr_get W.oX fX11_43 rfl dX11_again_29 ?_
    refine xr_il1 dX11_again_32 ?_
    refine xr_aald Hs (xix_nI (n := 2) hi (by decide)) dX11_again_33 ?_
    refine xr_eqv (kf_t ks kq hk) ?_
    refine xr_Vv1 (s_copyFrom W.Hh z1 (by omega)) kX11_179 (by decide) (Nat.le_of_ble_eq_true rfl) (Nat.zero_add _) (Nat.zero_add _) dX11_again_34 ?_
    refine xT.nm (fun zh1 zg1 => ?_)
    have W := W.uh (fBH zg1) (W.pok2 i hi hk)
    refine xr_al0 dX11_again_37 ?_
    refine xr_get W.oX fX11_39 rfl dX11_again_38 ?_
    refine xr_Vpv0 (wForget W) kX11_125 (by decide) (Nat.le_of_ble_eq_true rfl) (Nat.zero_add _) (Nat.zero_add _) dX11_again_41 (fun zh2 zq2 => ?_)
    have W := zq2
    refine xr_ic1 dX11_again_44 ?_
    refine xr_zret dX11_again_45 rfl (by first | rfl | decide | assumption) ?_
    refine ⟨_, rfl, (bI_t hk).symm, ?_⟩
    rw [if_pos hk, if_pos hk]
    exact W
  · skip
    refine xr_al0 dX11_again_13 ?_
    refine xr_get W.oX fX11_43 rfl dX11_again_14 ?_
    refine xr_il1 dX11_again_17 ?_
    refine xr_aald Hs (xix_nI (n := 2) hi (by decide)) dX11_again_18 ?_
    refine xr_eqv (kf_n ks kq hk) ?_
    refine xr_nonnullN dX11_again_19 ?_
    refine xr_ic0 dX11_again_22 ?_
    refine xr_zret dX11_again_23 rfl (by first | rfl | decide | assumption) ?_
    refine ⟨_, rfl, (bI_f hk).symm, ?_⟩
    rw [if_neg hk, if_neg hk]
    exact W
set_option maxRecDepth 20000 in
theorem s_again {K : xK} {B : Nat} {l : Launch} {h0 h : xH} {X D : Nat} {tn : Nat} {tf : Nat → Int32} {rk : Int32} {rv : Nat → Int64} {σ : xs} {β : xs} {γ : xs} {pn : Nat} {τ : Nat → xs} {ks : Nat → Bool} {κ : Nat → xs} {φ : xs → Int32} {hn : Nat} {hf : Nat → Int32} {hg : Nat → Int32} {wn : Nat} {wf : Nat → Int32} {wg : Nat → Int32} (W : xCw K h0 h X D tn tf rk rv σ β γ pn τ ks κ φ hn hf hg wn wf wg) (x : Int32) : xV K B l 3 mX11_again 0 0 (X) [.int x] h (xPi (fun zr g => zr = bI ((¬ x < 0 ∧ x < 2) ∧ ks x.toNatClampNeg = true) ∧ xCw K h0 g X D tn tf rk rv (if (¬ x < 0 ∧ x < 2) ∧ ks x.toNatClampNeg = true then κ x.toNatClampNeg else σ) β γ (if (¬ x < 0 ∧ x < 2) ∧ ks x.toNatClampNeg = true then 0 else pn) τ ks κ φ hn hf hg wn wf wg)) := by
  obtain ⟨pm, pp, kq, τ', h1, h2, Hs, h4, h5⟩ := id W.Hp
  have zoX := W.oX
  refine ⟨⟨_, _, _, _, W.oX, rfl⟩, qX11_again, ?_⟩
  refine xS.intro RX11 false ⟨rfl, rfl, by decide, by decide, Nat.le_of_ble_eq_true rfl⟩ (ls := [some (.ref X), some (.int x)]) rfl ?_
  refine xr_il1 dX11_again_0 ?_
  refine xr_iflt (tgt := 22) dX11_again_1 (by decide) (fun zc1 => ?_) (fun zc1 => ?_)
  · skip
    refine xr_ic0 dX11_again_22 ?_
    refine xr_zret dX11_again_23 rfl (by first | rfl | decide | assumption) ?_
    have zn : ¬ ((¬ x < 0 ∧ x < 2) ∧ ks x.toNatClampNeg = true) := fun q => q.1.1 zc1
    refine ⟨_, rfl, (bI_f zn).symm, ?_⟩
    rw [if_neg zn, if_neg zn]
    exact W
  · skip
    refine xr_il1 dX11_again_4 ?_
    refine xr_al0 dX11_again_5 ?_
    refine xr_get zoX fX11_43 rfl dX11_again_6 ?_
    refine xr_alen Hs 4 rfl (v := 2) rfl dX11_again_9 ?_
    refine xr_icmpge (tgt := 22) dX11_again_10 (by decide) (fun zc10 => ?_) (fun zc10 => ?_)
    · skip
      refine xr_ic0 dX11_again_22 ?_
      refine xr_zret dX11_again_23 rfl (by first | rfl | decide | assumption) ?_
      have zn : ¬ ((¬ x < 0 ∧ x < 2) ∧ ks x.toNatClampNeg = true) := fun q => absurd zc10 (Int32.not_le.mpr q.1.2)
      refine ⟨_, rfl, (bI_f zn).symm, ?_⟩
      rw [if_neg zn, if_neg zn]
      exact W
    · skip
      rcases pk_ix x (n := 2) (by decide) with z | z | ⟨i, hi, rfl⟩
      · exact absurd z zc1
      · exact absurd (Int32.not_le.mp zc10) (Int32.not_lt.mpr z)
      · have zr0 : ¬ nI i < 0 ∧ nI i < 2 := ⟨zc1, Int32.not_le.mp zc10⟩
        refine xT.post (fun r g q => ?_) (lp_again W hi)
        obtain ⟨v, q1, q2, q3⟩ := q
        rw [nI_clamp (by omega)]
        by_cases hk : ks i = true
        · rw [if_pos hk, if_pos hk] at q3
          refine ⟨v, q1, ?_, ?_⟩
          · rw [q2, bI_t hk, bI_t ⟨zr0, hk⟩]
          · rw [if_pos ⟨zr0, hk⟩, if_pos ⟨zr0, hk⟩]
            exact q3
        · rw [if_neg hk, if_neg hk] at q3
          refine ⟨v, q1, ?_, ?_⟩
          · rw [q2, bI_f hk, bI_f (fun q => hk q.2)]
          · rw [if_neg (fun q => hk q.2), if_neg (fun q => hk q.2)]
            exact q3
