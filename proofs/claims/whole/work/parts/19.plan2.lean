theorem X3.nP3 {h : xH} {a c : Nat} {o e f o' e' f' : va_E} (H : X3 h a o e f) (dj : a + 3 ≤ c ∨ c + 3 ≤ a) : X3 (P3 h c o' e' f') a o e f :=
  ⟨(P3_ne _ _ _ _ (by omega) (by omega) (by omega)).trans H.1, (P3_ne _ _ _ _ (by omega) (by omega) (by omega)).trans H.2.1, (P3_ne _ _ _ _ (by omega) (by omega) (by omega)).trans H.2.2⟩
def cf1 (kn u w : Nat → Int32) (x y s g ab be : Int32) (z : Int32 × Int32 × Int32) : Int32 × Int32 × Int32 := if kn ((((x ^^^ ab) * 32 + (y ^^^ be)) &&& 1023).toNatClampNeg) < z.1 ∧ grMay x y s ab be ∧ kn ((((x ^^^ ab) * 32 + (y ^^^ be)) &&& 1023).toNatClampNeg) + gWat u w g ab be < z.1 then (kn ((((x ^^^ ab) * 32 + (y ^^^ be)) &&& 1023).toNatClampNeg) + gWat u w g ab be, ab, be) else z
def cfI (kn u w : Nat → Int32) (x y s g ab : Int32) : Nat → Nat → Int32 × Int32 × Int32 → Int32 × Int32 × Int32
  | 0, _, z => z
  | r + 1, k, z => cfI kn u w x y s g ab r (k + 1) (cf1 kn u w x y s g ab (nI k) z)
def cfO (kn u w : Nat → Int32) (x y s g : Int32) (n : Nat) : Nat → Nat → Int32 × Int32 × Int32 → Int32 × Int32 × Int32
  | 0, _, z => z
  | r + 1, k, z => cfO kn u w x y s g n r (k + 1) (cfI kn u w x y s g (nI k) n 0 z)
theorem cfI_s (kn u w : Nat → Int32) (x y s g ab : Int32) (r k : Nat) (z : Int32 × Int32 × Int32) : cfI kn u w x y s g ab (r + 1) k z = cfI kn u w x y s g ab r (k + 1) (cf1 kn u w x y s g ab (nI k) z) := rfl
theorem cfO_s (kn u w : Nat → Int32) (x y s g : Int32) (n r k : Nat) (z : Int32 × Int32 × Int32) : cfO kn u w x y s g n (r + 1) k z = cfO kn u w x y s g n r (k + 1) (cfI kn u w x y s g (nI k) n 0 z) := rfl
set_option maxRecDepth 20000 in
theorem lp_cfI {K : xK} {B : Nat} {l : Launch} {h : xH} {b : Nat} {kn nx : Nat → Int32} {t : Int32} {u w : Nat → Int32} {xa ya : Nat} {s g : Int32} (G : X3 h b (grO b (nI xa) (nI ya) s g) (iA K 32 u) (iA K 32 w)) (hx : xa < 32) (hy : ya < 32) (ab : Int32) {Q : Option Value → xH → Prop} : ∀ (r k : Nat) (le fa fb : Int32) (y4 y5 y6 : Option Value), k + r = ya + 1 → (∀ (y4 y5 y6 : Option Value), xT K B l 2 RX6 false cX6_chooseFirst 7 (some .int) 0 0 0 0 (Q) 123 [some (.ref (b + 3)), some (.int (cfI kn u w (nI xa) (nI ya) s g ab r k (le, fa, fb)).1), some (.int ab), some (.int (nI (ya + 1))), y4, y5, y6] [] (P3 h (b + 3) (plO (b + 3) b t (cfI kn u w (nI xa) (nI ya) s g ab r k (le, fa, fb)).2.1 (cfI kn u w (nI xa) (nI ya) s g ab r k (le, fa, fb)).2.2) (iA K 1024 (kn)) (iA K 1024 (nx)))) → xT K B l 2 RX6 false cX6_chooseFirst 7 (some .int) 0 0 0 0 (Q) 18 [some (.ref (b + 3)), some (.int le), some (.int ab), some (.int (nI k)), y4, y5, y6] [] (P3 h (b + 3) (plO (b + 3) b t fa fb) (iA K 1024 (kn)) (iA K 1024 (nx))) := by
  intro r
  induction r with
  | zero =>
    intro k le fa fb y4 y5 y6 hk kx
    obtain ⟨o0, o1, o2⟩ := P3_at h (b + 3) (plO (b + 3) b t fa fb) (iA K 1024 kn) (iA K 1024 nx)
    have G1 := G.nP3 (c := b + 3) (o' := plO (b + 3) b t fa fb) (e' := iA K 1024 kn) (f' := iA K 1024 nx) (by omega)
    obtain ⟨g0, g1, g2⟩ := id G1
    refine xr_il3 dX6_chooseFirst_18 ?_
    refine xr_al0 dX6_chooseFirst_19 ?_
    refine xr_get o0 fX6_18 rfl dX6_chooseFirst_20 ?_
    refine xr_get g0 fX6_32 rfl dX6_chooseFirst_23 ?_
    refine xr_icmpgt (tgt := 123) dX6_chooseFirst_26 (by decide) (fun zc26 => ?_) (fun zc26 => ?_)
    · skip
      have hk' : k = ya + 1 := hk
      subst hk'
      exact kx y4 y5 y6
    · skip
      exact absurd (nI_lt (a := ya) (by omega) (by omega)) zc26
  | succ r ih =>
    intro k le fa fb y4 y5 y6 hk kx
    obtain ⟨o0, o1, o2⟩ := P3_at h (b + 3) (plO (b + 3) b t fa fb) (iA K 1024 kn) (iA K 1024 nx)
    have G1 := G.nP3 (c := b + 3) (o' := plO (b + 3) b t fa fb) (e' := iA K 1024 kn) (f' := iA K 1024 nx) (by omega)
    obtain ⟨g0, g1, g2⟩ := id G1
    refine xr_il3 dX6_chooseFirst_18 ?_
    refine xr_al0 dX6_chooseFirst_19 ?_
    refine xr_get o0 fX6_18 rfl dX6_chooseFirst_20 ?_
    refine xr_get g0 fX6_32 rfl dX6_chooseFirst_23 ?_
    refine xr_icmpgt (tgt := 123) dX6_chooseFirst_26 (by decide) (fun zc26 => ?_) (fun zc26 => ?_)
    · skip
      exact absurd zc26 (Int32.not_lt.mpr (nI_le (by omega) (by omega)))
    · skip
      refine xr_al0 dX6_chooseFirst_29 ?_
      refine xr_get o0 fX6_18 rfl dX6_chooseFirst_30 ?_
      refine xr_get g0 fX6_27 rfl dX6_chooseFirst_33 ?_
      refine xr_il2 dX6_chooseFirst_36 ?_
      refine xr_ixor dX6_chooseFirst_37 ?_
      refine xr_bipush (v := 32) dX6_chooseFirst_38 (by decide) ?_
      refine xr_imul dX6_chooseFirst_40 ?_
      refine xr_al0 dX6_chooseFirst_41 ?_
      refine xr_get o0 fX6_18 rfl dX6_chooseFirst_42 ?_
      refine xr_get g0 fX6_32 rfl dX6_chooseFirst_45 ?_
      refine xr_il3 dX6_chooseFirst_48 ?_
      refine xr_ixor dX6_chooseFirst_49 ?_
      refine xr_iadd dX6_chooseFirst_50 ?_
      refine xr_is4 dX6_chooseFirst_51 (by decide) rfl ?_
      refine xr_al0 dX6_chooseFirst_53 ?_
      refine xr_get o0 fX6_9 rfl dX6_chooseFirst_54 ?_
      refine xr_il4 dX6_chooseFirst_57 ?_
      refine xr_sipush (v := 1023) dX6_chooseFirst_59 (by decide) ?_
      refine xr_iand dX6_chooseFirst_62 ?_
      refine xr_iald o1 (xix_1023 _) dX6_chooseFirst_63 ?_
      refine xr_is5 dX6_chooseFirst_64 (by decide) rfl ?_
      refine xr_il5 dX6_chooseFirst_66 ?_
      refine xr_il1 dX6_chooseFirst_68 ?_
      refine xr_icmpge (tgt := 117) dX6_chooseFirst_69 (by decide) (fun zc69 => ?_) (fun zc69 => ?_)
      · skip
        refine xr_inc3 dX6_chooseFirst_117 (nI_inc k) (by decide) rfl ?_
        refine xr_goto (tgt := 18) dX6_chooseFirst_120 (by decide) ?_
        have e : cf1 kn u w (nI xa) (nI ya) s g ab (nI k) (le, fa, fb) = _ := if_neg (fun q => absurd zc69 (Int32.not_le.mpr q.1))
        rw [cfI_s, e] at kx
        exact ih (k + 1) _ _ _ _ _ _ (by omega) kx
      · skip
        refine xr_al0 dX6_chooseFirst_72 ?_
        refine xr_get o0 fX6_18 rfl dX6_chooseFirst_73 ?_
        refine xr_il2 dX6_chooseFirst_76 ?_
        refine xr_il3 dX6_chooseFirst_77 ?_
        refine xr_Vi2 (s_mayGo G1 _ _) kX6_70 (by decide) (Nat.le_of_ble_eq_true rfl) (Nat.zero_add _) (Nat.zero_add _) dX6_chooseFirst_78 ?_
        refine xr_ifeq (tgt := 117) dX6_chooseFirst_81 (by decide) (fun zc81 => ?_) (fun zc81 => ?_)
        · skip
          refine xr_inc3 dX6_chooseFirst_117 (nI_inc k) (by decide) rfl ?_
          refine xr_goto (tgt := 18) dX6_chooseFirst_120 (by decide) ?_
          have e : cf1 kn u w (nI xa) (nI ya) s g ab (nI k) (le, fa, fb) = _ := if_neg (fun q => bI_0.mp zc81 q.2.1)
          rw [cfI_s, e] at kx
          exact ih (k + 1) _ _ _ _ _ _ (by omega) kx
        · skip
          refine xr_il5 dX6_chooseFirst_84 ?_
          refine xr_al0 dX6_chooseFirst_86 ?_
          refine xr_get o0 fX6_18 rfl dX6_chooseFirst_87 ?_
          refine xr_il2 dX6_chooseFirst_90 ?_
          refine xr_il3 dX6_chooseFirst_91 ?_
          refine xr_Vi2 (s_gWater G1 _ _) kX6_67 (by decide) (Nat.le_of_ble_eq_true rfl) (Nat.zero_add _) (Nat.zero_add _) dX6_chooseFirst_92 ?_
          refine xr_iadd dX6_chooseFirst_95 ?_
          refine xr_is6 dX6_chooseFirst_96 (by decide) rfl ?_
          refine xr_il6 dX6_chooseFirst_98 ?_
          refine xr_il1 dX6_chooseFirst_100 ?_
          refine xr_icmpge (tgt := 117) dX6_chooseFirst_101 (by decide) (fun zc101 => ?_) (fun zc101 => ?_)
          · skip
            refine xr_inc3 dX6_chooseFirst_117 (nI_inc k) (by decide) rfl ?_
            refine xr_goto (tgt := 18) dX6_chooseFirst_120 (by decide) ?_
            have e : cf1 kn u w (nI xa) (nI ya) s g ab (nI k) (le, fa, fb) = _ := if_neg (fun q => absurd zc101 (Int32.not_le.mpr q.2.2))
            rw [cfI_s, e] at kx
            exact ih (k + 1) _ _ _ _ _ _ (by omega) kx
          · skip
            refine xr_il6 dX6_chooseFirst_104 ?_
            refine xr_is1 dX6_chooseFirst_106 (by decide) rfl ?_
            refine xr_al0 dX6_chooseFirst_107 ?_
            refine xr_il2 dX6_chooseFirst_108 ?_
            refine xr_put o0 fX6_73 (Nat.le_of_ble_eq_true rfl) rfl rfl dX6_chooseFirst_109 ?_
            refine xT.nm (fun zh1 zg1 => ?_)
            have o0 := xg_eq zg1
            have o1 := xg_ne zg1 (by omega) o1
            have o2 := xg_ne zg1 (by omega) o2
            have g0 := xg_ne zg1 (by omega) g0
            refine xr_al0 dX6_chooseFirst_112 ?_
            refine xr_il3 dX6_chooseFirst_113 ?_
            refine xr_put o0 fX6_76 (Nat.le_of_ble_eq_true rfl) rfl rfl dX6_chooseFirst_114 ?_
            refine xT.nm (fun zh2 zg2 => ?_)
            have o0 := xg_eq zg2
            have o1 := xg_ne zg2 (by omega) o1
            have o2 := xg_ne zg2 (by omega) o2
            have g0 := xg_ne zg2 (by omega) g0
            refine xr_inc3 dX6_chooseFirst_117 (nI_inc k) (by decide) rfl ?_
            refine xr_goto (tgt := 18) dX6_chooseFirst_120 (by decide) ?_
            have e : cf1 kn u w (nI xa) (nI ya) s g ab (nI k) (le, fa, fb) = _ := if_pos ⟨Int32.not_le.mp zc69, Decidable.not_not.mp (fun q => zc81 (bI_0.mpr q)), Int32.not_le.mp zc101⟩
            rw [cfI_s, e] at kx
            rw [zg2, zg1, P3_xup_o, P3_xup_o]
            exact ih (k + 1) _ _ _ _ _ _ (by omega) kx
set_option maxRecDepth 20000 in
theorem lp_cfO {K : xK} {B : Nat} {l : Launch} {h : xH} {b : Nat} {kn nx : Nat → Int32} {t : Int32} {u w : Nat → Int32} {xa ya : Nat} {s g : Int32} (G : X3 h b (grO b (nI xa) (nI ya) s g) (iA K 32 u) (iA K 32 w)) (hx : xa < 32) (hy : ya < 32) : ∀ (r k : Nat) (z : Int32 × Int32 × Int32) (y3 y4 y5 y6 : Option Value), k + r = xa + 1 → xT K B l 2 RX6 false cX6_chooseFirst 7 (some .int) 0 0 0 0 (xQi (cfO kn u w (nI xa) (nI ya) s g (ya + 1) r k z).1 (P3 h (b + 3) (plO (b + 3) b t (cfO kn u w (nI xa) (nI ya) s g (ya + 1) r k z).2.1 (cfO kn u w (nI xa) (nI ya) s g (ya + 1) r k z).2.2) (iA K 1024 (kn)) (iA K 1024 (nx)))) 5 [some (.ref (b + 3)), some (.int z.1), some (.int (nI k)), y3, y4, y5, y6] [] (P3 h (b + 3) (plO (b + 3) b t z.2.1 z.2.2) (iA K 1024 (kn)) (iA K 1024 (nx))) := by
  intro r
  induction r with
  | zero =>
    intro k z y3 y4 y5 y6 hk
    obtain ⟨o0, o1, o2⟩ := P3_at h (b + 3) (plO (b + 3) b t z.2.1 z.2.2) (iA K 1024 kn) (iA K 1024 nx)
    obtain ⟨g0, g1, g2⟩ := G.nP3 (c := b + 3) (o' := plO (b + 3) b t z.2.1 z.2.2) (e' := iA K 1024 kn) (f' := iA K 1024 nx) (by omega)
    refine xr_il2 dX6_chooseFirst_5 ?_
    refine xr_al0 dX6_chooseFirst_6 ?_
    refine xr_get o0 fX6_18 rfl dX6_chooseFirst_7 ?_
    refine xr_get g0 fX6_27 rfl dX6_chooseFirst_10 ?_
    refine xr_icmpgt (tgt := 129) dX6_chooseFirst_13 (by decide) (fun zc13 => ?_) (fun zc13 => ?_)
    · skip
      refine xr_il1 dX6_chooseFirst_129 ?_
      refine xr_iret dX6_chooseFirst_130 rfl ?_
      exact ⟨rfl, rfl⟩
    · skip
      exact absurd (nI_lt (a := xa) (by omega) (by omega)) zc13
  | succ r ih =>
    intro k z y3 y4 y5 y6 hk
    obtain ⟨o0, o1, o2⟩ := P3_at h (b + 3) (plO (b + 3) b t z.2.1 z.2.2) (iA K 1024 kn) (iA K 1024 nx)
    obtain ⟨g0, g1, g2⟩ := G.nP3 (c := b + 3) (o' := plO (b + 3) b t z.2.1 z.2.2) (e' := iA K 1024 kn) (f' := iA K 1024 nx) (by omega)
    refine xr_il2 dX6_chooseFirst_5 ?_
    refine xr_al0 dX6_chooseFirst_6 ?_
    refine xr_get o0 fX6_18 rfl dX6_chooseFirst_7 ?_
    refine xr_get g0 fX6_27 rfl dX6_chooseFirst_10 ?_
    refine xr_icmpgt (tgt := 129) dX6_chooseFirst_13 (by decide) (fun zc13 => ?_) (fun zc13 => ?_)
    · skip
      exact absurd zc13 (Int32.not_lt.mpr (nI_le (by omega) (by omega)))
    · skip
      refine xr_ic0 dX6_chooseFirst_16 ?_
      refine xr_is3 dX6_chooseFirst_17 (by decide) rfl ?_
      refine lp_cfI G hx hy (nI k) (ya + 1) 0 z.1 z.2.1 z.2.2 y4 y5 y6 (by omega) (fun y4 y5 y6 => ?_)
      rw [cfO_s]
      have hi := ih (k + 1) (cfI kn u w (nI xa) (nI ya) s g (nI k) (ya + 1) 0 z) (some (.int (nI (ya + 1)))) y4 y5 y6 (by omega)
      refine xr_inc2 dX6_chooseFirst_123 (nI_inc k) (by decide) rfl ?_
      refine xr_goto (tgt := 5) dX6_chooseFirst_126 (by decide) ?_
      exact hi
set_option maxRecDepth 20000 in
theorem s_chooseFirst {K : xK} {B : Nat} {l : Launch} {h : xH} {b : Nat} {kn nx : Nat → Int32} {t fa fb : Int32} (H : X3 h (b + 3) (plO (b + 3) b t fa fb) (iA K 1024 kn) (iA K 1024 nx)) {u w : Nat → Int32} {xa ya : Nat} {s g : Int32} (G : X3 h b (grO b (nI xa) (nI ya) s g) (iA K 32 u) (iA K 32 w)) (hx : xa < 32) (hy : ya < 32) : xV K B l 2 mX6_chooseFirst 0 0 (b + 3) [] h (xQi (cfO kn u w (nI xa) (nI ya) s g (ya + 1) (xa + 1) 0 (1048576, fa, fb)).1 (P3 h (b + 3) (plO (b + 3) b t (cfO kn u w (nI xa) (nI ya) s g (ya + 1) (xa + 1) 0 (1048576, fa, fb)).2.1 (cfO kn u w (nI xa) (nI ya) s g (ya + 1) (xa + 1) 0 (1048576, fa, fb)).2.2) (iA K 1024 (kn)) (iA K 1024 (nx)))) := by
  obtain ⟨o0, o1, o2⟩ := id H
  obtain ⟨g0, g1, g2⟩ := id G
  refine ⟨⟨_, _, _, _, H.1, rfl⟩, qX6_chooseFirst, ?_⟩
  refine xS.intro RX6 false ⟨rfl, rfl, by decide, by decide, Nat.le_of_ble_eq_true rfl⟩ (ls := [some (.ref (b + 3)), none, none, none, none, none, none]) rfl ?_
  refine xr_ldc nX6_22 dX6_chooseFirst_0 ?_
  refine xr_is1 dX6_chooseFirst_2 (by decide) rfl ?_
  refine xr_ic0 dX6_chooseFirst_3 ?_
  refine xr_is2 dX6_chooseFirst_4 (by decide) rfl ?_
  have hi := lp_cfO (B := B) (l := l) (kn := kn) (nx := nx) (t := t) G hx hy (xa + 1) 0 (1048576, fa, fb) none none none none (by omega)
  rw [P3_id H] at hi
  exact hi
def am1 (kn u w : Nat → Int32) (s g t ab be : Int32) (nx : Nat → Int32) : Nat → Int32 := upd nx ((ab * 32 + be) &&& 1023).toNatClampNeg (if ¬ t * s < bc ab ∧ ¬ t * s < bc be then lfV kn u w s g ab be else 1048576)
def amI (kn u w : Nat → Int32) (s g t ab : Int32) : Nat → Nat → (Nat → Int32) → Nat → Int32
  | 0, _, z => z
  | r + 1, k, z => amI kn u w s g t ab r (k + 1) (am1 kn u w s g t ab (nI k) z)
def amO (kn u w : Nat → Int32) (s g t : Int32) (n : Nat) : Nat → Nat → (Nat → Int32) → Nat → Int32
  | 0, _, z => z
  | r + 1, k, z => amO kn u w s g t n r (k + 1) (amI kn u w s g t (nI k) n 0 z)
theorem amI_s (kn u w : Nat → Int32) (s g t ab : Int32) (r k : Nat) (z : Nat → Int32) : amI kn u w s g t ab (r + 1) k z = amI kn u w s g t ab r (k + 1) (am1 kn u w s g t ab (nI k) z) := rfl
theorem amO_s (kn u w : Nat → Int32) (s g t : Int32) (n r k : Nat) (z : Nat → Int32) : amO kn u w s g t n (r + 1) k z = amO kn u w s g t n r (k + 1) (amI kn u w s g t (nI k) n 0 z) := rfl
set_option maxRecDepth 20000 in
theorem lp_amI {K : xK} {B : Nat} {l : Launch} {h : xH} {b : Nat} {kn : Nat → Int32} {t fa fb : Int32} {u w : Nat → Int32} {xa ya : Nat} {s g : Int32} (G : X3 h b (grO b (nI xa) (nI ya) s g) (iA K 32 u) (iA K 32 w)) (hx : xa < 32) (hy : ya < 32) (ab : Int32) {Q : Option Value → xH → Prop} : ∀ (r k : Nat) (nx : Nat → Int32) (y3 : Option Value), k + r = ya + 1 → (∀ (y3 : Option Value), xT K B l 4 RX6 false cX6_allowOneTripMore 4 none 0 0 0 0 (Q) 79 [some (.ref (b + 3)), some (.int ab), some (.int (nI (ya + 1))), y3] [] (P3 h (b + 3) (plO (b + 3) b t fa fb) (iA K 1024 (kn)) (iA K 1024 (amI kn u w s g t ab r k nx)))) → xT K B l 4 RX6 false cX6_allowOneTripMore 4 none 0 0 0 0 (Q) 25 [some (.ref (b + 3)), some (.int ab), some (.int (nI k)), y3] [] (P3 h (b + 3) (plO (b + 3) b t fa fb) (iA K 1024 (kn)) (iA K 1024 (nx))) := by
  intro r
  induction r with
  | zero =>
    intro k nx y3 hk kx
    obtain ⟨o0, o1, o2⟩ := P3_at h (b + 3) (plO (b + 3) b t fa fb) (iA K 1024 kn) (iA K 1024 nx)
    have G1 := G.nP3 (c := b + 3) (o' := plO (b + 3) b t fa fb) (e' := iA K 1024 kn) (f' := iA K 1024 nx) (by omega)
    obtain ⟨g0, g1, g2⟩ := id G1
    refine xr_il2 dX6_allowOneTripMore_25 ?_
    refine xr_al0 dX6_allowOneTripMore_26 ?_
    refine xr_get o0 fX6_18 rfl dX6_allowOneTripMore_27 ?_
    refine xr_get g0 fX6_32 rfl dX6_allowOneTripMore_30 ?_
    refine xr_icmpgt (tgt := 79) dX6_allowOneTripMore_33 (by decide) (fun zc33 => ?_) (fun zc33 => ?_)
    · skip
      have hk' : k = ya + 1 := hk
      subst hk'
      exact kx y3
    · skip
      exact absurd (nI_lt (a := ya) (by omega) (by omega)) zc33
  | succ r ih =>
    intro k nx y3 hk kx
    obtain ⟨o0, o1, o2⟩ := P3_at h (b + 3) (plO (b + 3) b t fa fb) (iA K 1024 kn) (iA K 1024 nx)
    have G1 := G.nP3 (c := b + 3) (o' := plO (b + 3) b t fa fb) (e' := iA K 1024 kn) (f' := iA K 1024 nx) (by omega)
    obtain ⟨g0, g1, g2⟩ := id G1
    refine xr_il2 dX6_allowOneTripMore_25 ?_
    refine xr_al0 dX6_allowOneTripMore_26 ?_
    refine xr_get o0 fX6_18 rfl dX6_allowOneTripMore_27 ?_
    refine xr_get g0 fX6_32 rfl dX6_allowOneTripMore_30 ?_
    refine xr_icmpgt (tgt := 79) dX6_allowOneTripMore_33 (by decide) (fun zc33 => ?_) (fun zc33 => ?_)
    · skip
      exact absurd zc33 (Int32.not_lt.mpr (nI_le (by omega) (by omega)))
    · skip
      refine xr_il1 dX6_allowOneTripMore_36 ?_
      refine xr_bipush (v := 32) dX6_allowOneTripMore_37 (by decide) ?_
      refine xr_imul dX6_allowOneTripMore_39 ?_
      refine xr_il2 dX6_allowOneTripMore_40 ?_
      refine xr_iadd dX6_allowOneTripMore_41 ?_
      refine xr_is3 dX6_allowOneTripMore_42 (by decide) rfl ?_
      refine xr_al0 dX6_allowOneTripMore_43 ?_
      refine xr_get o0 fX6_15 rfl dX6_allowOneTripMore_44 ?_
      refine xr_il3 dX6_allowOneTripMore_47 ?_
      refine xr_sipush (v := 1023) dX6_allowOneTripMore_48 (by decide) ?_
      refine xr_iand dX6_allowOneTripMore_51 ?_
      refine xr_al0 dX6_allowOneTripMore_52 ?_
      refine xr_il1 dX6_allowOneTripMore_53 ?_
      refine xr_il2 dX6_allowOneTripMore_54 ?_
      refine xr_Vi2 (s_haveSeats (P3_at _ _ _ _ _) G1 _ _) kX6_35 (by decide) (Nat.le_of_ble_eq_true rfl) (Nat.zero_add _) (Nat.zero_add _) dX6_allowOneTripMore_55 ?_
      refine xr_ifeq (tgt := 70) dX6_allowOneTripMore_58 (by decide) (fun zc58 => ?_) (fun zc58 => ?_)
      · skip
        refine xr_ldc nX6_22 dX6_allowOneTripMore_70 ?_
        refine xr_iast o2 (xix_1023 _) dX6_allowOneTripMore_72 ?_
        refine xT.nm (fun zh1 zg1 => ?_)
        have o0 := xg_ne zg1 (by omega) o0
        have o1 := xg_ne zg1 (by omega) o1
        have o2 := xg_eq zg1
        have g0 := xg_ne zg1 (by omega) g0
        refine xr_inc2 dX6_allowOneTripMore_73 (nI_inc k) (by decide) rfl ?_
        refine xr_goto (tgt := 25) dX6_allowOneTripMore_76 (by decide) ?_
        have e : (if ¬ t * s < bc ab ∧ ¬ t * s < bc (nI k) then lfV kn u w s g ab (nI k) else 1048576) = _ := if_neg (bI_0.mp zc58)
        rw [amI_s, am1, e] at kx
        rw [zg1, P3_xup_f]
        exact ih (k + 1) _ _ (by omega) kx
      · skip
        refine xr_al0 dX6_allowOneTripMore_61 ?_
        refine xr_il1 dX6_allowOneTripMore_62 ?_
        refine xr_il2 dX6_allowOneTripMore_63 ?_
        refine xr_Vi2 (s_leastFor (P3_at _ _ _ _ _) G1 _ _) kX6_39 (by decide) (Nat.le_of_ble_eq_true rfl) (Nat.zero_add _) (Nat.zero_add _) dX6_allowOneTripMore_64 ?_
        refine xr_goto (tgt := 72) dX6_allowOneTripMore_67 (by decide) ?_
        refine xr_iast o2 (xix_1023 _) dX6_allowOneTripMore_72 ?_
        refine xT.nm (fun zh1 zg1 => ?_)
        have o0 := xg_ne zg1 (by omega) o0
        have o1 := xg_ne zg1 (by omega) o1
        have o2 := xg_eq zg1
        have g0 := xg_ne zg1 (by omega) g0
        refine xr_inc2 dX6_allowOneTripMore_73 (nI_inc k) (by decide) rfl ?_
        refine xr_goto (tgt := 25) dX6_allowOneTripMore_76 (by decide) ?_
        have e : (if ¬ t * s < bc ab ∧ ¬ t * s < bc (nI k) then lfV kn u w s g ab (nI k) else 1048576) = _ := if_pos (Decidable.not_not.mp (fun q => zc58 (bI_0.mpr q)))
        rw [amI_s, am1, e] at kx
        rw [zg1, P3_xup_f]
        exact ih (k + 1) _ _ (by omega) kx
set_option maxRecDepth 20000 in
theorem lp_amO {K : xK} {B : Nat} {l : Launch} {h : xH} {b : Nat} {kn : Nat → Int32} {t fa fb : Int32} {u w : Nat → Int32} {xa ya : Nat} {s g : Int32} (G : X3 h b (grO b (nI xa) (nI ya) s g) (iA K 32 u) (iA K 32 w)) (hx : xa < 32) (hy : ya < 32) : ∀ (r k : Nat) (nx : Nat → Int32) (y2 y3 : Option Value), k + r = xa + 1 → xT K B l 4 RX6 false cX6_allowOneTripMore 4 none 0 0 0 0 (xQv (P3 h (b + 3) (plO (b + 3) b t fa fb) (iA K 1024 (amO kn u w s g t (ya + 1) r k nx)) (iA K 1024 (amO kn u w s g t (ya + 1) r k nx)))) 12 [some (.ref (b + 3)), some (.int (nI k)), y2, y3] [] (P3 h (b + 3) (plO (b + 3) b t fa fb) (iA K 1024 (kn)) (iA K 1024 (nx))) := by
  intro r
  induction r with
  | zero =>
    intro k nx y2 y3 hk
    obtain ⟨o0, o1, o2⟩ := P3_at h (b + 3) (plO (b + 3) b t fa fb) (iA K 1024 kn) (iA K 1024 nx)
    have G1 := G.nP3 (c := b + 3) (o' := plO (b + 3) b t fa fb) (e' := iA K 1024 kn) (f' := iA K 1024 nx) (by omega)
    obtain ⟨g0, g1, g2⟩ := id G1
    refine xr_il1 dX6_allowOneTripMore_12 ?_
    refine xr_al0 dX6_allowOneTripMore_13 ?_
    refine xr_get o0 fX6_18 rfl dX6_allowOneTripMore_14 ?_
    refine xr_get g0 fX6_27 rfl dX6_allowOneTripMore_17 ?_
    refine xr_icmpgt (tgt := 85) dX6_allowOneTripMore_20 (by decide) (fun zc20 => ?_) (fun zc20 => ?_)
    · skip
      refine xr_al0 dX6_allowOneTripMore_85 ?_
      refine xr_get o0 fX6_15 rfl dX6_allowOneTripMore_86 ?_
      refine xr_ic0 dX6_allowOneTripMore_89 ?_
      refine xr_al0 dX6_allowOneTripMore_90 ?_
      refine xr_get o0 fX6_9 rfl dX6_allowOneTripMore_91 ?_
      refine xr_ic0 dX6_allowOneTripMore_94 ?_
      refine xr_al0 dX6_allowOneTripMore_95 ?_
      refine xr_get o0 fX6_9 rfl dX6_allowOneTripMore_96 ?_
      refine xr_alen o1 1 rfl (v := 1024) rfl dX6_allowOneTripMore_99 ?_
      refine xr_copy kcX6_43 mn_arraycopy ms_arraycopy wz_J10 o2 o1 (ns := 0) (nd := 0) (nn := 1024) rfl rfl rfl (by decide) (by decide) (by decide) (by decide) (by decide) (Nat.le_of_ble_eq_true rfl) dX6_allowOneTripMore_100 ?_
      refine xT.nm (fun zh1 zg1 => ?_)
      have o0 := xg_ne zg1 (by omega) o0
      have o1 := xg_eq zg1
      have o2 := xg_ne zg1 (by omega) o2
      have g0 := xg_ne zg1 (by omega) g0
      rw [zg1, P3_xup_e]
      refine xT.equiv (xEq_P3 (xcong_i (g := nx) (fun j hj => ?_)) (xcong.rf _)) ?_
      · rw [pk_cpy_in (by omega) (by omega)]; congr 1; omega
      refine xr_vret dX6_allowOneTripMore_103 rfl ?_
      exact ⟨rfl, rfl⟩
    · skip
      exact absurd (nI_lt (a := xa) (by omega) (by omega)) zc20
  | succ r ih =>
    intro k nx y2 y3 hk
    obtain ⟨o0, o1, o2⟩ := P3_at h (b + 3) (plO (b + 3) b t fa fb) (iA K 1024 kn) (iA K 1024 nx)
    have G1 := G.nP3 (c := b + 3) (o' := plO (b + 3) b t fa fb) (e' := iA K 1024 kn) (f' := iA K 1024 nx) (by omega)
    obtain ⟨g0, g1, g2⟩ := id G1
    refine xr_il1 dX6_allowOneTripMore_12 ?_
    refine xr_al0 dX6_allowOneTripMore_13 ?_
    refine xr_get o0 fX6_18 rfl dX6_allowOneTripMore_14 ?_
    refine xr_get g0 fX6_27 rfl dX6_allowOneTripMore_17 ?_
    refine xr_icmpgt (tgt := 85) dX6_allowOneTripMore_20 (by decide) (fun zc20 => ?_) (fun zc20 => ?_)
    · skip
      exact absurd zc20 (Int32.not_lt.mpr (nI_le (by omega) (by omega)))
    · skip
      refine xr_ic0 dX6_allowOneTripMore_23 ?_
      refine xr_is2 dX6_allowOneTripMore_24 (by decide) rfl ?_
      refine lp_amI G hx hy (nI k) (ya + 1) 0 nx y3 (by omega) (fun y3 => ?_)
      rw [amO_s]
      have hi := ih (k + 1) (amI kn u w s g t (nI k) (ya + 1) 0 nx) (some (.int (nI (ya + 1)))) y3 (by omega)
      refine xr_inc1 dX6_allowOneTripMore_79 (nI_inc k) (by decide) rfl ?_
      refine xr_goto (tgt := 12) dX6_allowOneTripMore_82 (by decide) ?_
      exact hi
set_option maxRecDepth 20000 in
theorem s_allowMore {K : xK} {B : Nat} {l : Launch} {h : xH} {b : Nat} {kn nx : Nat → Int32} {t fa fb : Int32} (H : X3 h (b + 3) (plO (b + 3) b t fa fb) (iA K 1024 kn) (iA K 1024 nx)) {u w : Nat → Int32} {xa ya : Nat} {s g : Int32} (G : X3 h b (grO b (nI xa) (nI ya) s g) (iA K 32 u) (iA K 32 w)) (hx : xa < 32) (hy : ya < 32) : xV K B l 4 mX6_allowOneTripMore 0 0 (b + 3) [] h (xQv (P3 h (b + 3) (plO (b + 3) b (t + 1) fa fb) (iA K 1024 (amO kn u w s g (t + 1) (ya + 1) (xa + 1) 0 nx)) (iA K 1024 (amO kn u w s g (t + 1) (ya + 1) (xa + 1) 0 nx)))) := by
  obtain ⟨o0, o1, o2⟩ := id H
  obtain ⟨g0, g1, g2⟩ := id G
  refine ⟨⟨_, _, _, _, H.1, rfl⟩, qX6_allowOneTripMore, ?_⟩
  refine xS.intro RX6 false ⟨rfl, rfl, by decide, by decide, Nat.le_of_ble_eq_true rfl⟩ (ls := [some (.ref (b + 3)), none, none, none]) rfl ?_
  refine xr_al0 dX6_allowOneTripMore_0 ?_
  refine xr_dup dX6_allowOneTripMore_1 rfl ?_
  refine xr_get o0 fX6_23 rfl dX6_allowOneTripMore_2 ?_
  refine xr_ic1 dX6_allowOneTripMore_5 ?_
  refine xr_iadd dX6_allowOneTripMore_6 ?_
  refine xr_put o0 fX6_23 (Nat.le_of_ble_eq_true rfl) rfl rfl dX6_allowOneTripMore_7 ?_
  refine xT.nm (fun zh1 zg1 => ?_)
  have o0 := xg_eq zg1
  have o1 := xg_ne zg1 (by omega) o1
  have o2 := xg_ne zg1 (by omega) o2
  have g0 := xg_ne zg1 (by omega) g0
  refine xr_ic0 dX6_allowOneTripMore_10 ?_
  refine xr_is1 dX6_allowOneTripMore_11 (by decide) rfl ?_
  rw [zg1, P3_o H]
  exact lp_amO (B := B) (l := l) (kn := kn) (t := t + 1) (fa := fa) (fb := fb) G hx hy (xa + 1) 0 nx none none (by omega)
