/-! The model in the class's words: law (written by wip/whole/mod49.py) -/
theorem u7x {K : xK} {h0 h : xH} {Y : Nat} {m : Nat → Int32} {rd : Value} {ru ot : Nat} {U : Nat → Nat → Int32} {v : Nat → Int64} {f f' : xs} (W : xMw K h0 h Y m rd ru ot (uu (uu U 7 f) 7 f') v) : xMw K h0 h Y m rd ru ot (uu U 7 f') v := by
  rw [uu_uu] at W
  exact W
theorem u7i {K : xK} {h0 h : xH} {Y : Nat} {m : Nat → Int32} {rd : Value} {ru ot : Nat} {U : Nat → Nat → Int32} {v : Nat → Int64} (W : xMw K h0 h Y m rd ru ot U v) : xMw K h0 h Y m rd ru ot (uu U 7 (U 7)) v := by
  rw [uu_id]
  exact W
theorem rf17 (φ : xs → Int32) (r : Nat) {σ : xs} (ok : hOk σ) : (rfN φ r 0 0 σ).1 = itR φ r σ 17 - σ 17 := (rfN_17 φ r 0 0 σ ok).trans (Int32.zero_add _)
def lawN (N : Nat) (b : Int32) (φ ψ : xs → Int32) (σ : xs) (rk : Int32) (rv : Nat → Int64) : AR := if b = -1 then (itR ψ N σ 14 - itR φ N σ 14, 4, tl4 rv (itR ψ N σ 14) (itR φ N σ 14) (itR ψ N σ 17 - σ 17) (itR φ N σ 17 - σ 17)) else (-10000 - b, rk, rv)
theorem lawN_20 : lawN 20 = lawR := rfl
set_option maxRecDepth 20000 in
theorem lp_law {K : xK} {B : Nat} {l : Launch} {h0 : xH} {Y : Nat} {m : xs} {u : Nat → Nat → Int32} {v : Nat → Int64} {tf : xs} {rk : Int32} {rv : Nat → Int64} {σ : xs} {pn : Nat} {τ : Nat → xs} {ks : Nat → Bool} {κ : Nat → xs} {φ : xs → Int32} {hn : Nat} {hf hg : xs} {wn : Nat} {wf wg : xs} (C : maC K B l Y m u v 0 tf rk rv σ pn τ ks κ φ hn hf hg wn wf wg) (h5 : m 5 = 0) {tx N : Nat} (hN : N = 20) (h80 : tx ≤ 80) (T0 : ∀ j, j < tx → u 2 j &&& 255 = tf j ∧ byt (u 2 j)) (hok : (rdV tf tx).1 = -1) : ∀ (r k : Nat) {h : xH} {f : xs} {rd : Value} (fk : ∀ i, i < k → f i = u 2 i) (W : xMw K h0 h Y (upd m 15 (nI tx)) rd (Y + 7) (Y + 7) (uu u 7 f) v), k + r = tx → xT K B l 206 RX12 false cX12_law 7 (some .int) 0 0 0 0 (xPi (fun zr g => zr = (lawN N (rdV tf tx).1 φ (ruF tf tx) σ rk rv).1 ∧ xMa K B l h0 g Y 0 0 tf ((lawN N (rdV tf tx).1 φ (ruF tf tx) σ rk rv).2.1) ((lawN N (rdV tf tx).1 φ (ruF tf tx) σ rk rv).2.2) σ pn τ ks κ φ hn hf hg wn wf wg)) 85 [some (.ref Y), some (.int (nI tx)), some (.int (itR φ N σ 17 - σ 17)), some (.int (itR φ N σ 14)), some (.ref (Y + 6)), some (.int (m 15)), some (.int (nI k))] [] h := by
  obtain ⟨T, Rw, ⟨R, ok, iv⟩, P, Kp, L, H, Sw⟩ := id C
  have t40 := rdV_40 hok
  intro r
  induction r with
  | zero =>
    intro k h f rd fk W hk
    refine xr_il6 dX12_law_85 ?_
    refine xr_il1 dX12_law_87 ?_
    refine xr_icmpge (tgt := 111) dX12_law_88 (by decide) (fun zc88 => ?_) (fun zc88 => ?_)
    · skip
      refine xr_al0 dX12_law_111 ?_
      refine xr_get W.o fX12_9 rfl dX12_law_112 ?_
      refine xr_al0 dX12_law_115 ?_
      refine xr_get W.o fX12_42 rfl dX12_law_116 ?_
      refine xr_ic0 dX12_law_119 ?_
      refine xr_Sv3 (s_mLay (k := 0) W.a1 W.a11 (by omega) (by decide) (by decide)) kX12_210 (by decide) (Nat.le_of_ble_eq_true rfl) (Nat.zero_add _) (Nat.zero_add _) dX12_law_120 ?_
      refine xT.nm (fun zh1 zg1 => ?_)
      have W := W.p11 zg1
      refine xr_al0 dX12_law_123 ?_
      refine xr_al0 dX12_law_124 ?_
      refine xr_get W.o fX12_42 rfl dX12_law_125 ?_
      refine xr_bipush (v := 20) dX12_law_128 (by decide) ?_
      refine xr_eqi (y := nI N) (by rw [hN]; rfl) ?_
      refine xr_Vpi2 (s_mRuns0 (Or.inr rfl) W (mSp7 h80 (fun j hj => by rw [uu_jj, fk j (by omega)]; exact T0 j hj) hok) ok (rr_lay R ok _) (N := N) (by omega)) kX12_276 (by decide) (Nat.le_of_ble_eq_true rfl) (Nat.zero_add _) (Nat.zero_add _) dX12_law_130 (fun zv130 zh2 zq2 => ?_)
      obtain ⟨rfl, w9, R9, q9⟩ := zq2
      rw [rfN_it] at R9
      obtain ⟨za, zb, zc, zd, ze, zrd, z8, W⟩ := xMz_out (by decide) q9
      refine xr_eqi (y := itR (ruF tf tx) N σ 17 - σ 17) (rf17 _ _ ok) ?_
      refine xr_is6 dX12_law_133 (by decide) rfl ?_
      refine xr_al0 dX12_law_135 ?_
      refine xr_al4 dX12_law_136 ?_
      refine xr_put W.o fX12_27 (Nat.le_of_ble_eq_true rfl) rfl rfl dX12_law_138 ?_
      refine xT.nm (fun zh3 zg3 => ?_)
      have W := W.frule zg3
      refine xr_al0 dX12_law_141 ?_
      refine xr_il5 dX12_law_142 ?_
      refine xr_put W.o fX12_180 (Nat.le_of_ble_eq_true rfl) rfl rfl dX12_law_144 ?_
      refine xT.nm (fun zh4 zg4 => ?_)
      have W := W.f15 zg4
      refine xr_al0 dX12_law_147 ?_
      refine xr_ic0 dX12_law_148 ?_
      refine xr_put W.o fX12_86 (Nat.le_of_ble_eq_true rfl) rfl rfl dX12_law_149 ?_
      refine xT.nm (fun zh5 zg5 => ?_)
      have W := W.f4 zg5
      refine xr_al0 dX12_law_152 ?_
      refine xr_al0 dX12_law_153 ?_
      refine xr_get W.o fX12_42 rfl dX12_law_154 ?_
      refine xr_bipush (v := 14) dX12_law_157 (by decide) ?_
      refine xr_iald W.a11 (xix_lit (j := 14) (by decide)) dX12_law_159 ?_
      refine xr_eqi (y := itR (ruF tf tx) N σ 14) (R9.1 14 (by omega) (by omega)) ?_
      refine xr_i2l dX12_law_160 ?_
      refine xr_Vpv1 (s_mTell W (k := 0) rfl (by decide) _) kX12_253 (by decide) (Nat.le_of_ble_eq_true rfl) (Nat.zero_add _) (Nat.zero_add _) dX12_law_161 (fun zh6 zq6 => ?_)
      have W := zq6
      refine xr_al0 dX12_law_164 ?_
      refine xr_il3 dX12_law_165 ?_
      refine xr_i2l dX12_law_166 ?_
      refine xr_Vpv1 (s_mTell W (k := 1) rfl (by decide) _) kX12_253 (by decide) (Nat.le_of_ble_eq_true rfl) (Nat.zero_add _) (Nat.zero_add _) dX12_law_167 (fun zh7 zq7 => ?_)
      have W := zq7
      refine xr_al0 dX12_law_170 ?_
      refine xr_il6 dX12_law_171 ?_
      refine xr_i2l dX12_law_173 ?_
      refine xr_Vpv1 (s_mTell W (k := 2) rfl (by decide) _) kX12_253 (by decide) (Nat.le_of_ble_eq_true rfl) (Nat.zero_add _) (Nat.zero_add _) dX12_law_174 (fun zh8 zq8 => ?_)
      have W := zq8
      refine xr_al0 dX12_law_177 ?_
      refine xr_il2 dX12_law_178 ?_
      refine xr_i2l dX12_law_179 ?_
      refine xr_Vpv1 (s_mTell W (k := 3) rfl (by decide) _) kX12_253 (by decide) (Nat.le_of_ble_eq_true rfl) (Nat.zero_add _) (Nat.zero_add _) dX12_law_180 (fun zh9 zq9 => ?_)
      have W := zq9
      refine xr_al0 dX12_law_183 ?_
      refine xr_get W.o fX12_42 rfl dX12_law_184 ?_
      refine xr_bipush (v := 14) dX12_law_187 (by decide) ?_
      refine xr_iald W.a11 (xix_lit (j := 14) (by decide)) dX12_law_189 ?_
      refine xr_eqi (y := itR (ruF tf tx) N σ 14) (R9.1 14 (by omega) (by omega)) ?_
      refine xr_il3 dX12_law_190 ?_
      refine xr_isub dX12_law_191 ?_
      refine xr_iret dX12_law_192 rfl ?_
      have e : lawN N (rdV tf tx).1 φ (ruF tf tx) σ rk rv = (itR (ruF tf tx) N σ 14 - itR φ N σ 14, 4, tl4 rv (itR (ruF tf tx) N σ 14) (itR φ N σ 14) (itR (ruF tf tx) N σ 17 - σ 17) (itR φ N σ 17 - σ 17)) := by
        unfold lawN
        rw [if_pos hok]
      rw [e]
      exact ⟨_, rfl, rfl, ⟨_, _, _, _, W, T, maR4 _ _ _ _, ⟨R, ok, iv⟩, P, Kp, L, H, Sw, h5⟩⟩
    · skip
      exact absurd (nI_le (by omega) (by omega)) zc88
  | succ r ih =>
    intro k h f rd fk W hk
    refine xr_il6 dX12_law_85 ?_
    refine xr_il1 dX12_law_87 ?_
    refine xr_icmpge (tgt := 111) dX12_law_88 (by decide) (fun zc88 => ?_) (fun zc88 => ?_)
    · skip
      exact absurd zc88 (nI_ge (by omega) (by omega))
    · skip
      refine xr_al0 dX12_law_91 ?_
      refine xr_get W.o fX12_27 rfl dX12_law_92 ?_
      refine xr_il6 dX12_law_95 ?_
      refine xr_al0 dX12_law_97 ?_
      refine xr_get W.o fX12_13 rfl dX12_law_98 ?_
      refine xr_il6 dX12_law_101 ?_
      refine xr_bald W.a2 (xix_nI (n := 80) (j := k) (by omega) (by decide)) dX12_law_103 ?_
      refine xr_bast W.a7 (xix_nI (n := 40) (j := k) (by omega) (by decide)) dX12_law_104 ?_
      refine xT.nm (fun zh1 zg1 => ?_)
      have W := u7x (W.p7 zg1)
      refine xr_inc6 dX12_law_105 (nI_1 k) (by decide) rfl ?_
      refine xr_goto (tgt := 85) dX12_law_108 (by decide) ?_
      exact ih (k + 1) (cp_up (T0 k (by omega)).2 fk) W (by omega)
set_option maxRecDepth 20000 in
theorem a_lawN {K : xK} {B : Nat} {l : Launch} {h0 h : xH} {Y : Nat} {th : Int32} {tn : Nat} {tf : xs} {rk : Int32} {rv : Nat → Int64} {σ : xs} {pn : Nat} {τ : Nat → xs} {ks : Nat → Bool} {κ : Nat → xs} {φ : xs → Int32} {hn : Nat} {hf hg : xs} {wn : Nat} {wf wg : xs} (A : xMa K B l h0 h Y th tn tf rk rv σ pn τ ks κ φ hn hf hg wn wf wg) {N : Nat} (hN : N = 20) : xV K B l 206 mX12_law 0 0 (Y) [] h (xPi (fun zr g => zr = (lawN N (rdV tf tn).1 φ (ruF tf tn) σ rk rv).1 ∧ xMa K B l h0 g Y 0 0 tf ((lawN N (rdV tf tn).1 φ (ruF tf tn) σ rk rv).2.1) ((lawN N (rdV tf tn).1 φ (ruF tf tn) σ rk rv).2.2) σ pn τ ks κ φ hn hf hg wn wf wg)) := by
  obtain ⟨m, rd, u, v, W, T, Rw, ⟨R, ok, iv⟩, P, Kp, L, H, Sw, hth⟩ := A
  refine ⟨⟨_, _, _, _, W.o, rfl⟩, qX12_law, ?_⟩
  refine xS.intro RX12 false ⟨rfl, rfl, by decide, by decide, Nat.le_of_ble_eq_true rfl⟩ (ls := [some (.ref Y), none, none, none, none, none, none]) rfl ?_
  refine xr_al0 dX12_law_0 ?_
  refine xr_ic0 dX12_law_1 ?_
  refine xr_put W.o fX12_82 (Nat.le_of_ble_eq_true rfl) rfl rfl dX12_law_2 ?_
  refine xT.nm (fun zh1 zg1 => ?_)
  have W := W.f5 zg1
  refine xr_al0 dX12_law_5 ?_
  refine xr_get W.o fX12_93 rfl dX12_law_6 ?_
  refine xr_eqi (y := nI tn) T.1 ?_
  refine xr_is1 dX12_law_9 (by decide) rfl ?_
  refine xr_al0 dX12_law_10 ?_
  refine xr_Vpi0 (r_readRule (m := upd m 5 0) (tf := tf) T.1 T.2.1 T.2.2 W) kX12_177 (by decide) (Nat.le_of_ble_eq_true rfl) (Nat.zero_add _) (Nat.zero_add _) dX12_law_11 (fun zv11 zh2 zq2 => ?_)
  obtain ⟨rfl, p, bp, W⟩ := zq2
  refine xr_ifne (tgt := 26) dX12_law_14 (by decide) (fun zc14 => ?_) (fun zc14 => ?_)
  · skip
    have hok : (rdV tf tn).1 = -1 := (Decidable.not_not.mp (fun q => zc14 (bI_0.mpr q)))
    refine xr_al0 dX12_law_26 ?_
    refine xr_get W.o fX12_9 rfl dX12_law_27 ?_
    refine xr_al0 dX12_law_30 ?_
    refine xr_get W.o fX12_42 rfl dX12_law_31 ?_
    refine xr_ic0 dX12_law_34 ?_
    refine xr_Sv3 (s_mLay (k := 0) W.a1 W.a11 (by omega) (by decide) (by decide)) kX12_210 (by decide) (Nat.le_of_ble_eq_true rfl) (Nat.zero_add _) (Nat.zero_add _) dX12_law_35 ?_
    refine xT.nm (fun zh3 zg3 => ?_)
    have W := W.p11 zg3
    refine xr_al0 dX12_law_38 ?_
    refine xr_al0 dX12_law_39 ?_
    refine xr_get W.o fX12_42 rfl dX12_law_40 ?_
    refine xr_bipush (v := 20) dX12_law_43 (by decide) ?_
    refine xr_eqi (y := nI N) (by rw [hN]; rfl) ?_
    refine xr_Vpi2 (s_mRuns0 (Or.inr rfl) W (L _) ok (rr_lay R ok _) (N := N) (by omega)) kX12_276 (by decide) (Nat.le_of_ble_eq_true rfl) (Nat.zero_add _) (Nat.zero_add _) dX12_law_45 (fun zv45 zh4 zq4 => ?_)
    obtain ⟨rfl, w9, R9, q9⟩ := zq4
    rw [rfN_it] at R9
    obtain ⟨za, zb, zc, zd, ze, zrd, z8, W⟩ := xMz_out (by decide) q9
    refine xr_eqi (y := itR φ N σ 17 - σ 17) (rf17 _ _ ok) ?_
    refine xr_is2 dX12_law_48 (by decide) rfl ?_
    refine xr_al0 dX12_law_49 ?_
    refine xr_get W.o fX12_42 rfl dX12_law_50 ?_
    refine xr_bipush (v := 14) dX12_law_53 (by decide) ?_
    refine xr_iald W.a11 (xix_lit (j := 14) (by decide)) dX12_law_55 ?_
    refine xr_eqi (y := itR φ N σ 14) (R9.1 14 (by omega) (by omega)) ?_
    refine xr_is3 dX12_law_56 (by decide) rfl ?_
    refine xr_al0 dX12_law_57 ?_
    refine xr_get W.o fX12_27 rfl dX12_law_58 ?_
    refine xr_as4 dX12_law_61 (by decide) rfl ?_
    refine xr_al0 dX12_law_63 ?_
    refine xr_get W.o fX12_180 rfl dX12_law_64 ?_
    refine xr_eqi (y := m 15) rfl ?_
    refine xr_is5 dX12_law_67 (by decide) rfl ?_
    refine xr_al0 dX12_law_69 ?_
    refine xr_al0 dX12_law_70 ?_
    refine xr_get W.o fX12_30 rfl dX12_law_71 ?_
    refine xr_put W.o fX12_27 (Nat.le_of_ble_eq_true rfl) rfl rfl dX12_law_74 ?_
    refine xT.nm (fun zh5 zg5 => ?_)
    have W := W.frule zg5
    refine xr_al0 dX12_law_77 ?_
    refine xr_il1 dX12_law_78 ?_
    refine xr_put W.o fX12_180 (Nat.le_of_ble_eq_true rfl) rfl rfl dX12_law_79 ?_
    refine xT.nm (fun zh6 zg6 => ?_)
    have W := W.f15 zg6
    refine xr_ic0 dX12_law_82 ?_
    refine xr_is6 dX12_law_83 (by decide) rfl ?_
    refine lp_law (m := scm (upd (rdm (upd (pM' (upd m 5 0) tn) 16 0) p (rdV tf tn).1) 22 (rfN φ N 0 0 σ).2.1) za zb zc zd ze) (u := uu (uu u 8 z8) 11 w9) (by exact ⟨⟨rfl, by omega, fun j hj => absurd hj (by omega)⟩, Rw, ⟨R, ok, iv⟩, P, Kp, L, H, Sw⟩) (by rfl) hN T.2.1 (by exact T.2.2) hok tn 0 (by exact fun i hi => absurd hi (by omega)) (u7i W) (by omega)
  · skip
    have hok : ¬ (rdV tf tn).1 = -1 := bI_0.mp zc14
    refine xr_sipush (v := (-10000)) dX12_law_17 (by decide) ?_
    refine xr_al0 dX12_law_20 ?_
    refine xr_get W.o fX12_108 rfl dX12_law_21 ?_
    refine xr_eqi (y := (rdV tf tn).1) rfl ?_
    refine xr_isub dX12_law_24 ?_
    refine xr_iret dX12_law_25 rfl ?_
    have e : (lawN N (rdV tf tn).1 φ (ruF tf tn) σ rk rv) = (-10000 - (rdV tf tn).1, rk, rv) := by
      unfold lawN
      rw [if_neg hok]
    rw [e]
    exact ⟨_, rfl, rfl, ⟨_, _, _, _, W, ⟨rfl, by omega, fun j hj => absurd hj (by omega)⟩, Rw, ⟨R, ok, iv⟩, P, Kp, L, H, Sw, rfl⟩⟩
theorem a_law {K : xK} {B : Nat} {l : Launch} {h0 h : xH} {Y : Nat} {th : Int32} {tn : Nat} {tf : xs} {rk : Int32} {rv : Nat → Int64} {σ : xs} {pn : Nat} {τ : Nat → xs} {ks : Nat → Bool} {κ : Nat → xs} {φ : xs → Int32} {hn : Nat} {hf hg : xs} {wn : Nat} {wf wg : xs} (A : xMa K B l h0 h Y th tn tf rk rv σ pn τ ks κ φ hn hf hg wn wf wg) : xV K B l 206 mX12_law 0 0 Y [] h (xPi (fun zr g => zr = (lawR (rdV tf tn).1 φ (ruF tf tn) σ rk rv).1 ∧ xMa K B l h0 g Y 0 0 tf ((lawR (rdV tf tn).1 φ (ruF tf tn) σ rk rv).2.1) ((lawR (rdV tf tn).1 φ (ruF tf tn) σ rk rv).2.2) σ pn τ ks κ φ hn hf hg wn wf wg)) := by
  have q := a_lawN A (N := 20) rfl
  rw [lawN_20] at q
  exact q
