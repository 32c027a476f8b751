/-! The model in the class's words: most, alike, rests (written by wip/whole/mod27.py) -/
theorem gAt_k (f : xs) {j : Nat} (h : j < 32) : gAt f (nI j) = f j := by
  unfold gAt
  rw [if_pos ⟨nI_pos (by omega), nI_ge (b := 32) h (by decide)⟩, nI_clamp (by omega)]
theorem gWat_w (σ : xs) {i j : Nat} (hi : i < 32) (hj : j < 32) : gWat (gU σ) (gL σ) (σ 13) (nI i) (nI j) = hWater σ (nI i) (nI j) := by
  unfold gWat
  rw [gAt_k _ hi, gAt_k _ hj]
  rfl
theorem bc0 : ∀ i, i < 32 → ∀ j, j < 32 → ((bc (nI i) + bc (nI j) = 0 ↔ nI i ||| nI j = 0)) := by decide +kernel
theorem bcp {i j : Nat} (hi : i < 32) (hj : j < 32) (h : ¬ bc (nI i) + bc (nI j) = 0) : 0 < bc (nI i) + bc (nI j) := by
  have := bc_pos (nI i) (nI j)
  exact Int32.lt_of_le_of_ne (Int32.not_lt.mp this) (fun q => h q.symm)
def mq (z : Q4) (a b c d : Int32) : Prop := (z = (0, 0, 0, 0) ∧ a = 0 ∧ b = 1000000) ∨ (z = (a, b, c, d) ∧ ¬ a = 0)
theorem may_in {σ : xs} (ok : hOk σ) {s i : Nat} (hs : s < 2) (h : i ≤ aN σ s) : nI i &&& (nI (aN σ s) ^^^ (-1)) = 0 := by
  have h5 := (ok.1 s hs).2
  have := Nat.two_pow_pos (ln σ s)
  unfold aN at h ⊢
  exact may_bw h5 (by omega)
theorem may_at {σ : xs} (ok : hOk σ) {s i : Nat} (hs : s < 2) (h : i ≤ aN σ s) : nI i &&& (((1 : Int32) <<< (hWaits σ (nI s) &&& 31) - 1) ^^^ (-1)) = 0 := by
  have e : (1 : Int32) <<< (hWaits σ (nI s) &&& 31) - 1 = nI (aN σ s) := (hAll_n ok hs).1
  rw [e]
  exact may_in ok hs h
theorem ms_n {σ : xs} {v : Int32} {i j : Nat} (hi : i < 32) (hj : j < 32) {z : Q4} {a b c d : Int32} (h : mq z a b c d) (q : bc (nI i) + bc (nI j) = 0 ∨ σ 12 < bc (nI i) ∨ σ 12 < bc (nI j) ∨ v < hWater σ (nI i) (nI j) ∨ bc (nI i) + bc (nI j) < a ∨ (bc (nI i) + bc (nI j) = a ∧ ¬ hWater σ (nI i) (nI j) < b)) : mq (ms1 σ v (nI i) (nI j) z) a b c d := by
  unfold ms1
  rw [gWat_w σ hi hj, if_neg]
  · exact h
  · rintro ⟨h1, h2, g1, g2, g3, g4, g5⟩
    rcases q with q | q | q | q | q | ⟨q, q2⟩
    · exact g1 ((bc0 i hi j hj).mp q)
    · exact g4 q
    · exact g5 q
    · exact absurd q (Int32.not_lt.mpr h2)
    · rcases h with ⟨rfl, rfl, -⟩ | ⟨rfl, -⟩
      · exact bc_pos _ _ q
      · rcases h1 with h1 | ⟨h1, -⟩
        · exact Int32.lt_irrefl (Int32.lt_trans q h1)
        · rw [h1] at q
          exact Int32.lt_irrefl q
    · rcases h with ⟨rfl, rfl, -⟩ | ⟨rfl, -⟩
      · exact g1 ((bc0 i hi j hj).mp q)
      · rcases h1 with h1 | ⟨-, h1⟩
        · rw [q] at h1
          exact Int32.lt_irrefl h1
        · exact q2 h1
theorem ms_y {σ : xs} (ok : hOk σ) {v : Int32} {i j : Nat} (hi : i ≤ aN σ 0) (hj : j ≤ aN σ 1) {z : Q4} {a b c d : Int32} (h : mq z a b c d) (q1 : ¬ bc (nI i) + bc (nI j) = 0) (q2 : ¬ σ 12 < bc (nI i)) (q3 : ¬ σ 12 < bc (nI j)) (q4 : ¬ v < hWater σ (nI i) (nI j)) (q5 : ¬ bc (nI i) + bc (nI j) < a) (q6 : ¬ bc (nI i) + bc (nI j) = a ∨ hWater σ (nI i) (nI j) < b) : mq (ms1 σ v (nI i) (nI j) z) (bc (nI i) + bc (nI j)) (hWater σ (nI i) (nI j)) (nI i) (nI j) := by
  have hi2 := (hAll_n ok (s := 0) (by decide)).2
  have hj2 := (hAll_n ok (s := 1) (by decide)).2
  unfold ms1
  rw [gWat_w σ (by omega) (by omega), if_pos]
  · exact Or.inr ⟨rfl, q1⟩
  · refine ⟨?_, Int32.not_lt.mp q4, fun q => q1 ((bc0 i (by omega) j (by omega)).mpr q), may_in ok (by decide) hi, may_in ok (by decide) hj, q2, q3⟩
    rcases h with ⟨rfl, rfl, -⟩ | ⟨rfl, -⟩
    · exact Or.inl (bcp (by omega) (by omega) q1)
    · by_cases e : bc (nI i) + bc (nI j) = a
      · exact Or.inr ⟨e, q6.resolve_left (fun q => q e)⟩
      · exact Or.inl (Int32.lt_of_le_of_ne (Int32.not_lt.mp q5) (fun q => e q.symm))
theorem ms_skip {σ : xs} {v : Int32} {i : Nat} (hi : i < 32) (q : σ 12 < bc (nI i)) : ∀ (r j : Nat) {z : Q4} {a b c d : Int32}, j + r ≤ 32 → mq z a b c d → mq (msI σ v (nI i) r j z) a b c d := by
  intro r
  induction r with
  | zero => intro j z a b c d _ h; exact h
  | succ r ih =>
    intro j z a b c d hj h
    rw [msI_s]
    exact ih (j + 1) (by omega) (ms_n hi (by omega) h (Or.inr (Or.inl q)))
set_option maxRecDepth 20000 in
theorem lp_mMostI {K : xK} {B : Nat} {l : Launch} {h0 : xH} {Y : Nat} {m : xs} {u : Nat → Nat → Int32} {v : Nat → Int64} {tn : Nat} {tf : xs} {rk : Int32} {rv : Nat → Int64} {σ : xs} {pn : Nat} {τ : Nat → xs} {ks : Nat → Bool} {κ : Nat → xs} {φ : xs → Int32} {hn : Nat} {hf hg : xs} {wn : Nat} {wf wg : xs} (C : maC K B l Y m u v tn tf rk rv σ pn τ ks κ φ hn hf hg wn wf wg) (h5 : m 5 = 0) {rd : Value} {Q : Option Value → xH → Prop} {x : Int32} {i : Nat} (hi : i ≤ aN σ 0) (hg : ¬ σ 12 < bc (nI i)) : ∀ (r j : Nat) {a b c d : Int32} {x8 x9 : Option Value} {h : xH} {z : Q4} (hm : mq z a b c d) (hc : ∀ {h : xH} {a b c d : Int32} {x7 x8 x9 : Option Value}, mq (msI σ x (nI i) r j z) a b c d → xMw K h0 h Y m rd (Y + 6) (Y + 7) u v → xT K B l 206 RX12 false cX12_most 10 (some .int) 0 0 0 0 (Q) 170 [some (.ref Y), some (.int x), some (.int a), some (.int b), some (.int c), some (.int d), some (.int (nI i)), x7, x8, x9] [] h) (W : xMw K h0 h Y m rd (Y + 6) (Y + 7) u v), j + r = aN σ 1 + 1 → xT K B l 206 RX12 false cX12_most 10 (some .int) 0 0 0 0 (Q) 65 [some (.ref Y), some (.int x), some (.int a), some (.int b), some (.int c), some (.int d), some (.int (nI i)), some (.int (nI j)), x8, x9] [] h := by
  obtain ⟨T, Rw, ⟨R, ok, iv⟩, P, Kp, L, H, Sw⟩ := id C
  intro r
  induction r with
  | zero =>
    intro j a b c d x8 x9 h z hm hc W hk
    have ha := (hAll_n ok (s := 0) (by decide)).2
    have hb := (hAll_n ok (s := 1) (by decide)).2
    refine xr_il7 dX12_most_65 ?_
    refine xr_al0 dX12_most_67 ?_
    refine xr_get W.o fX12_9 rfl dX12_most_68 ?_
    refine xr_ic1 dX12_most_71 ?_
    refine xr_Si2 (s_mAllOf W.a1 (rr_ok R ok) (s := 1) (by decide)) kX12_187 (by decide) (Nat.le_of_ble_eq_true rfl) (Nat.zero_add _) (Nat.zero_add _) dX12_most_72 ?_
    refine xr_eqi (y := nI (aN σ 1)) ((rr_all R _).trans (hAll_n ok (s := 1) (by decide)).1) ?_
    refine xr_icmpgt (tgt := 170) dX12_most_75 (by decide) (fun zc75 => ?_) (fun zc75 => ?_)
    · skip
      exact hc hm W
    · skip
      exact absurd (nI_lt (by omega) (by omega)) zc75
  | succ r ih =>
    intro j a b c d x8 x9 h z hm hc W hk
    have ha := (hAll_n ok (s := 0) (by decide)).2
    have hb := (hAll_n ok (s := 1) (by decide)).2
    refine xr_il7 dX12_most_65 ?_
    refine xr_al0 dX12_most_67 ?_
    refine xr_get W.o fX12_9 rfl dX12_most_68 ?_
    refine xr_ic1 dX12_most_71 ?_
    refine xr_Si2 (s_mAllOf W.a1 (rr_ok R ok) (s := 1) (by decide)) kX12_187 (by decide) (Nat.le_of_ble_eq_true rfl) (Nat.zero_add _) (Nat.zero_add _) dX12_most_72 ?_
    refine xr_eqi (y := nI (aN σ 1)) ((rr_all R _).trans (hAll_n ok (s := 1) (by decide)).1) ?_
    refine xr_icmpgt (tgt := 170) dX12_most_75 (by decide) (fun zc75 => ?_) (fun zc75 => ?_)
    · skip
      exact absurd zc75 (nI_nlt (by omega) (by omega))
    · skip
      refine xr_il6 dX12_most_78 ?_
      refine xr_Si1 (s_bitCount _) kX12_229 (by decide) (Nat.le_of_ble_eq_true rfl) (Nat.zero_add _) (Nat.zero_add _) dX12_most_80 ?_
      refine xr_il7 dX12_most_83 ?_
      refine xr_Si1 (s_bitCount _) kX12_229 (by decide) (Nat.le_of_ble_eq_true rfl) (Nat.zero_add _) (Nat.zero_add _) dX12_most_85 ?_
      refine xr_iadd dX12_most_88 ?_
      skip
      refine xr_is8 dX12_most_89 (by decide) rfl ?_
      refine xr_al0 dX12_most_91 ?_
      refine xr_get W.o fX12_9 rfl dX12_most_92 ?_
      refine xr_il6 dX12_most_95 ?_
      refine xr_il7 dX12_most_97 ?_
      refine xr_Si3 (s_mWater W.a1 (rr_ok R ok) _ _) kX12_218 (by decide) (Nat.le_of_ble_eq_true rfl) (Nat.zero_add _) (Nat.zero_add _) dX12_most_99 ?_
      refine xr_eqi (y := hWater σ (nI i) (nI j)) (rr_water R _ _) ?_
      refine xr_is9 dX12_most_102 (by decide) rfl ?_
      refine xr_il8 dX12_most_104 ?_
      refine xr_ifeq (tgt := 164) dX12_most_106 (by decide) (fun zc106 => ?_) (fun zc106 => ?_)
      · skip
        refine xr_inc7 dX12_most_164 (nI_inc j) (by decide) rfl ?_
        refine xr_goto (tgt := 65) dX12_most_167 (by decide) ?_
        exact ih (j + 1) (ms_n (by omega) (by omega) hm (Or.inl zc106)) hc W (by omega)
      · skip
        refine xr_al0 dX12_most_109 ?_
        refine xr_al0 dX12_most_110 ?_
        refine xr_get W.o fX12_9 rfl dX12_most_111 ?_
        refine xr_ic1 dX12_most_114 ?_
        refine xr_il7 dX12_most_115 ?_
        refine xr_Vi3 (s_mIsGroup W W.a1 (rr_ok R ok) (s := 1) (by decide) _) kX12_266 (by decide) (Nat.le_of_ble_eq_true rfl) (Nat.zero_add _) (Nat.zero_add _) dX12_most_117 ?_
        refine xr_eqi (y := bI (hMay σ 1 (nI j))) (bI_iff (rr_may R 1 (nI j))) ?_
        refine xr_ifeq (tgt := 164) dX12_most_120 (by decide) (fun zc120 => ?_) (fun zc120 => ?_)
        · skip
          refine xr_inc7 dX12_most_164 (nI_inc j) (by decide) rfl ?_
          refine xr_goto (tgt := 65) dX12_most_167 (by decide) ?_
          exact ih (j + 1) (ms_n (by omega) (by omega) hm (Or.inr (Or.inr (Or.inl (Decidable.not_not.mp (fun q => (bI_0.mp zc120) ⟨may_at ok (s := 1) (by decide) (by omega), q⟩)))))) hc W (by omega)
        · skip
          refine xr_il9 dX12_most_123 ?_
          refine xr_il1 dX12_most_125 ?_
          refine xr_icmpgt (tgt := 164) dX12_most_126 (by decide) (fun zc126 => ?_) (fun zc126 => ?_)
          · skip
            refine xr_inc7 dX12_most_164 (nI_inc j) (by decide) rfl ?_
            refine xr_goto (tgt := 65) dX12_most_167 (by decide) ?_
            exact ih (j + 1) (ms_n (by omega) (by omega) hm (Or.inr (Or.inr (Or.inr (Or.inl zc126))))) hc W (by omega)
          · skip
            refine xr_il8 dX12_most_129 ?_
            refine xr_il2 dX12_most_131 ?_
            refine xr_icmplt (tgt := 164) dX12_most_132 (by decide) (fun zc132 => ?_) (fun zc132 => ?_)
            · skip
              refine xr_inc7 dX12_most_164 (nI_inc j) (by decide) rfl ?_
              refine xr_goto (tgt := 65) dX12_most_167 (by decide) ?_
              exact ih (j + 1) (ms_n (by omega) (by omega) hm (Or.inr (Or.inr (Or.inr (Or.inr (Or.inl zc132)))))) hc W (by omega)
            · skip
              refine xr_il8 dX12_most_135 ?_
              refine xr_il2 dX12_most_137 ?_
              refine xr_icmpne (tgt := 150) dX12_most_138 (by decide) (fun zc138 => ?_) (fun zc138 => ?_)
              · skip
                refine xr_il8 dX12_most_150 ?_
                refine xr_is2 dX12_most_152 (by decide) rfl ?_
                refine xr_il9 dX12_most_153 ?_
                refine xr_is3 dX12_most_155 (by decide) rfl ?_
                refine xr_il6 dX12_most_156 ?_
                refine xr_is4 dX12_most_158 (by decide) rfl ?_
                refine xr_il7 dX12_most_160 ?_
                refine xr_is5 dX12_most_162 (by decide) rfl ?_
                refine xr_inc7 dX12_most_164 (nI_inc j) (by decide) rfl ?_
                refine xr_goto (tgt := 65) dX12_most_167 (by decide) ?_
                exact ih (j + 1) (ms_y ok (by omega) (by omega) hm zc106 hg (Decidable.not_not.mp (fun q => zc120 (bI_0.mpr q))).2 zc126 zc132 (Or.inl zc138)) hc W (by omega)
              · skip
                refine xr_il9 dX12_most_141 ?_
                refine xr_il3 dX12_most_143 ?_
                refine xr_icmplt (tgt := 150) dX12_most_144 (by decide) (fun zc144 => ?_) (fun zc144 => ?_)
                · skip
                  refine xr_il8 dX12_most_150 ?_
                  refine xr_is2 dX12_most_152 (by decide) rfl ?_
                  refine xr_il9 dX12_most_153 ?_
                  refine xr_is3 dX12_most_155 (by decide) rfl ?_
                  refine xr_il6 dX12_most_156 ?_
                  refine xr_is4 dX12_most_158 (by decide) rfl ?_
                  refine xr_il7 dX12_most_160 ?_
                  refine xr_is5 dX12_most_162 (by decide) rfl ?_
                  refine xr_inc7 dX12_most_164 (nI_inc j) (by decide) rfl ?_
                  refine xr_goto (tgt := 65) dX12_most_167 (by decide) ?_
                  exact ih (j + 1) (ms_y ok (by omega) (by omega) hm zc106 hg (Decidable.not_not.mp (fun q => zc120 (bI_0.mpr q))).2 zc126 zc132 (Or.inr zc144)) hc W (by omega)
                · skip
                  refine xr_goto (tgt := 164) dX12_most_147 (by decide) ?_
                  refine xr_inc7 dX12_most_164 (nI_inc j) (by decide) rfl ?_
                  refine xr_goto (tgt := 65) dX12_most_167 (by decide) ?_
                  exact ih (j + 1) (ms_n (by omega) (by omega) hm (Or.inr (Or.inr (Or.inr (Or.inr (Or.inr (⟨zc138, zc144⟩))))))) hc W (by omega)
set_option maxRecDepth 20000 in
theorem lp_mMostO {K : xK} {B : Nat} {l : Launch} {h0 : xH} {Y : Nat} {m : xs} {u : Nat → Nat → Int32} {v : Nat → Int64} {tn : Nat} {tf : xs} {rk : Int32} {rv : Nat → Int64} {σ : xs} {pn : Nat} {τ : Nat → xs} {ks : Nat → Bool} {κ : Nat → xs} {φ : xs → Int32} {hn : Nat} {hf hg : xs} {wn : Nat} {wf wg : xs} (C : maC K B l Y m u v tn tf rk rv σ pn τ ks κ φ hn hf hg wn wf wg) (h5 : m 5 = 0) {rd : Value} {x : Int32} : ∀ (r i : Nat) {a b c d : Int32} {x7 x8 x9 : Option Value} {h : xH} {z : Q4} (hm : mq z a b c d) (W : xMw K h0 h Y m rd (Y + 6) (Y + 7) u v), i + r = aN σ 0 + 1 → xT K B l 206 RX12 false cX12_most 10 (some .int) 0 0 0 0 (xPi (fun zr g => zr = (msE rk rv (msO σ x r i z)).1 ∧ xMa K B l h0 g Y 0 tn tf ((msE rk rv (msO σ x r i z)).2.1) ((msE rk rv (msO σ x r i z)).2.2) σ pn τ ks κ φ hn hf hg wn wf wg)) 32 [some (.ref Y), some (.int x), some (.int a), some (.int b), some (.int c), some (.int d), some (.int (nI i)), x7, x8, x9] [] h := by
  obtain ⟨T, Rw, ⟨R, ok, iv⟩, P, Kp, L, H, Sw⟩ := id C
  intro r
  induction r with
  | zero =>
    intro i a b c d x7 x8 x9 h z hm W hk
    have ha := (hAll_n ok (s := 0) (by decide)).2
    have hb := (hAll_n ok (s := 1) (by decide)).2
    refine xr_il6 dX12_most_32 ?_
    refine xr_al0 dX12_most_34 ?_
    refine xr_get W.o fX12_9 rfl dX12_most_35 ?_
    refine xr_ic0 dX12_most_38 ?_
    refine xr_Si2 (s_mAllOf W.a1 (rr_ok R ok) (s := 0) (by decide)) kX12_187 (by decide) (Nat.le_of_ble_eq_true rfl) (Nat.zero_add _) (Nat.zero_add _) dX12_most_39 ?_
    refine xr_eqi (y := nI (aN σ 0)) ((rr_all R _).trans (hAll_n ok (s := 0) (by decide)).1) ?_
    refine xr_icmpgt (tgt := 176) dX12_most_42 (by decide) (fun zc42 => ?_) (fun zc42 => ?_)
    · skip
      refine xr_il2 dX12_most_176 ?_
      refine xr_ifne (tgt := 183) dX12_most_177 (by decide) (fun zc177 => ?_) (fun zc177 => ?_)
      · skip
        refine xr_al0 dX12_most_183 ?_
        refine xr_ic0 dX12_most_184 ?_
        refine xr_put W.o fX12_86 (Nat.le_of_ble_eq_true rfl) rfl rfl dX12_most_185 ?_
        refine xT.nm (fun zh1 zg1 => ?_)
        have W := W.f4 zg1
        refine xr_al0 dX12_most_188 ?_
        refine xr_il3 dX12_most_189 ?_
        refine xr_i2l dX12_most_190 ?_
        refine xr_Vpv1 (s_mTell W (k := 0) rfl (by decide) _) kX12_253 (by decide) (Nat.le_of_ble_eq_true rfl) (Nat.zero_add _) (Nat.zero_add _) dX12_most_191 (fun zh2 zq2 => ?_)
        have W := zq2
        refine xr_al0 dX12_most_194 ?_
        refine xr_il4 dX12_most_195 ?_
        refine xr_i2l dX12_most_197 ?_
        refine xr_Vpv1 (s_mTell W (k := 1) rfl (by decide) _) kX12_253 (by decide) (Nat.le_of_ble_eq_true rfl) (Nat.zero_add _) (Nat.zero_add _) dX12_most_198 (fun zh3 zq3 => ?_)
        have W := zq3
        refine xr_al0 dX12_most_201 ?_
        refine xr_il5 dX12_most_202 ?_
        refine xr_i2l dX12_most_204 ?_
        refine xr_Vpv1 (s_mTell W (k := 2) rfl (by decide) _) kX12_253 (by decide) (Nat.le_of_ble_eq_true rfl) (Nat.zero_add _) (Nat.zero_add _) dX12_most_205 (fun zh4 zq4 => ?_)
        have W := zq4
        refine xr_il2 dX12_most_208 ?_
        refine xr_iret dX12_most_209 rfl ?_
        have e : msE rk rv z = (a, 3, tl3 rv b c d) := by
          rcases hm with ⟨-, z2, -⟩ | ⟨z1, z2⟩
          · exact absurd z2 zc177
          · rw [z1]
            exact if_neg z2
        rw [show msO σ x 0 i z = z from rfl, e]
        exact ⟨_, rfl, rfl, ⟨_, _, _, _, W, T, maR3 _ _ _, ⟨R, ok, iv⟩, P, Kp, L, H, Sw, h5⟩⟩
      · skip
        refine xr_bipush (v := (-2)) dX12_most_180 (by decide) ?_
        refine xr_iret dX12_most_182 rfl ?_
        have e : msE rk rv z = (-2, rk, rv) := by
          rcases hm with ⟨z1, -, -⟩ | ⟨-, z2⟩
          · rw [z1]
            rfl
          · exact absurd zc177 z2
        rw [show msO σ x 0 i z = z from rfl, e]
        exact ⟨_, rfl, rfl, ⟨_, _, _, _, W, T, Rw, ⟨R, ok, iv⟩, P, Kp, L, H, Sw, h5⟩⟩
    · skip
      exact absurd (nI_lt (by omega) (by omega)) zc42
  | succ r ih =>
    intro i a b c d x7 x8 x9 h z hm W hk
    have ha := (hAll_n ok (s := 0) (by decide)).2
    have hb := (hAll_n ok (s := 1) (by decide)).2
    refine xr_il6 dX12_most_32 ?_
    refine xr_al0 dX12_most_34 ?_
    refine xr_get W.o fX12_9 rfl dX12_most_35 ?_
    refine xr_ic0 dX12_most_38 ?_
    refine xr_Si2 (s_mAllOf W.a1 (rr_ok R ok) (s := 0) (by decide)) kX12_187 (by decide) (Nat.le_of_ble_eq_true rfl) (Nat.zero_add _) (Nat.zero_add _) dX12_most_39 ?_
    refine xr_eqi (y := nI (aN σ 0)) ((rr_all R _).trans (hAll_n ok (s := 0) (by decide)).1) ?_
    refine xr_icmpgt (tgt := 176) dX12_most_42 (by decide) (fun zc42 => ?_) (fun zc42 => ?_)
    · skip
      exact absurd zc42 (nI_nlt (by omega) (by omega))
    · skip
      refine xr_al0 dX12_most_45 ?_
      refine xr_al0 dX12_most_46 ?_
      refine xr_get W.o fX12_9 rfl dX12_most_47 ?_
      refine xr_ic0 dX12_most_50 ?_
      refine xr_il6 dX12_most_51 ?_
      refine xr_Vi3 (s_mIsGroup W W.a1 (rr_ok R ok) (s := 0) (by decide) _) kX12_266 (by decide) (Nat.le_of_ble_eq_true rfl) (Nat.zero_add _) (Nat.zero_add _) dX12_most_53 ?_
      refine xr_eqi (y := bI (hMay σ 0 (nI i))) (bI_iff (rr_may R 0 (nI i))) ?_
      refine xr_ifne (tgt := 62) dX12_most_56 (by decide) (fun zc56 => ?_) (fun zc56 => ?_)
      · skip
        refine xr_ic0 dX12_most_62 ?_
        refine xr_is7 dX12_most_63 (by decide) rfl ?_
        have hg : ¬ σ 12 < bc (nI i) := (Decidable.not_not.mp (fun q => zc56 (bI_0.mpr q))).2
        rw [msO_s]
        refine lp_mMostI C h5 (by omega) hg (aN σ 1 + 1) 0 hm (fun {h} {a} {b} {c} {d} {x7} {x8} {x9} hm W => ?_) W (by omega)
        refine xr_inc6 dX12_most_170 (nI_inc i) (by decide) rfl ?_
        refine xr_goto (tgt := 32) dX12_most_173 (by decide) ?_
        exact ih (i + 1) hm W (by omega)
      · skip
        refine xr_goto (tgt := 170) dX12_most_59 (by decide) ?_
        refine xr_inc6 dX12_most_170 (nI_inc i) (by decide) rfl ?_
        refine xr_goto (tgt := 32) dX12_most_173 (by decide) ?_
        have hg : σ 12 < bc (nI i) := Decidable.not_not.mp (fun q => (bI_0.mp zc56) ⟨may_at ok (s := 0) (by decide) (by omega), q⟩)
        rw [msO_s]
        exact ih (i + 1) (ms_skip (by omega) hg _ _ (by omega) hm) W (by omega)
set_option maxRecDepth 20000 in
theorem a_most {K : xK} {B : Nat} {l : Launch} {h0 h : xH} {Y : Nat} {th : Int32} {tn : Nat} {tf : xs} {rk : Int32} {rv : Nat → Int64} {σ : xs} {pn : Nat} {τ : Nat → xs} {ks : Nat → Bool} {κ : Nat → xs} {φ : xs → Int32} {hn : Nat} {hf hg : xs} {wn : Nat} {wf wg : xs} (A : xMa K B l h0 h Y th tn tf rk rv σ pn τ ks κ φ hn hf hg wn wf wg) (x : Int32) : xV K B l 206 mX12_most 0 0 (Y) [.int x] h (xPi (fun zr g => zr = (msR σ rk rv x).1 ∧ xMa K B l h0 g Y 0 tn tf ((msR σ rk rv x).2.1) ((msR σ rk rv x).2.2) σ pn τ ks κ φ hn hf hg wn wf wg)) := by
  obtain ⟨m, rd, u, v, W, T, Rw, ⟨R, ok, iv⟩, P, Kp, L, H, Sw, hth⟩ := A
  refine ⟨⟨_, _, _, _, W.o, rfl⟩, qX12_most, ?_⟩
  refine xS.intro RX12 false ⟨rfl, rfl, by decide, by decide, Nat.le_of_ble_eq_true rfl⟩ (ls := [some (.ref Y), some (.int x), none, none, none, none, none, none, none, none]) rfl ?_
  refine xr_al0 dX12_most_0 ?_
  refine xr_ic0 dX12_most_1 ?_
  refine xr_put W.o fX12_82 (Nat.le_of_ble_eq_true rfl) rfl rfl dX12_most_2 ?_
  refine xT.nm (fun zh1 zg1 => ?_)
  have W := W.f5 zg1
  refine xr_il1 dX12_most_5 ?_
  refine xr_ic0 dX12_most_6 ?_
  refine xr_bipush (v := 99) dX12_most_7 (by decide) ?_
  refine xr_Si3 (s_mIn _ _ _) kX12_89 (by decide) (Nat.le_of_ble_eq_true rfl) (Nat.zero_add _) (Nat.zero_add _) dX12_most_9 ?_
  refine xr_ifne (tgt := 17) dX12_most_12 (by decide) (fun zc12 => ?_) (fun zc12 => ?_)
  · skip
    refine xr_ic0 dX12_most_17 ?_
    refine xr_is2 dX12_most_18 (by decide) rfl ?_
    refine xr_ldcw nX12_300 dX12_most_19 ?_
    refine xr_is3 dX12_most_22 (by decide) rfl ?_
    refine xr_ic0 dX12_most_23 ?_
    refine xr_is4 dX12_most_24 (by decide) rfl ?_
    refine xr_ic0 dX12_most_26 ?_
    refine xr_is5 dX12_most_27 (by decide) rfl ?_
    refine xr_ic0 dX12_most_29 ?_
    refine xr_is6 dX12_most_30 (by decide) rfl ?_
    have e : (msR σ rk rv x) = _ := if_neg (fun q => zc12 (mIn_0.mpr q))
    rw [e]
    have C : maC K B l Y (upd m 5 0) u v tn tf rk rv σ pn τ ks κ φ hn hf hg wn wf wg := ⟨T, Rw, ⟨R, ok, iv⟩, P, Kp, L, H, Sw⟩
    exact lp_mMostO C rfl (aN σ 0 + 1) 0 (Or.inl ⟨rfl, rfl, rfl⟩) W (by omega)
  · skip
    refine xr_icm1 dX12_most_15 ?_
    refine xr_iret dX12_most_16 rfl ?_
    have e : (msR σ rk rv x) = _ := if_pos (mIn_0.mp zc12)
    rw [e]
    exact ⟨_, rfl, rfl, ⟨_, _, _, _, W, T, Rw, ⟨R, ok, iv⟩, P, Kp, L, H, Sw, rfl⟩⟩
theorem ak_n (σ : xs) {i j : Nat} (hi : i < 32) (hj : j < 32) (z : Q4) (c : ¬ wt σ 0 (nI i) = wt σ 1 (nI j)) : ak1 σ (nI i) (nI j) z = z := by
  unfold ak1
  rw [gAt_k _ hi, gAt_k _ hj]
  exact if_neg (fun q => c q.symm)
theorem ak_y (σ : xs) {i j : Nat} (hi : i < 32) (hj : j < 32) (n : Nat) (a b c : Int32) (e : wt σ 0 (nI i) = wt σ 1 (nI j)) (q : a < wt σ 0 (nI i)) : ak1 σ (nI i) (nI j) (nI n, a, b, c) = (nI (n + 1), wt σ 0 (nI i), nI i, nI j) := by
  unfold ak1
  rw [gAt_k _ hi, gAt_k _ hj]
  exact (if_pos e.symm).trans ((if_pos q).trans (by rw [← nI_1]; rfl))
theorem ak_m (σ : xs) {i j : Nat} (hi : i < 32) (hj : j < 32) (n : Nat) (a b c : Int32) (e : wt σ 0 (nI i) = wt σ 1 (nI j)) (q : ¬ a < wt σ 0 (nI i)) : ak1 σ (nI i) (nI j) (nI n, a, b, c) = (nI (n + 1), a, b, c) := by
  unfold ak1
  rw [gAt_k _ hi, gAt_k _ hj]
  exact (if_pos e.symm).trans ((if_neg q).trans (by rw [← nI_1]))
set_option maxRecDepth 20000 in
theorem lp_mAlikeI {K : xK} {B : Nat} {l : Launch} {h0 : xH} {Y : Nat} {m : xs} {u : Nat → Nat → Int32} {v : Nat → Int64} {tn : Nat} {tf : xs} {rk : Int32} {rv : Nat → Int64} {σ : xs} {pn : Nat} {τ : Nat → xs} {ks : Nat → Bool} {κ : Nat → xs} {φ : xs → Int32} {hn : Nat} {hf hg : xs} {wn : Nat} {wf wg : xs} (C : maC K B l Y m u v tn tf rk rv σ pn τ ks κ φ hn hf hg wn wf wg) (h5 : m 5 = 0) {rd : Value} {Q : Option Value → xH → Prop} {i : Nat} (hi : i ≤ aN σ 0) : ∀ (r j : Nat) {n : Nat} {a b c : Int32} {x7 : Option Value} {h : xH} (hn : n ≤ 32 * i + j) (hc : ∀ {h : xH} {n' : Nat} {a' b' c' : Int32} {x6 x7 : Option Value}, n' ≤ 32 * (i + 1) → akI σ (nI i) r j (nI n, a, b, c) = (nI n', a', b', c') → xMw K h0 h Y m rd (Y + 6) (Y + 7) u v → xT K B l 206 RX12 false cX12_alike 8 (some .int) 0 0 0 0 (Q) 104 [some (.ref Y), some (.int (nI n')), some (.int a'), some (.int b'), some (.int c'), some (.int (nI i)), x6, x7] [] h) (W : xMw K h0 h Y m rd (Y + 6) (Y + 7) u v), j + r = aN σ 1 + 1 → xT K B l 206 RX12 false cX12_alike 8 (some .int) 0 0 0 0 (Q) 33 [some (.ref Y), some (.int (nI n)), some (.int a), some (.int b), some (.int c), some (.int (nI i)), some (.int (nI j)), x7] [] h := by
  obtain ⟨T, Rw, ⟨R, ok, iv⟩, P, Kp, L, H, Sw⟩ := id C
  intro r
  induction r with
  | zero =>
    intro j n a b c x7 h hn hc W hk
    have ha := (hAll_n ok (s := 0) (by decide)).2
    have hb := (hAll_n ok (s := 1) (by decide)).2
    refine xr_il6 dX12_alike_33 ?_
    refine xr_al0 dX12_alike_35 ?_
    refine xr_get W.o fX12_9 rfl dX12_alike_36 ?_
    refine xr_ic1 dX12_alike_39 ?_
    refine xr_Si2 (s_mAllOf W.a1 (rr_ok R ok) (s := 1) (by decide)) kX12_187 (by decide) (Nat.le_of_ble_eq_true rfl) (Nat.zero_add _) (Nat.zero_add _) dX12_alike_40 ?_
    refine xr_eqi (y := nI (aN σ 1)) ((rr_all R _).trans (hAll_n ok (s := 1) (by decide)).1) ?_
    refine xr_icmpgt (tgt := 104) dX12_alike_43 (by decide) (fun zc43 => ?_) (fun zc43 => ?_)
    · skip
      exact hc (by omega) rfl W
    · skip
      exact absurd (nI_lt (by omega) (by omega)) zc43
  | succ r ih =>
    intro j n a b c x7 h hn hc W hk
    have ha := (hAll_n ok (s := 0) (by decide)).2
    have hb := (hAll_n ok (s := 1) (by decide)).2
    refine xr_il6 dX12_alike_33 ?_
    refine xr_al0 dX12_alike_35 ?_
    refine xr_get W.o fX12_9 rfl dX12_alike_36 ?_
    refine xr_ic1 dX12_alike_39 ?_
    refine xr_Si2 (s_mAllOf W.a1 (rr_ok R ok) (s := 1) (by decide)) kX12_187 (by decide) (Nat.le_of_ble_eq_true rfl) (Nat.zero_add _) (Nat.zero_add _) dX12_alike_40 ?_
    refine xr_eqi (y := nI (aN σ 1)) ((rr_all R _).trans (hAll_n ok (s := 1) (by decide)).1) ?_
    refine xr_icmpgt (tgt := 104) dX12_alike_43 (by decide) (fun zc43 => ?_) (fun zc43 => ?_)
    · skip
      exact absurd zc43 (nI_nlt (by omega) (by omega))
    · skip
      refine xr_al0 dX12_alike_46 ?_
      refine xr_get W.o fX12_9 rfl dX12_alike_47 ?_
      refine xr_ic0 dX12_alike_50 ?_
      refine xr_il5 dX12_alike_51 ?_
      refine xr_Si3 (s_mWeightOf W.a1 (rr_ok R ok) (s := 0) (by decide) _) kX12_191 (by decide) (Nat.le_of_ble_eq_true rfl) (Nat.zero_add _) (Nat.zero_add _) dX12_alike_53 ?_
      refine xr_eqi (y := wt σ 0 (nI i)) (rr_wt R (by decide) _) ?_
      refine xr_is7 dX12_alike_56 (by decide) rfl ?_
      refine xr_il7 dX12_alike_58 ?_
      refine xr_al0 dX12_alike_60 ?_
      refine xr_get W.o fX12_9 rfl dX12_alike_61 ?_
      refine xr_ic1 dX12_alike_64 ?_
      refine xr_il6 dX12_alike_65 ?_
      refine xr_Si3 (s_mWeightOf W.a1 (rr_ok R ok) (s := 1) (by decide) _) kX12_191 (by decide) (Nat.le_of_ble_eq_true rfl) (Nat.zero_add _) (Nat.zero_add _) dX12_alike_67 ?_
      refine xr_eqi (y := wt σ 1 (nI j)) (rr_wt R (by decide) _) ?_
      refine xr_icmpeq (tgt := 76) dX12_alike_70 (by decide) (fun zc70 => ?_) (fun zc70 => ?_)
      · skip
        refine xr_inc1 dX12_alike_76 (nI_inc n) (by decide) rfl ?_
        refine xr_il7 dX12_alike_79 ?_
        refine xr_il2 dX12_alike_81 ?_
        refine xr_icmpgt (tgt := 88) dX12_alike_82 (by decide) (fun zc82 => ?_) (fun zc82 => ?_)
        · skip
          refine xr_il7 dX12_alike_88 ?_
          refine xr_is2 dX12_alike_90 (by decide) rfl ?_
          refine xr_il5 dX12_alike_91 ?_
          refine xr_is3 dX12_alike_93 (by decide) rfl ?_
          refine xr_il6 dX12_alike_94 ?_
          refine xr_is4 dX12_alike_96 (by decide) rfl ?_
          refine xr_inc6 dX12_alike_98 (nI_inc j) (by decide) rfl ?_
          refine xr_goto (tgt := 33) dX12_alike_101 (by decide) ?_
          rw [akI_s, ak_y σ (by omega) (by omega) n a b c zc70 zc82] at hc
          exact ih (j + 1) (by omega) hc W (by omega)
        · skip
          refine xr_goto (tgt := 98) dX12_alike_85 (by decide) ?_
          refine xr_inc6 dX12_alike_98 (nI_inc j) (by decide) rfl ?_
          refine xr_goto (tgt := 33) dX12_alike_101 (by decide) ?_
          rw [akI_s, ak_m σ (by omega) (by omega) n a b c zc70 zc82] at hc
          exact ih (j + 1) (by omega) hc W (by omega)
      · skip
        refine xr_goto (tgt := 98) dX12_alike_73 (by decide) ?_
        refine xr_inc6 dX12_alike_98 (nI_inc j) (by decide) rfl ?_
        refine xr_goto (tgt := 33) dX12_alike_101 (by decide) ?_
        rw [akI_s, ak_n σ (by omega) (by omega) _ zc70] at hc
        exact ih (j + 1) (by omega) hc W (by omega)
set_option maxRecDepth 20000 in
theorem lp_mAlikeO {K : xK} {B : Nat} {l : Launch} {h0 : xH} {Y : Nat} {m : xs} {u : Nat → Nat → Int32} {v : Nat → Int64} {tn : Nat} {tf : xs} {rk : Int32} {rv : Nat → Int64} {σ : xs} {pn : Nat} {τ : Nat → xs} {ks : Nat → Bool} {κ : Nat → xs} {φ : xs → Int32} {hn : Nat} {hf hg : xs} {wn : Nat} {wf wg : xs} (C : maC K B l Y m u v tn tf rk rv σ pn τ ks κ φ hn hf hg wn wf wg) (h5 : m 5 = 0) {rd : Value} : ∀ (r i : Nat) {n : Nat} {a b c : Int32} {x6 x7 : Option Value} {h : xH} (hnn : n ≤ 32 * i) (W : xMw K h0 h Y m rd (Y + 6) (Y + 7) u v), i + r = aN σ 0 + 1 → xT K B l 206 RX12 false cX12_alike 8 (some .int) 0 0 0 0 (xPi (fun zr g => zr = (akE rv (akO σ r i (nI n, a, b, c))).1 ∧ xMa K B l h0 g Y 0 tn tf ((akE rv (akO σ r i (nI n, a, b, c))).2.1) ((akE rv (akO σ r i (nI n, a, b, c))).2.2) σ pn τ ks κ φ hn hf hg wn wf wg)) 17 [some (.ref Y), some (.int (nI n)), some (.int a), some (.int b), some (.int c), some (.int (nI i)), x6, x7] [] h := by
  obtain ⟨T, Rw, ⟨R, ok, iv⟩, P, Kp, L, H, Sw⟩ := id C
  intro r
  induction r with
  | zero =>
    intro i n a b c x6 x7 h hnn W hk
    have ha := (hAll_n ok (s := 0) (by decide)).2
    have hb := (hAll_n ok (s := 1) (by decide)).2
    refine xr_il5 dX12_alike_17 ?_
    refine xr_al0 dX12_alike_19 ?_
    refine xr_get W.o fX12_9 rfl dX12_alike_20 ?_
    refine xr_ic0 dX12_alike_23 ?_
    refine xr_Si2 (s_mAllOf W.a1 (rr_ok R ok) (s := 0) (by decide)) kX12_187 (by decide) (Nat.le_of_ble_eq_true rfl) (Nat.zero_add _) (Nat.zero_add _) dX12_alike_24 ?_
    refine xr_eqi (y := nI (aN σ 0)) ((rr_all R _).trans (hAll_n ok (s := 0) (by decide)).1) ?_
    refine xr_icmpgt (tgt := 110) dX12_alike_27 (by decide) (fun zc27 => ?_) (fun zc27 => ?_)
    · skip
      refine xr_al0 dX12_alike_110 ?_
      refine xr_ic0 dX12_alike_111 ?_
      refine xr_put W.o fX12_86 (Nat.le_of_ble_eq_true rfl) rfl rfl dX12_alike_112 ?_
      refine xT.nm (fun zh1 zg1 => ?_)
      have W := W.f4 zg1
      refine xr_il1 dX12_alike_115 ?_
      refine xr_ifle (tgt := 138) dX12_alike_116 (by decide) (fun zc116 => ?_) (fun zc116 => ?_)
      · skip
        refine xr_il1 dX12_alike_138 ?_
        refine xr_iret dX12_alike_139 rfl ?_
        have n0 : n = 0 := Nat.eq_zero_of_not_pos (fun q => nI_nle q (by omega) zc116)
        subst n0
        exact ⟨_, rfl, rfl, ⟨_, _, _, _, W, T, maR0, ⟨R, ok, iv⟩, P, Kp, L, H, Sw, h5⟩⟩
      · skip
        refine xr_al0 dX12_alike_119 ?_
        refine xr_il2 dX12_alike_120 ?_
        refine xr_i2l dX12_alike_121 ?_
        refine xr_Vpv1 (s_mTell W (k := 0) rfl (by decide) _) kX12_253 (by decide) (Nat.le_of_ble_eq_true rfl) (Nat.zero_add _) (Nat.zero_add _) dX12_alike_122 (fun zh2 zq2 => ?_)
        have W := zq2
        refine xr_al0 dX12_alike_125 ?_
        refine xr_il3 dX12_alike_126 ?_
        refine xr_i2l dX12_alike_127 ?_
        refine xr_Vpv1 (s_mTell W (k := 1) rfl (by decide) _) kX12_253 (by decide) (Nat.le_of_ble_eq_true rfl) (Nat.zero_add _) (Nat.zero_add _) dX12_alike_128 (fun zh3 zq3 => ?_)
        have W := zq3
        refine xr_al0 dX12_alike_131 ?_
        refine xr_il4 dX12_alike_132 ?_
        refine xr_i2l dX12_alike_134 ?_
        refine xr_Vpv1 (s_mTell W (k := 2) rfl (by decide) _) kX12_253 (by decide) (Nat.le_of_ble_eq_true rfl) (Nat.zero_add _) (Nat.zero_add _) dX12_alike_135 (fun zh4 zq4 => ?_)
        have W := zq4
        refine xr_il1 dX12_alike_138 ?_
        refine xr_iret dX12_alike_139 rfl ?_
        have e : akE rv (akO σ 0 i (nI n, a, b, c)) = (nI n, 3, tl3 rv a b c) := if_neg (fun q => zc116 (by rw [show nI n = 0 from q]; decide))
        rw [e]
        exact ⟨_, rfl, rfl, ⟨_, _, _, _, W, T, maR3 _ _ _, ⟨R, ok, iv⟩, P, Kp, L, H, Sw, h5⟩⟩
    · skip
      exact absurd (nI_lt (by omega) (by omega)) zc27
  | succ r ih =>
    intro i n a b c x6 x7 h hnn W hk
    have ha := (hAll_n ok (s := 0) (by decide)).2
    have hb := (hAll_n ok (s := 1) (by decide)).2
    refine xr_il5 dX12_alike_17 ?_
    refine xr_al0 dX12_alike_19 ?_
    refine xr_get W.o fX12_9 rfl dX12_alike_20 ?_
    refine xr_ic0 dX12_alike_23 ?_
    refine xr_Si2 (s_mAllOf W.a1 (rr_ok R ok) (s := 0) (by decide)) kX12_187 (by decide) (Nat.le_of_ble_eq_true rfl) (Nat.zero_add _) (Nat.zero_add _) dX12_alike_24 ?_
    refine xr_eqi (y := nI (aN σ 0)) ((rr_all R _).trans (hAll_n ok (s := 0) (by decide)).1) ?_
    refine xr_icmpgt (tgt := 110) dX12_alike_27 (by decide) (fun zc27 => ?_) (fun zc27 => ?_)
    · skip
      exact absurd zc27 (nI_nlt (by omega) (by omega))
    · skip
      refine xr_ic1 dX12_alike_30 ?_
      refine xr_is6 dX12_alike_31 (by decide) rfl ?_
      refine lp_mAlikeI C h5 (by omega) (aN σ 1) 1 (by omega) (fun {h} {n'} {a'} {b'} {c'} {x6} {x7} hn' e' W => ?_) W (by omega)
      refine xr_inc5 dX12_alike_104 (nI_inc i) (by decide) rfl ?_
      refine xr_goto (tgt := 17) dX12_alike_107 (by decide) ?_
      rw [akO_s, e']
      exact ih (i + 1) (by omega) W (by omega)
set_option maxRecDepth 20000 in
theorem a_alike {K : xK} {B : Nat} {l : Launch} {h0 h : xH} {Y : Nat} {th : Int32} {tn : Nat} {tf : xs} {rk : Int32} {rv : Nat → Int64} {σ : xs} {pn : Nat} {τ : Nat → xs} {ks : Nat → Bool} {κ : Nat → xs} {φ : xs → Int32} {hn : Nat} {hf hg : xs} {wn : Nat} {wf wg : xs} (A : xMa K B l h0 h Y th tn tf rk rv σ pn τ ks κ φ hn hf hg wn wf wg)  : xV K B l 206 mX12_alike 0 0 (Y) [] h (xPi (fun zr g => zr = (akR σ rv).1 ∧ xMa K B l h0 g Y 0 tn tf ((akR σ rv).2.1) ((akR σ rv).2.2) σ pn τ ks κ φ hn hf hg wn wf wg)) := by
  obtain ⟨m, rd, u, v, W, T, Rw, ⟨R, ok, iv⟩, P, Kp, L, H, Sw, hth⟩ := A
  refine ⟨⟨_, _, _, _, W.o, rfl⟩, qX12_alike, ?_⟩
  refine xS.intro RX12 false ⟨rfl, rfl, by decide, by decide, Nat.le_of_ble_eq_true rfl⟩ (ls := [some (.ref Y), none, none, none, none, none, none, none]) rfl ?_
  refine xr_al0 dX12_alike_0 ?_
  refine xr_ic0 dX12_alike_1 ?_
  refine xr_put W.o fX12_82 (Nat.le_of_ble_eq_true rfl) rfl rfl dX12_alike_2 ?_
  refine xT.nm (fun zh1 zg1 => ?_)
  have W := W.f5 zg1
  refine xr_ic0 dX12_alike_5 ?_
  refine xr_is1 dX12_alike_6 (by decide) rfl ?_
  refine xr_ic0 dX12_alike_7 ?_
  refine xr_is2 dX12_alike_8 (by decide) rfl ?_
  refine xr_ic0 dX12_alike_9 ?_
  refine xr_is3 dX12_alike_10 (by decide) rfl ?_
  refine xr_ic0 dX12_alike_11 ?_
  refine xr_is4 dX12_alike_12 (by decide) rfl ?_
  refine xr_ic1 dX12_alike_14 ?_
  refine xr_is5 dX12_alike_15 (by decide) rfl ?_
  have C : maC K B l Y (upd m 5 0) u v tn tf rk rv σ pn τ ks κ φ hn hf hg wn wf wg := ⟨T, Rw, ⟨R, ok, iv⟩, P, Kp, L, H, Sw⟩
  exact lp_mAlikeO C rfl (aN σ 0) 1 (n := 0) (by omega) W (by omega)
