/-! The class's own methods: who is to board (written by wip/whole/car5.py) -/
def aN (σ : xs) (s : Nat) : Nat := 2 ^ ln σ s - 1
theorem hAll_n {σ : xs} (ok : hOk σ) {s : Nat} (hs : s < 2) : hAll σ (nI s) = nI (aN σ s) ∧ aN σ s < 32 := by
  unfold hAll aN
  rw [hWaits_s hs, (ok.1 s hs).1]
  have h5 := (ok.1 s hs).2
  generalize ln σ s = n at *
  rcases (show n = 0 ∨ n = 1 ∨ n = 2 ∨ n = 3 ∨ n = 4 ∨ n = 5 by omega) with rfl | rfl | rfl | rfl | rfl | rfl <;> exact ⟨rfl, by decide⟩
def gU (σ : xs) : Nat → Int32 := fun j => wt σ 0 (nI j)
def gL (σ : xs) : Nat → Int32 := fun j => wt σ 1 (nI j)
def gX (K : xK) (h : xH) (a : Nat) (σ : xs) : Prop := X3 h a (grO a (nI (aN σ 0)) (nI (aN σ 1)) (σ 12) (σ 13)) (iA K 32 (gU σ)) (iA K 32 (gL σ))
theorem gX.of {K : xK} {h g : xH} {a : Nat} {σ : xs} (ok : hOk σ) (e : g = P3 h a (grO a (hAll σ 0) (hAll σ 1) (σ 12) (σ 13)) (iA K 32 (fun j => wt σ 0 (nI j))) (iA K 32 (fun j => wt σ 1 (nI j)))) : gX K g a σ := by
  have q := x3_at e
  rw [show hAll σ 0 = nI (aN σ 0) from (hAll_n ok (s := 0) (by decide)).1, show hAll σ 1 = nI (aN σ 1) from (hAll_n ok (s := 1) (by decide)).1] at q
  exact q
abbrev Q4 : Type := Int32 × Int32 × Int32 × Int32
def ms1 (σ : xs) (v ab be : Int32) (z : Q4) : Q4 := if (z.1 < bc ab + bc be ∨ bc ab + bc be = z.1 ∧ gWat (gU σ) (gL σ) (σ 13) ab be < z.2.1) ∧ gWat (gU σ) (gL σ) (σ 13) ab be ≤ v ∧ grMay (nI (aN σ 0)) (nI (aN σ 1)) (σ 12) ab be then (bc ab + bc be, gWat (gU σ) (gL σ) (σ 13) ab be, ab, be) else z
def msI (σ : xs) (v ab : Int32) : Nat → Nat → Q4 → Q4
  | 0, _, z => z
  | r + 1, k, z => msI σ v ab r (k + 1) (ms1 σ v ab (nI k) z)
def msO (σ : xs) (v : Int32) : Nat → Nat → Q4 → Q4
  | 0, _, z => z
  | r + 1, k, z => msO σ v r (k + 1) (msI σ v (nI k) (aN σ 1 + 1) 0 z)
theorem msI_s (σ : xs) (v ab : Int32) (r k : Nat) (z : Q4) : msI σ v ab (r + 1) k z = msI σ v ab r (k + 1) (ms1 σ v ab (nI k) z) := rfl
theorem msO_s (σ : xs) (v : Int32) (r k : Nat) (z : Q4) : msO σ v (r + 1) k z = msO σ v r (k + 1) (msI σ v (nI k) (aN σ 1 + 1) 0 z) := rfl
def msE (rk : Int32) (rv : Nat → Int64) (z : Q4) : AR := if z.1 = 0 then (-2, rk, rv) else (z.1, 3, tl3 rv z.2.1 z.2.2.1 z.2.2.2)
def msR (σ : xs) (rk : Int32) (rv : Nat → Int64) (v : Int32) : AR := if v < 0 ∨ 99 < v then (-1, rk, rv) else msE rk rv (msO σ v (aN σ 0 + 1) 0 (0, 0, 0, 0))
set_option maxRecDepth 20000 in
theorem lp_mostI {K : xK} {B : Nat} {l : Launch} {h0 h : xH} {X D : Nat} {tn : Nat} {tf : Nat → Int32} {rk : Int32} {rv : Nat → Int64} {σ : xs} {β : xs} {γ : xs} {pn : Nat} {τ : Nat → xs} {ks : Nat → Bool} {κ : Nat → xs} {φ : xs → Int32} {hn : Nat} {hf : Nat → Int32} {hg : Nat → Int32} {wn : Nat} {wf : Nat → Int32} {wg : Nat → Int32} (W : xCw K h0 h X D tn tf rk rv σ β γ pn τ ks κ φ hn hf hg wn wf wg) (G : gX K h (X + 31) σ) (v ab : Int32) {Q : Option Value → xH → Prop} : ∀ (r k : Nat) (z : Q4) (y8 y9 y10 : Option Value), k + r = aN σ 1 + 1 → (∀ (y8 y9 y10 : Option Value), xT K B l 3 RX11 false cX11_most 11 (some .int) 0 0 0 0 (Q) 159 [some (.ref X), some (.int v), some (.int (msI σ v ab r k z).1), some (.int (msI σ v ab r k z).2.1), some (.int (msI σ v ab r k z).2.2.1), some (.int (msI σ v ab r k z).2.2.2), some (.int ab), some (.int (nI (aN σ 1 + 1))), y8, y9, y10] [] h) → xT K B l 3 RX11 false cX11_most 11 (some .int) 0 0 0 0 (Q) 51 [some (.ref X), some (.int v), some (.int z.1), some (.int z.2.1), some (.int z.2.2.1), some (.int z.2.2.2), some (.int ab), some (.int (nI k)), y8, y9, y10] [] h := by
  have hy := (hAll_n W.pok (s := 1) (by decide)).2
  intro r
  induction r with
  | zero =>
    intro k z y8 y9 y10 hk kx
    refine xr_il7 dX11_most_51 ?_
    refine xr_al0 dX11_most_53 ?_
    refine xr_get W.oX fX11_83 rfl dX11_most_54 ?_
    refine xr_get G.1 fX11_323 rfl dX11_most_57 ?_
    refine xr_icmpgt (tgt := 159) dX11_most_60 (by decide) (fun zc60 => ?_) (fun zc60 => ?_)
    · skip
      have hk' : k = aN σ 1 + 1 := hk
      subst hk'
      exact kx _ _ _
    · skip
      exact absurd (nI_lt (a := aN σ 1) (by omega) (by omega)) zc60
  | succ r ih =>
    intro k z y8 y9 y10 hk kx
    refine xr_il7 dX11_most_51 ?_
    refine xr_al0 dX11_most_53 ?_
    refine xr_get W.oX fX11_83 rfl dX11_most_54 ?_
    refine xr_get G.1 fX11_323 rfl dX11_most_57 ?_
    refine xr_icmpgt (tgt := 159) dX11_most_60 (by decide) (fun zc60 => ?_) (fun zc60 => ?_)
    · skip
      exact absurd zc60 (Int32.not_lt.mpr (nI_le (by omega) (by omega)))
    · skip
      refine xr_il6 dX11_most_63 ?_
      refine xr_Si1 (s_bitCount _) kX11_240 (by decide) (Nat.le_of_ble_eq_true rfl) (Nat.zero_add _) (Nat.zero_add _) dX11_most_65 ?_
      refine xr_il7 dX11_most_68 ?_
      refine xr_Si1 (s_bitCount _) kX11_240 (by decide) (Nat.le_of_ble_eq_true rfl) (Nat.zero_add _) (Nat.zero_add _) dX11_most_70 ?_
      refine xr_iadd dX11_most_73 ?_
      refine xr_is8 dX11_most_74 (by decide) rfl ?_
      refine xr_al0 dX11_most_76 ?_
      refine xr_get W.oX fX11_83 rfl dX11_most_77 ?_
      refine xr_il6 dX11_most_80 ?_
      refine xr_il7 dX11_most_82 ?_
      refine xr_Vi2 (s_gWater G _ _) kX11_326 (by decide) (Nat.le_of_ble_eq_true rfl) (Nat.zero_add _) (Nat.zero_add _) dX11_most_84 ?_
      refine xr_is9 dX11_most_87 (by decide) rfl ?_
      refine xr_il8 dX11_most_89 ?_
      refine xr_il2 dX11_most_91 ?_
      refine xr_icmpgt (tgt := 107) dX11_most_92 (by decide) (fun zc92 => ?_) (fun zc92 => ?_)
      · skip
        refine xr_ic1 dX11_most_107 ?_
        refine xr_goto (tgt := 112) dX11_most_108 (by decide) ?_
        refine xr_is10 dX11_most_112 (by decide) rfl ?_
        refine xr_il10 dX11_most_114 ?_
        refine xr_ifeq (tgt := 153) dX11_most_116 (by decide) (fun zc116 => ?_) (fun zc116 => ?_)
        · skip
          exact absurd zc116 (by decide)
        · skip
          refine xr_il9 dX11_most_119 ?_
          refine xr_il1 dX11_most_121 ?_
          refine xr_icmpgt (tgt := 153) dX11_most_122 (by decide) (fun zc122 => ?_) (fun zc122 => ?_)
          · skip
            refine xr_inc7 dX11_most_153 (nI_inc k) (by decide) rfl ?_
            refine xr_goto (tgt := 51) dX11_most_156 (by decide) ?_
            have e : ms1 σ v ab (nI k) z = _ := if_neg (fun q => absurd zc122 (Int32.not_lt.mpr q.2.1))
            rw [msI_s, e] at kx
            exact ih (k + 1) _ _ _ _ (by omega) kx
          · skip
            refine xr_al0 dX11_most_125 ?_
            refine xr_get W.oX fX11_83 rfl dX11_most_126 ?_
            refine xr_il6 dX11_most_129 ?_
            refine xr_il7 dX11_most_131 ?_
            refine xr_Vi2 (s_mayGo G _ _) kX11_327 (by decide) (Nat.le_of_ble_eq_true rfl) (Nat.zero_add _) (Nat.zero_add _) dX11_most_133 ?_
            refine xr_ifeq (tgt := 153) dX11_most_136 (by decide) (fun zc136 => ?_) (fun zc136 => ?_)
            · skip
              refine xr_inc7 dX11_most_153 (nI_inc k) (by decide) rfl ?_
              refine xr_goto (tgt := 51) dX11_most_156 (by decide) ?_
              have e : ms1 σ v ab (nI k) z = _ := if_neg (fun q => (bI_0.mp zc136) q.2.2)
              rw [msI_s, e] at kx
              exact ih (k + 1) _ _ _ _ (by omega) kx
            · skip
              refine xr_il8 dX11_most_139 ?_
              refine xr_is2 dX11_most_141 (by decide) rfl ?_
              refine xr_il9 dX11_most_142 ?_
              refine xr_is3 dX11_most_144 (by decide) rfl ?_
              refine xr_il6 dX11_most_145 ?_
              refine xr_is4 dX11_most_147 (by decide) rfl ?_
              refine xr_il7 dX11_most_149 ?_
              refine xr_is5 dX11_most_151 (by decide) rfl ?_
              refine xr_inc7 dX11_most_153 (nI_inc k) (by decide) rfl ?_
              refine xr_goto (tgt := 51) dX11_most_156 (by decide) ?_
              have e : ms1 σ v ab (nI k) z = _ := if_pos ⟨(Or.inl zc92), Int32.not_lt.mp zc122, (Decidable.not_not.mp (fun q => zc136 (bI_0.mpr q)))⟩
              rw [msI_s, e] at kx
              exact ih (k + 1) _ _ _ _ (by omega) kx
      · skip
        refine xr_il8 dX11_most_95 ?_
        refine xr_il2 dX11_most_97 ?_
        refine xr_icmpne (tgt := 111) dX11_most_98 (by decide) (fun zc98 => ?_) (fun zc98 => ?_)
        · skip
          refine xr_ic0 dX11_most_111 ?_
          refine xr_is10 dX11_most_112 (by decide) rfl ?_
          refine xr_il10 dX11_most_114 ?_
          refine xr_ifeq (tgt := 153) dX11_most_116 (by decide) (fun zc116 => ?_) (fun zc116 => ?_)
          · skip
            refine xr_inc7 dX11_most_153 (nI_inc k) (by decide) rfl ?_
            refine xr_goto (tgt := 51) dX11_most_156 (by decide) ?_
            have e : ms1 σ v ab (nI k) z = _ := if_neg (fun q => q.1.elim zc92 (fun q => zc98 q.1))
            rw [msI_s, e] at kx
            exact ih (k + 1) _ _ _ _ (by omega) kx
          · skip
            exact absurd rfl zc116
        · skip
          refine xr_il9 dX11_most_101 ?_
          refine xr_il3 dX11_most_103 ?_
          refine xr_icmpge (tgt := 111) dX11_most_104 (by decide) (fun zc104 => ?_) (fun zc104 => ?_)
          · skip
            refine xr_ic0 dX11_most_111 ?_
            refine xr_is10 dX11_most_112 (by decide) rfl ?_
            refine xr_il10 dX11_most_114 ?_
            refine xr_ifeq (tgt := 153) dX11_most_116 (by decide) (fun zc116 => ?_) (fun zc116 => ?_)
            · skip
              refine xr_inc7 dX11_most_153 (nI_inc k) (by decide) rfl ?_
              refine xr_goto (tgt := 51) dX11_most_156 (by decide) ?_
              have e : ms1 σ v ab (nI k) z = _ := if_neg (fun q => q.1.elim zc92 (fun q => absurd zc104 (Int32.not_le.mpr q.2)))
              rw [msI_s, e] at kx
              exact ih (k + 1) _ _ _ _ (by omega) kx
            · skip
              exact absurd rfl zc116
          · skip
            refine xr_ic1 dX11_most_107 ?_
            refine xr_goto (tgt := 112) dX11_most_108 (by decide) ?_
            refine xr_is10 dX11_most_112 (by decide) rfl ?_
            refine xr_il10 dX11_most_114 ?_
            refine xr_ifeq (tgt := 153) dX11_most_116 (by decide) (fun zc116 => ?_) (fun zc116 => ?_)
            · skip
              exact absurd zc116 (by decide)
            · skip
              refine xr_il9 dX11_most_119 ?_
              refine xr_il1 dX11_most_121 ?_
              refine xr_icmpgt (tgt := 153) dX11_most_122 (by decide) (fun zc122 => ?_) (fun zc122 => ?_)
              · skip
                refine xr_inc7 dX11_most_153 (nI_inc k) (by decide) rfl ?_
                refine xr_goto (tgt := 51) dX11_most_156 (by decide) ?_
                have e : ms1 σ v ab (nI k) z = _ := if_neg (fun q => absurd zc122 (Int32.not_lt.mpr q.2.1))
                rw [msI_s, e] at kx
                exact ih (k + 1) _ _ _ _ (by omega) kx
              · skip
                refine xr_al0 dX11_most_125 ?_
                refine xr_get W.oX fX11_83 rfl dX11_most_126 ?_
                refine xr_il6 dX11_most_129 ?_
                refine xr_il7 dX11_most_131 ?_
                refine xr_Vi2 (s_mayGo G _ _) kX11_327 (by decide) (Nat.le_of_ble_eq_true rfl) (Nat.zero_add _) (Nat.zero_add _) dX11_most_133 ?_
                refine xr_ifeq (tgt := 153) dX11_most_136 (by decide) (fun zc136 => ?_) (fun zc136 => ?_)
                · skip
                  refine xr_inc7 dX11_most_153 (nI_inc k) (by decide) rfl ?_
                  refine xr_goto (tgt := 51) dX11_most_156 (by decide) ?_
                  have e : ms1 σ v ab (nI k) z = _ := if_neg (fun q => (bI_0.mp zc136) q.2.2)
                  rw [msI_s, e] at kx
                  exact ih (k + 1) _ _ _ _ (by omega) kx
                · skip
                  refine xr_il8 dX11_most_139 ?_
                  refine xr_is2 dX11_most_141 (by decide) rfl ?_
                  refine xr_il9 dX11_most_142 ?_
                  refine xr_is3 dX11_most_144 (by decide) rfl ?_
                  refine xr_il6 dX11_most_145 ?_
                  refine xr_is4 dX11_most_147 (by decide) rfl ?_
                  refine xr_il7 dX11_most_149 ?_
                  refine xr_is5 dX11_most_151 (by decide) rfl ?_
                  refine xr_inc7 dX11_most_153 (nI_inc k) (by decide) rfl ?_
                  refine xr_goto (tgt := 51) dX11_most_156 (by decide) ?_
                  have e : ms1 σ v ab (nI k) z = _ := if_pos ⟨(Or.inr ⟨zc98, Int32.not_le.mp zc104⟩), Int32.not_lt.mp zc122, (Decidable.not_not.mp (fun q => zc136 (bI_0.mpr q)))⟩
                  rw [msI_s, e] at kx
                  exact ih (k + 1) _ _ _ _ (by omega) kx
set_option maxRecDepth 20000 in
theorem lp_mostO {K : xK} {B : Nat} {l : Launch} {h0 h : xH} {X D : Nat} {tn : Nat} {tf : Nat → Int32} {rk : Int32} {rv : Nat → Int64} {σ : xs} {β : xs} {γ : xs} {pn : Nat} {τ : Nat → xs} {ks : Nat → Bool} {κ : Nat → xs} {φ : xs → Int32} {hn : Nat} {hf : Nat → Int32} {hg : Nat → Int32} {wn : Nat} {wf : Nat → Int32} {wg : Nat → Int32} (W : xCw K h0 h X D tn tf rk rv σ β γ pn τ ks κ φ hn hf hg wn wf wg) (G : gX K h (X + 31) σ) (v : Int32) : ∀ (r k : Nat) (z : Q4) (y7 y8 y9 y10 : Option Value), k + r = aN σ 0 + 1 → xT K B l 3 RX11 false cX11_most 11 (some .int) 0 0 0 0 (xPi (fun zr g => zr = (msE rk rv (msO σ v r k z)).1 ∧ ∃ γ', xCw K h0 g X D tn tf ((msE rk rv (msO σ v r k z)).2.1) ((msE rk rv (msO σ v r k z)).2.2) σ β (γ') pn τ ks κ φ hn hf hg wn wf wg)) 36 [some (.ref X), some (.int v), some (.int z.1), some (.int z.2.1), some (.int z.2.2.1), some (.int z.2.2.2), some (.int (nI k)), y7, y8, y9, y10] [] h := by
  have hx := (hAll_n W.pok (s := 0) (by decide)).2
  intro r
  induction r with
  | zero =>
    intro k z y7 y8 y9 y10 hk
    refine xr_il6 dX11_most_36 ?_
    refine xr_al0 dX11_most_38 ?_
    refine xr_get W.oX fX11_83 rfl dX11_most_39 ?_
    refine xr_get G.1 fX11_320 rfl dX11_most_42 ?_
    refine xr_icmpgt (tgt := 165) dX11_most_45 (by decide) (fun zc45 => ?_) (fun zc45 => ?_)
    · skip
      refine xr_il2 dX11_most_165 ?_
      refine xr_ifne (tgt := 172) dX11_most_166 (by decide) (fun zc166 => ?_) (fun zc166 => ?_)
      · skip
        refine xr_al0 dX11_most_172 ?_
        refine xr_get W.oX fX11_19 rfl dX11_most_173 ?_
        refine xr_il3 dX11_most_176 ?_
        refine xr_i2l dX11_most_177 ?_
        refine xr_il4 dX11_most_178 ?_
        refine xr_i2l dX11_most_180 ?_
        refine xr_il5 dX11_most_181 ?_
        refine xr_i2l dX11_most_183 ?_
        refine xr_Vv3 (s_tell3 W.Hr _ _ _) kX11_314 (by decide) (Nat.le_of_ble_eq_true rfl) (Nat.zero_add _) (Nat.zero_add _) dX11_most_184 ?_
        refine xT.nm (fun zh1 zg1 => ?_)
        have W := W.ur (fB2 zg1)
        refine xr_il2 dX11_most_187 ?_
        refine xr_iret dX11_most_188 rfl ?_
        have e : (msE rk rv (msO σ v 0 k z)) = _ := if_neg zc166
        rw [e]
        exact ⟨_, rfl, rfl, _, W⟩
      · skip
        refine xr_bipush (v := (-2)) dX11_most_169 (by decide) ?_
        refine xr_iret dX11_most_171 rfl ?_
        have e : (msE rk rv (msO σ v 0 k z)) = _ := if_pos zc166
        rw [e]
        exact ⟨_, rfl, rfl, _, W⟩
    · skip
      exact absurd (nI_lt (a := aN σ 0) (by omega) (by omega)) zc45
  | succ r ih =>
    intro k z y7 y8 y9 y10 hk
    refine xr_il6 dX11_most_36 ?_
    refine xr_al0 dX11_most_38 ?_
    refine xr_get W.oX fX11_83 rfl dX11_most_39 ?_
    refine xr_get G.1 fX11_320 rfl dX11_most_42 ?_
    refine xr_icmpgt (tgt := 165) dX11_most_45 (by decide) (fun zc45 => ?_) (fun zc45 => ?_)
    · skip
      exact absurd zc45 (Int32.not_lt.mpr (nI_le (by omega) (by omega)))
    · skip
      refine xr_ic0 dX11_most_48 ?_
      refine xr_is7 dX11_most_49 (by decide) rfl ?_
      refine lp_mostI W G v (nI k) (aN σ 1 + 1) 0 z y8 y9 y10 (by omega) (fun y8 y9 y10 => ?_)
      rw [msO_s]
      refine xr_inc6 dX11_most_159 (nI_inc k) (by decide) rfl ?_
      refine xr_goto (tgt := 36) dX11_most_162 (by decide) ?_
      exact ih (k + 1) _ _ _ _ _ (by omega)
set_option maxRecDepth 20000 in
theorem s_most {K : xK} {B : Nat} {l : Launch} {h0 h : xH} {X D : Nat} {tn : Nat} {tf : Nat → Int32} {rk : Int32} {rv : Nat → Int64} {σ : xs} {β : xs} {γ : xs} {pn : Nat} {τ : Nat → xs} {ks : Nat → Bool} {κ : Nat → xs} {φ : xs → Int32} {hn : Nat} {hf : Nat → Int32} {hg : Nat → Int32} {wn : Nat} {wf : Nat → Int32} {wg : Nat → Int32} (W : xCw K h0 h X D tn tf rk rv σ β γ pn τ ks κ φ hn hf hg wn wf wg) (x : Int32) : xV K B l 3 mX11_most 0 0 (X) [.int x] h (xPi (fun zr g => zr = (msR σ rk rv x).1 ∧ ∃ γ', xCw K h0 g X D tn tf ((msR σ rk rv x).2.1) ((msR σ rk rv x).2.2) σ β (γ') pn τ ks κ φ hn hf hg wn wf wg)) := by
  refine ⟨⟨_, _, _, _, W.oX, rfl⟩, qX11_most, ?_⟩
  refine xS.intro RX11 false ⟨rfl, rfl, by decide, by decide, Nat.le_of_ble_eq_true rfl⟩ (ls := [some (.ref X), some (.int x), none, none, none, none, none, none, none, none, none]) rfl ?_
  refine xr_il1 dX11_most_0 ?_
  refine xr_iflt (tgt := 10) dX11_most_1 (by decide) (fun zc1 => ?_) (fun zc1 => ?_)
  · skip
    refine xr_icm1 dX11_most_10 ?_
    refine xr_iret dX11_most_11 rfl ?_
    have e : (msR σ rk rv x) = _ := if_pos (Or.inl zc1)
    rw [e]
    exact ⟨_, rfl, rfl, _, W⟩
  · skip
    refine xr_il1 dX11_most_4 ?_
    refine xr_bipush (v := 99) dX11_most_5 (by decide) ?_
    refine xr_icmple (tgt := 12) dX11_most_7 (by decide) (fun zc7 => ?_) (fun zc7 => ?_)
    · skip
      refine xr_al0 dX11_most_12 ?_
      refine xr_get W.oX fX11_83 rfl dX11_most_13 ?_
      refine xr_al0 dX11_most_16 ?_
      refine xr_get W.oX fX11_26 rfl dX11_most_17 ?_
      obtain ⟨_, _, _, _, _, _, zG⟩ := W.Hg
      refine xr_Vv1 (s_readFrom zG W.Hh W.pok (by omega)) kX11_317 (by decide) (Nat.le_of_ble_eq_true rfl) (Nat.zero_add _) (Nat.zero_add _) dX11_most_20 ?_
      refine xT.nm (fun zh1 zg1 => ?_)
      have G : gX K zh1 (X + 31) σ := gX.of W.pok zg1
      have W := W.ug ⟨(fB3 zg1).1, (fB3 zg1).2.1, ⟨_, _, _, _, _, _, (fB3 zg1).2.2⟩⟩
      refine xr_ic0 dX11_most_23 ?_
      refine xr_is2 dX11_most_24 (by decide) rfl ?_
      refine xr_ic0 dX11_most_25 ?_
      refine xr_is3 dX11_most_26 (by decide) rfl ?_
      refine xr_ic0 dX11_most_27 ?_
      refine xr_is4 dX11_most_28 (by decide) rfl ?_
      refine xr_ic0 dX11_most_30 ?_
      refine xr_is5 dX11_most_31 (by decide) rfl ?_
      refine xr_ic0 dX11_most_33 ?_
      refine xr_is6 dX11_most_34 (by decide) rfl ?_
      have e : (msR σ rk rv x) = _ := if_neg (fun q => q.elim zc1 (Int32.not_lt.mpr zc7))
      rw [e]
      exact lp_mostO W G x (aN σ 0 + 1) 0 (0, 0, 0, 0) none none none none (by omega)
    · skip
      refine xr_icm1 dX11_most_10 ?_
      refine xr_iret dX11_most_11 rfl ?_
      have e : (msR σ rk rv x) = _ := if_pos (Or.inr (Int32.not_le.mp zc7))
      rw [e]
      exact ⟨_, rfl, rfl, _, W⟩
def ak1 (σ : xs) (ab be : Int32) (z : Q4) : Q4 := if gAt (gL σ) be = gAt (gU σ) ab then (if z.2.1 < gAt (gU σ) ab then (z.1 + 1, gAt (gU σ) ab, ab, be) else (z.1 + 1, z.2)) else z
def akI (σ : xs) (ab : Int32) : Nat → Nat → Q4 → Q4
  | 0, _, z => z
  | r + 1, k, z => akI σ ab r (k + 1) (ak1 σ ab (nI k) z)
def akO (σ : xs) : Nat → Nat → Q4 → Q4
  | 0, _, z => z
  | r + 1, k, z => akO σ r (k + 1) (akI σ (nI k) (aN σ 1) 1 z)
theorem akI_s (σ : xs) (ab : Int32) (r k : Nat) (z : Q4) : akI σ ab (r + 1) k z = akI σ ab r (k + 1) (ak1 σ ab (nI k) z) := rfl
theorem akO_s (σ : xs) (r k : Nat) (z : Q4) : akO σ (r + 1) k z = akO σ r (k + 1) (akI σ (nI k) (aN σ 1) 1 z) := rfl
def akE (rv : Nat → Int64) (z : Q4) : AR := if z.1 = 0 then (z.1, 0, rv) else (z.1, 3, tl3 rv z.2.1 z.2.2.1 z.2.2.2)
def akR (σ : xs) (rv : Nat → Int64) : AR := akE rv (akO σ (aN σ 0) 1 (0, 0, 0, 0))
set_option maxRecDepth 20000 in
theorem lp_alikeI {K : xK} {B : Nat} {l : Launch} {h0 h : xH} {X D : Nat} {tn : Nat} {tf : Nat → Int32} {rk : Int32} {rv : Nat → Int64} {σ : xs} {β : xs} {γ : xs} {pn : Nat} {τ : Nat → xs} {ks : Nat → Bool} {κ : Nat → xs} {φ : xs → Int32} {hn : Nat} {hf : Nat → Int32} {hg : Nat → Int32} {wn : Nat} {wf : Nat → Int32} {wg : Nat → Int32} (W : xCw K h0 h X D tn tf rk rv σ β γ pn τ ks κ φ hn hf hg wn wf wg) (G : gX K h (X + 31) σ) (ab : Int32) {Q : Option Value → xH → Prop} : ∀ (r k : Nat) (z : Q4), k + r = aN σ 1 + 1 → (xT K B l 3 RX11 false cX11_alike 8 (some .int) 0 0 0 0 (Q) 100 [some (.ref X), some (.int (akI σ ab r k z).1), some (.int (akI σ ab r k z).2.1), some (.int (akI σ ab r k z).2.2.1), some (.int (akI σ ab r k z).2.2.2), some (.int ab), some (.int (gAt (gU σ) ab)), some (.int (nI (aN σ 1 + 1)))] [] h) → xT K B l 3 RX11 false cX11_alike 8 (some .int) 0 0 0 0 (Q) 49 [some (.ref X), some (.int z.1), some (.int z.2.1), some (.int z.2.2.1), some (.int z.2.2.2), some (.int ab), some (.int (gAt (gU σ) ab)), some (.int (nI k))] [] h := by
  have hy := (hAll_n W.pok (s := 1) (by decide)).2
  intro r
  induction r with
  | zero =>
    intro k z hk kx
    refine xr_il7 dX11_alike_49 ?_
    refine xr_al0 dX11_alike_51 ?_
    refine xr_get W.oX fX11_83 rfl dX11_alike_52 ?_
    refine xr_get G.1 fX11_323 rfl dX11_alike_55 ?_
    refine xr_icmpgt (tgt := 100) dX11_alike_58 (by decide) (fun zc58 => ?_) (fun zc58 => ?_)
    · skip
      have hk' : k = aN σ 1 + 1 := hk
      subst hk'
      exact kx
    · skip
      exact absurd (nI_lt (a := aN σ 1) (by omega) (by omega)) zc58
  | succ r ih =>
    intro k z hk kx
    refine xr_il7 dX11_alike_49 ?_
    refine xr_al0 dX11_alike_51 ?_
    refine xr_get W.oX fX11_83 rfl dX11_alike_52 ?_
    refine xr_get G.1 fX11_323 rfl dX11_alike_55 ?_
    refine xr_icmpgt (tgt := 100) dX11_alike_58 (by decide) (fun zc58 => ?_) (fun zc58 => ?_)
    · skip
      exact absurd zc58 (Int32.not_lt.mpr (nI_le (by omega) (by omega)))
    · skip
      refine xr_al0 dX11_alike_61 ?_
      refine xr_get W.oX fX11_83 rfl dX11_alike_62 ?_
      refine xr_il7 dX11_alike_65 ?_
      refine xr_Vi1 (s_gBelow G _) kX11_357 (by decide) (Nat.le_of_ble_eq_true rfl) (Nat.zero_add _) (Nat.zero_add _) dX11_alike_67 ?_
      refine xr_il6 dX11_alike_70 ?_
      refine xr_icmpne (tgt := 94) dX11_alike_72 (by decide) (fun zc72 => ?_) (fun zc72 => ?_)
      · skip
        refine xr_inc7 dX11_alike_94 (nI_inc k) (by decide) rfl ?_
        refine xr_goto (tgt := 49) dX11_alike_97 (by decide) ?_
        have e : ak1 σ ab (nI k) z = _ := if_neg zc72
        rw [akI_s, e] at kx
        exact ih (k + 1) _ (by omega) kx
      · skip
        refine xr_inc1 dX11_alike_75 (show z.1 + Int32.ofInt 1 = z.1 + 1 from rfl) (by decide) rfl ?_
        refine xr_il6 dX11_alike_78 ?_
        refine xr_il2 dX11_alike_80 ?_
        refine xr_icmple (tgt := 94) dX11_alike_81 (by decide) (fun zc81 => ?_) (fun zc81 => ?_)
        · skip
          refine xr_inc7 dX11_alike_94 (nI_inc k) (by decide) rfl ?_
          refine xr_goto (tgt := 49) dX11_alike_97 (by decide) ?_
          have e : ak1 σ ab (nI k) z = _ := (if_pos zc72).trans (if_neg (Int32.not_lt.mpr zc81))
          rw [akI_s, e] at kx
          exact ih (k + 1) _ (by omega) kx
        · skip
          refine xr_il6 dX11_alike_84 ?_
          refine xr_is2 dX11_alike_86 (by decide) rfl ?_
          refine xr_il5 dX11_alike_87 ?_
          refine xr_is3 dX11_alike_89 (by decide) rfl ?_
          refine xr_il7 dX11_alike_90 ?_
          refine xr_is4 dX11_alike_92 (by decide) rfl ?_
          refine xr_inc7 dX11_alike_94 (nI_inc k) (by decide) rfl ?_
          refine xr_goto (tgt := 49) dX11_alike_97 (by decide) ?_
          have e : ak1 σ ab (nI k) z = _ := (if_pos zc72).trans (if_pos (Int32.not_le.mp zc81))
          rw [akI_s, e] at kx
          exact ih (k + 1) _ (by omega) kx
set_option maxRecDepth 20000 in
theorem lp_alikeO {K : xK} {B : Nat} {l : Launch} {h0 h : xH} {X D : Nat} {tn : Nat} {tf : Nat → Int32} {rk : Int32} {rv : Nat → Int64} {σ : xs} {β : xs} {γ : xs} {pn : Nat} {τ : Nat → xs} {ks : Nat → Bool} {κ : Nat → xs} {φ : xs → Int32} {hn : Nat} {hf : Nat → Int32} {hg : Nat → Int32} {wn : Nat} {wf : Nat → Int32} {wg : Nat → Int32} (W : xCw K h0 h X D tn tf rk rv σ β γ pn τ ks κ φ hn hf hg wn wf wg) (G : gX K h (X + 31) σ) : ∀ (r k : Nat) (z : Q4) (y6 y7 : Option Value), k + r = aN σ 0 + 1 → xT K B l 3 RX11 false cX11_alike 8 (some .int) 0 0 0 0 (xPi (fun zr g => zr = (akE rv (akO σ r k z)).1 ∧ ∃ γ', xCw K h0 g X D tn tf ((akE rv (akO σ r k z)).2.1) ((akE rv (akO σ r k z)).2.2) σ β (γ') pn τ ks κ φ hn hf hg wn wf wg)) 23 [some (.ref X), some (.int z.1), some (.int z.2.1), some (.int z.2.2.1), some (.int z.2.2.2), some (.int (nI k)), y6, y7] [] h := by
  have hx := (hAll_n W.pok (s := 0) (by decide)).2
  intro r
  induction r with
  | zero =>
    intro k z y6 y7 hk
    refine xr_il5 dX11_alike_23 ?_
    refine xr_al0 dX11_alike_25 ?_
    refine xr_get W.oX fX11_83 rfl dX11_alike_26 ?_
    refine xr_get G.1 fX11_320 rfl dX11_alike_29 ?_
    refine xr_icmpgt (tgt := 106) dX11_alike_32 (by decide) (fun zc32 => ?_) (fun zc32 => ?_)
    · skip
      refine xr_il1 dX11_alike_106 ?_
      refine xr_ifne (tgt := 120) dX11_alike_107 (by decide) (fun zc107 => ?_) (fun zc107 => ?_)
      · skip
        refine xr_al0 dX11_alike_120 ?_
        refine xr_get W.oX fX11_19 rfl dX11_alike_121 ?_
        refine xr_il2 dX11_alike_124 ?_
        refine xr_i2l dX11_alike_125 ?_
        refine xr_il3 dX11_alike_126 ?_
        refine xr_i2l dX11_alike_127 ?_
        refine xr_il4 dX11_alike_128 ?_
        refine xr_i2l dX11_alike_130 ?_
        refine xr_Vv3 (s_tell3 W.Hr _ _ _) kX11_314 (by decide) (Nat.le_of_ble_eq_true rfl) (Nat.zero_add _) (Nat.zero_add _) dX11_alike_131 ?_
        refine xT.nm (fun zh1 zg1 => ?_)
        have W := W.ur (fB2 zg1)
        refine xr_il1 dX11_alike_134 ?_
        refine xr_iret dX11_alike_135 rfl ?_
        have e : (akE rv (akO σ 0 k z)) = _ := if_neg zc107
        rw [e]
        exact ⟨_, rfl, rfl, _, W⟩
      · skip
        refine xr_al0 dX11_alike_110 ?_
        refine xr_get W.oX fX11_19 rfl dX11_alike_111 ?_
        refine xr_Vv0 (s_tell0 W.Hr) kX11_346 (by decide) (Nat.le_of_ble_eq_true rfl) (Nat.zero_add _) (Nat.zero_add _) dX11_alike_114 ?_
        refine xT.nm (fun zh1 zg1 => ?_)
        have W := W.ur (fB2 zg1)
        refine xr_goto (tgt := 134) dX11_alike_117 (by decide) ?_
        refine xr_il1 dX11_alike_134 ?_
        refine xr_iret dX11_alike_135 rfl ?_
        have e : (akE rv (akO σ 0 k z)) = _ := if_pos zc107
        rw [e]
        exact ⟨_, rfl, rfl, _, W⟩
    · skip
      exact absurd (nI_lt (a := aN σ 0) (by omega) (by omega)) zc32
  | succ r ih =>
    intro k z y6 y7 hk
    refine xr_il5 dX11_alike_23 ?_
    refine xr_al0 dX11_alike_25 ?_
    refine xr_get W.oX fX11_83 rfl dX11_alike_26 ?_
    refine xr_get G.1 fX11_320 rfl dX11_alike_29 ?_
    refine xr_icmpgt (tgt := 106) dX11_alike_32 (by decide) (fun zc32 => ?_) (fun zc32 => ?_)
    · skip
      exact absurd zc32 (Int32.not_lt.mpr (nI_le (by omega) (by omega)))
    · skip
      refine xr_al0 dX11_alike_35 ?_
      refine xr_get W.oX fX11_83 rfl dX11_alike_36 ?_
      refine xr_il5 dX11_alike_39 ?_
      refine xr_Vi1 (s_gAbove G _) kX11_354 (by decide) (Nat.le_of_ble_eq_true rfl) (Nat.zero_add _) (Nat.zero_add _) dX11_alike_41 ?_
      refine xr_is6 dX11_alike_44 (by decide) rfl ?_
      refine xr_ic1 dX11_alike_46 ?_
      refine xr_is7 dX11_alike_47 (by decide) rfl ?_
      refine lp_alikeI W G (nI k) (aN σ 1) 1 z (by omega) ?_
      rw [akO_s]
      refine xr_inc5 dX11_alike_100 (nI_inc k) (by decide) rfl ?_
      refine xr_goto (tgt := 23) dX11_alike_103 (by decide) ?_
      exact ih (k + 1) _ _ _ (by omega)
set_option maxRecDepth 20000 in
theorem s_alike {K : xK} {B : Nat} {l : Launch} {h0 h : xH} {X D : Nat} {tn : Nat} {tf : Nat → Int32} {rk : Int32} {rv : Nat → Int64} {σ : xs} {β : xs} {γ : xs} {pn : Nat} {τ : Nat → xs} {ks : Nat → Bool} {κ : Nat → xs} {φ : xs → Int32} {hn : Nat} {hf : Nat → Int32} {hg : Nat → Int32} {wn : Nat} {wf : Nat → Int32} {wg : Nat → Int32} (W : xCw K h0 h X D tn tf rk rv σ β γ pn τ ks κ φ hn hf hg wn wf wg) : xV K B l 3 mX11_alike 0 0 (X) [] h (xPi (fun zr g => zr = (akR σ rv).1 ∧ ∃ γ', xCw K h0 g X D tn tf ((akR σ rv).2.1) ((akR σ rv).2.2) σ β (γ') pn τ ks κ φ hn hf hg wn wf wg)) := by
  refine ⟨⟨_, _, _, _, W.oX, rfl⟩, qX11_alike, ?_⟩
  refine xS.intro RX11 false ⟨rfl, rfl, by decide, by decide, Nat.le_of_ble_eq_true rfl⟩ (ls := [some (.ref X), none, none, none, none, none, none, none]) rfl ?_
  refine xr_al0 dX11_alike_0 ?_
  refine xr_get W.oX fX11_83 rfl dX11_alike_1 ?_
  refine xr_al0 dX11_alike_4 ?_
  refine xr_get W.oX fX11_26 rfl dX11_alike_5 ?_
  obtain ⟨_, _, _, _, _, _, zG⟩ := W.Hg
  refine xr_Vv1 (s_readFrom zG W.Hh W.pok (by omega)) kX11_317 (by decide) (Nat.le_of_ble_eq_true rfl) (Nat.zero_add _) (Nat.zero_add _) dX11_alike_8 ?_
  refine xT.nm (fun zh1 zg1 => ?_)
  have G : gX K zh1 (X + 31) σ := gX.of W.pok zg1
  have W := W.ug ⟨(fB3 zg1).1, (fB3 zg1).2.1, ⟨_, _, _, _, _, _, (fB3 zg1).2.2⟩⟩
  refine xr_ic0 dX11_alike_11 ?_
  refine xr_is1 dX11_alike_12 (by decide) rfl ?_
  refine xr_ic0 dX11_alike_13 ?_
  refine xr_is2 dX11_alike_14 (by decide) rfl ?_
  refine xr_ic0 dX11_alike_15 ?_
  refine xr_is3 dX11_alike_16 (by decide) rfl ?_
  refine xr_ic0 dX11_alike_17 ?_
  refine xr_is4 dX11_alike_18 (by decide) rfl ?_
  refine xr_ic1 dX11_alike_20 ?_
  refine xr_is5 dX11_alike_21 (by decide) rfl ?_
  exact lp_alikeO W G (aN σ 0) 1 (0, 0, 0, 0) none none (by omega)
def aAbs (x : Int32) : Int32 := if 0 ≤ x then x else 0 - x
def pa1 (σ : xs) (s : Nat) (k : Nat) (z : Int32 × Int32) : Int32 × Int32 := if aAbs (wt σ s (hAll σ (nI s)) - 2 * wt σ s (nI k)) < z.1 then (aAbs (wt σ s (hAll σ (nI s)) - 2 * wt σ s (nI k)), nI k) else z
def paN (σ : xs) (s : Nat) : Nat → Nat → Int32 × Int32 → Int32 × Int32
  | 0, _, z => z
  | r + 1, k, z => paN σ s r (k + 1) (pa1 σ s k z)
theorem paN_s (σ : xs) (s r k : Nat) (z : Int32 × Int32) : paN σ s (r + 1) k z = paN σ s r (k + 1) (pa1 σ s k z) := rfl
def paE (σ : xs) (s : Nat) (rv : Nat → Int64) (z : Int32 × Int32) : AR := (z.1, 2, tl2 rv z.2 (wt σ s z.2))
def paR (σ : xs) (rk : Int32) (rv : Nat → Int64) (side : Int32) : AR := if side = 0 ∨ side = 1 then paE σ side.toNatClampNeg rv (paN σ side.toNatClampNeg (aN σ side.toNatClampNeg + 1) 0 (1048576, 0)) else (-1, rk, rv)
