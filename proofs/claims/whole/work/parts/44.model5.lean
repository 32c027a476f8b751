/-! The model: remembering (written by wip/whole/mod5.py) -/
theorem upd_upd (f : xs) (i : Nat) (a b : Int32) : upd (upd f i a) i b = upd f i b := by
  funext j
  by_cases e : j = i
  · subst e
    rw [pk_us, pk_us]
  · rw [upd_hi _ _ e, upd_hi _ _ e, upd_hi _ _ e]
theorem uu_uu (u : Nat → Nat → Int32) (j : Nat) (a b : xs) : uu (uu u j a) j b = uu u j b := by
  funext i
  unfold uu
  by_cases e : i = j
  · rw [if_pos e, if_pos e]
  · rw [if_neg e, if_neg e, if_neg e]
theorem uu_at (u : Nat → Nat → Int32) (j : Nat) (a : xs) : uu u j a j = a := if_pos rfl
theorem uu_id (u : Nat → Nat → Int32) (j : Nat) : uu u j (u j) = u := by
  funext i
  unfold uu
  by_cases e : i = j
  · rw [if_pos e, e]
  · rw [if_neg e]
def shK (w : xs) (k : Nat) : xs := fun j => if j < k then w (j + 19) else w j
theorem shK_0 (w : xs) : shK w 0 = w := by
  funext j
  unfold shK
  rw [if_neg (by omega)]
theorem shK_s (w : xs) (k : Nat) : upd (shK w k) k (shK w k (k + 19)) = shK w (k + 1) := by
  funext j
  by_cases e : j = k
  · subst e
    rw [pk_us]
    unfold shK
    rw [if_neg (by omega), if_pos (by omega)]
  · rw [upd_hi _ _ e]
    unfold shK
    by_cases q : j < k
    · rw [if_pos q, if_pos (by omega)]
    · rw [if_neg q, if_neg (by omega)]
theorem sh_step (u : Nat → Nat → Int32) (w : xs) (k : Nat) : uu (uu u 9 (shK w k)) 9 (upd (uu u 9 (shK w k) 9) k (uu u 9 (shK w k) 9 (k + 19))) = uu u 9 (shK w (k + 1)) := by
  rw [uu_uu, uu_at, shK_s]
def mUn (w f : xs) (n : Nat) : xs := if n = 12 then lyK (shK w 209) f 209 19 else lyK w f (19 * n) 19
set_option maxRecDepth 20000 in
theorem lp_mRemN {K : xK} {B : Nat} {l : Launch} {h0 h : xH} {Y : Nat} {m : Nat → Int32} {rd : Value} {ru ot : Nat} {u : Nat → Nat → Int32} {v : Nat → Int64} (W : xMw K h0 h Y m rd ru ot u v) {n : Nat} (hn : m 19 = nI n) (h12 : n < 12) (y2 : Option Value) : xT K B l 1 RX12 false cX12_remember 3 none 0 0 0 0 (xPv (fun g => xMw K h0 g Y (upd m 19 (nI (n + 1))) rd ru ot (uu u 9 (lyK (u 9) (u 1) (19 * n) 19)) v)) 49 [some (.ref Y), some (.ref (Y + 1)), y2] [] h := by
  refine xr_al1 dX12_remember_49 ?_
  refine xr_al0 dX12_remember_50 ?_
  refine xr_get W.o fX12_36 rfl dX12_remember_51 ?_
  refine xr_bipush (v := 19) dX12_remember_54 (by decide) ?_
  refine xr_al0 dX12_remember_56 ?_
  refine xr_get W.o fX12_147 rfl dX12_remember_57 ?_
  refine xr_eqi hn ?_
  refine xr_imul dX12_remember_60 ?_
  refine xr_eqi (y := nI (19 * n)) (pk_mul 19 n) ?_
  refine xr_Sv3 (s_mLay W.a1 W.a9 (k := 19 * n) (by omega) (by omega) (by decide)) kX12_210 (by decide) (Nat.le_of_ble_eq_true rfl) (Nat.zero_add _) (Nat.zero_add _) dX12_remember_61 ?_
  refine xT.nm (fun zh1 zg1 => ?_)
  have W := W.p9 zg1
  refine xr_al0 dX12_remember_64 ?_
  refine xr_dup dX12_remember_65 rfl ?_
  refine xr_get W.o fX12_147 rfl dX12_remember_66 ?_
  refine xr_eqi hn ?_
  refine xr_ic1 dX12_remember_69 ?_
  refine xr_iadd dX12_remember_70 ?_
  refine xr_eqi (nI_1 n) ?_
  refine xr_put W.o fX12_147 (Nat.le_of_ble_eq_true rfl) rfl rfl dX12_remember_71 ?_
  refine xT.nm (fun zh2 zg2 => ?_)
  have W := W.f19 zg2
  refine xr_vret dX12_remember_74 rfl ?_
  exact ⟨rfl, W⟩
set_option maxRecDepth 20000 in
theorem lp_mShiftN {K : xK} {B : Nat} {l : Launch} {h0 : xH} {Y : Nat} {m : Nat → Int32} {rd : Value} {ru ot : Nat} {u : Nat → Nat → Int32} {v : Nat → Int64} (w : xs) (hn : m 19 = nI 12) : ∀ (r k : Nat) {h : xH} (W : xMw K h0 h Y m rd ru ot (uu u 9 (shK w k)) v), k + r = 209 → xT K B l 1 RX12 false cX12_remember 3 none 0 0 0 0 (xPv (fun g => xMw K h0 g Y (upd m 19 (nI 12)) rd ru ot (uu u 9 (mUn w (u 1) 12)) v)) 11 [some (.ref Y), some (.ref (Y + 1)), some (.int (nI k))] [] h := by
  intro r
  induction r with
  | zero =>
    intro k h W hk
    refine xr_il2 dX12_remember_11 ?_
    refine xr_sipush (v := 209) dX12_remember_12 (by decide) ?_
    refine xr_icmpge (tgt := 39) dX12_remember_15 (by decide) (fun zc15 => ?_) (fun zc15 => ?_)
    · skip
      refine xr_al0 dX12_remember_39 ?_
      refine xr_dup dX12_remember_40 rfl ?_
      refine xr_get W.o fX12_147 rfl dX12_remember_41 ?_
      refine xr_eqi hn ?_
      refine xr_ic1 dX12_remember_44 ?_
      refine xr_isub dX12_remember_45 ?_
      refine xr_eqi (y := nI 11) (nI_sub (a := 12) (b := 1) (by decide)) ?_
      refine xr_put W.o fX12_147 (Nat.le_of_ble_eq_true rfl) rfl rfl dX12_remember_46 ?_
      refine xT.nm (fun zh1 zg1 => ?_)
      have W := W.f19 zg1
      have hk' : k = 209 := hk
      subst hk'
      refine xT.post (fun r g q => ?_) (lp_mRemN W (n := 11) rfl (by decide) _)
      obtain ⟨q1, q2⟩ := q
      rw [upd_upd, uu_uu, uu_at] at q2
      exact ⟨q1, q2⟩
    · skip
      exact absurd (nI_le (a := 209) (by omega) (by omega)) zc15
  | succ r ih =>
    intro k h W hk
    refine xr_il2 dX12_remember_11 ?_
    refine xr_sipush (v := 209) dX12_remember_12 (by decide) ?_
    refine xr_icmpge (tgt := 39) dX12_remember_15 (by decide) (fun zc15 => ?_) (fun zc15 => ?_)
    · skip
      exact absurd zc15 (nI_ge (b := 209) (by omega) (by decide))
    · skip
      refine xr_al0 dX12_remember_18 ?_
      refine xr_get W.o fX12_36 rfl dX12_remember_19 ?_
      refine xr_il2 dX12_remember_22 ?_
      refine xr_al0 dX12_remember_23 ?_
      refine xr_get W.o fX12_36 rfl dX12_remember_24 ?_
      refine xr_il2 dX12_remember_27 ?_
      refine xr_bipush (v := 19) dX12_remember_28 (by decide) ?_
      refine xr_iadd dX12_remember_30 ?_
      refine xr_eqi (y := nI (k + 19)) (nI_add _ _) ?_
      refine xr_iald W.a9 (xix_nI (n := 228) (j := k + 19) (by omega) (by decide)) dX12_remember_31 ?_
      refine xr_iast W.a9 (xix_nI (n := 228) (j := k) (by omega) (by decide)) dX12_remember_32 ?_
      refine xT.nm (fun zh1 zg1 => ?_)
      have W := W.p9 zg1
      refine xr_inc2 dX12_remember_33 (nI_inc k) (by decide) rfl ?_
      refine xr_goto (tgt := 11) dX12_remember_36 (by decide) ?_
      rw [sh_step] at W
      exact ih (k + 1) W (by omega)
set_option maxRecDepth 20000 in
theorem s_mRemN {K : xK} {B : Nat} {l : Launch} {h0 h : xH} {Y : Nat} {m : Nat → Int32} {rd : Value} {ru ot : Nat} {u : Nat → Nat → Int32} {v : Nat → Int64} (W : xMw K h0 h Y m rd ru ot u v) {n : Nat} (hn : m 19 = nI n) (h12 : n ≤ 12) : xV K B l 1 mX12_remember 0 0 (Y) [.ref (Y + 1)] h (xPv (fun g => xMw K h0 g Y (upd m 19 (nI (psn n))) rd ru ot (uu u 9 (mUn (u 9) (u 1) n)) v)) := by
  refine ⟨⟨_, _, _, _, W.o, rfl⟩, qX12_remember, ?_⟩
  refine xS.intro RX12 false ⟨rfl, rfl, by decide, by decide, Nat.le_of_ble_eq_true rfl⟩ (ls := [some (.ref Y), some (.ref (Y + 1)), none]) rfl ?_
  refine xr_al0 dX12_remember_0 ?_
  refine xr_get W.o fX12_147 rfl dX12_remember_1 ?_
  refine xr_eqi hn ?_
  refine xr_bipush (v := 12) dX12_remember_4 (by decide) ?_
  refine xr_icmpne (tgt := 49) dX12_remember_6 (by decide) (fun zc6 => ?_) (fun zc6 => ?_)
  · skip
    have n12 : ¬ n = 12 := fun q => zc6 (by subst q; rfl)
    have e1 : psn n = n + 1 := if_pos (by omega)
    have e2 : mUn (u 9) (u 1) n = _ := if_neg n12
    rw [e1, e2]
    exact lp_mRemN W hn (by omega) none
  · skip
    have n12 : n = 12 := Nat.le_antisymm h12 (Nat.le_of_not_lt (fun q => absurd (show nI n = nI 12 from zc6) (fun z => absurd (nI_lt q (by decide)) (by rw [z]; decide))))
    subst n12
    refine xr_ic0 dX12_remember_9 ?_
    refine xr_is2 dX12_remember_10 (by decide) rfl ?_
    refine lp_mShiftN (u 9) hn 209 0 ?_ (by omega)
    rw [shK_0, uu_id]
    exact W
set_option maxRecDepth 20000 in
theorem lp_mRemA {K : xK} {B : Nat} {l : Launch} {h0 h : xH} {Y : Nat} {m : Nat → Int32} {rd : Value} {ru ot : Nat} {u : Nat → Nat → Int32} {v : Nat → Int64} (W : xMw K h0 h Y m rd ru ot u v) {n : Nat} (hn : m 19 = nI n) (h12 : n < 12) (y2 : Option Value) : xT K B l 1 RX12 false cX12_remember 3 none 0 0 0 0 (xPv (fun g => xMw K h0 g Y (upd m 19 (nI (n + 1))) rd ru ot (uu u 9 (lyK (u 9) (u 10) (19 * n) 19)) v)) 49 [some (.ref Y), some (.ref (Y + 10)), y2] [] h := by
  refine xr_al1 dX12_remember_49 ?_
  refine xr_al0 dX12_remember_50 ?_
  refine xr_get W.o fX12_36 rfl dX12_remember_51 ?_
  refine xr_bipush (v := 19) dX12_remember_54 (by decide) ?_
  refine xr_al0 dX12_remember_56 ?_
  refine xr_get W.o fX12_147 rfl dX12_remember_57 ?_
  refine xr_eqi hn ?_
  refine xr_imul dX12_remember_60 ?_
  refine xr_eqi (y := nI (19 * n)) (pk_mul 19 n) ?_
  refine xr_Sv3 (s_mLay W.a10 W.a9 (k := 19 * n) (by omega) (by omega) (by decide)) kX12_210 (by decide) (Nat.le_of_ble_eq_true rfl) (Nat.zero_add _) (Nat.zero_add _) dX12_remember_61 ?_
  refine xT.nm (fun zh1 zg1 => ?_)
  have W := W.p9 zg1
  refine xr_al0 dX12_remember_64 ?_
  refine xr_dup dX12_remember_65 rfl ?_
  refine xr_get W.o fX12_147 rfl dX12_remember_66 ?_
  refine xr_eqi hn ?_
  refine xr_ic1 dX12_remember_69 ?_
  refine xr_iadd dX12_remember_70 ?_
  refine xr_eqi (nI_1 n) ?_
  refine xr_put W.o fX12_147 (Nat.le_of_ble_eq_true rfl) rfl rfl dX12_remember_71 ?_
  refine xT.nm (fun zh2 zg2 => ?_)
  have W := W.f19 zg2
  refine xr_vret dX12_remember_74 rfl ?_
  exact ⟨rfl, W⟩
set_option maxRecDepth 20000 in
theorem lp_mShiftA {K : xK} {B : Nat} {l : Launch} {h0 : xH} {Y : Nat} {m : Nat → Int32} {rd : Value} {ru ot : Nat} {u : Nat → Nat → Int32} {v : Nat → Int64} (w : xs) (hn : m 19 = nI 12) : ∀ (r k : Nat) {h : xH} (W : xMw K h0 h Y m rd ru ot (uu u 9 (shK w k)) v), k + r = 209 → xT K B l 1 RX12 false cX12_remember 3 none 0 0 0 0 (xPv (fun g => xMw K h0 g Y (upd m 19 (nI 12)) rd ru ot (uu u 9 (mUn w (u 10) 12)) v)) 11 [some (.ref Y), some (.ref (Y + 10)), some (.int (nI k))] [] h := by
  intro r
  induction r with
  | zero =>
    intro k h W hk
    refine xr_il2 dX12_remember_11 ?_
    refine xr_sipush (v := 209) dX12_remember_12 (by decide) ?_
    refine xr_icmpge (tgt := 39) dX12_remember_15 (by decide) (fun zc15 => ?_) (fun zc15 => ?_)
    · skip
      refine xr_al0 dX12_remember_39 ?_
      refine xr_dup dX12_remember_40 rfl ?_
      refine xr_get W.o fX12_147 rfl dX12_remember_41 ?_
      refine xr_eqi hn ?_
      refine xr_ic1 dX12_remember_44 ?_
      refine xr_isub dX12_remember_45 ?_
      refine xr_eqi (y := nI 11) (nI_sub (a := 12) (b := 1) (by decide)) ?_
      refine xr_put W.o fX12_147 (Nat.le_of_ble_eq_true rfl) rfl rfl dX12_remember_46 ?_
      refine xT.nm (fun zh1 zg1 => ?_)
      have W := W.f19 zg1
      have hk' : k = 209 := hk
      subst hk'
      refine xT.post (fun r g q => ?_) (lp_mRemA W (n := 11) rfl (by decide) _)
      obtain ⟨q1, q2⟩ := q
      rw [upd_upd, uu_uu, uu_at] at q2
      exact ⟨q1, q2⟩
    · skip
      exact absurd (nI_le (a := 209) (by omega) (by omega)) zc15
  | succ r ih =>
    intro k h W hk
    refine xr_il2 dX12_remember_11 ?_
    refine xr_sipush (v := 209) dX12_remember_12 (by decide) ?_
    refine xr_icmpge (tgt := 39) dX12_remember_15 (by decide) (fun zc15 => ?_) (fun zc15 => ?_)
    · skip
      exact absurd zc15 (nI_ge (b := 209) (by omega) (by decide))
    · skip
      refine xr_al0 dX12_remember_18 ?_
      refine xr_get W.o fX12_36 rfl dX12_remember_19 ?_
      refine xr_il2 dX12_remember_22 ?_
      refine xr_al0 dX12_remember_23 ?_
      refine xr_get W.o fX12_36 rfl dX12_remember_24 ?_
      refine xr_il2 dX12_remember_27 ?_
      refine xr_bipush (v := 19) dX12_remember_28 (by decide) ?_
      refine xr_iadd dX12_remember_30 ?_
      refine xr_eqi (y := nI (k + 19)) (nI_add _ _) ?_
      refine xr_iald W.a9 (xix_nI (n := 228) (j := k + 19) (by omega) (by decide)) dX12_remember_31 ?_
      refine xr_iast W.a9 (xix_nI (n := 228) (j := k) (by omega) (by decide)) dX12_remember_32 ?_
      refine xT.nm (fun zh1 zg1 => ?_)
      have W := W.p9 zg1
      refine xr_inc2 dX12_remember_33 (nI_inc k) (by decide) rfl ?_
      refine xr_goto (tgt := 11) dX12_remember_36 (by decide) ?_
      rw [sh_step] at W
      exact ih (k + 1) W (by omega)
set_option maxRecDepth 20000 in
theorem s_mRemA {K : xK} {B : Nat} {l : Launch} {h0 h : xH} {Y : Nat} {m : Nat → Int32} {rd : Value} {ru ot : Nat} {u : Nat → Nat → Int32} {v : Nat → Int64} (W : xMw K h0 h Y m rd ru ot u v) {n : Nat} (hn : m 19 = nI n) (h12 : n ≤ 12) : xV K B l 1 mX12_remember 0 0 (Y) [.ref (Y + 10)] h (xPv (fun g => xMw K h0 g Y (upd m 19 (nI (psn n))) rd ru ot (uu u 9 (mUn (u 9) (u 10) n)) v)) := by
  refine ⟨⟨_, _, _, _, W.o, rfl⟩, qX12_remember, ?_⟩
  refine xS.intro RX12 false ⟨rfl, rfl, by decide, by decide, Nat.le_of_ble_eq_true rfl⟩ (ls := [some (.ref Y), some (.ref (Y + 10)), none]) rfl ?_
  refine xr_al0 dX12_remember_0 ?_
  refine xr_get W.o fX12_147 rfl dX12_remember_1 ?_
  refine xr_eqi hn ?_
  refine xr_bipush (v := 12) dX12_remember_4 (by decide) ?_
  refine xr_icmpne (tgt := 49) dX12_remember_6 (by decide) (fun zc6 => ?_) (fun zc6 => ?_)
  · skip
    have n12 : ¬ n = 12 := fun q => zc6 (by subst q; rfl)
    have e1 : psn n = n + 1 := if_pos (by omega)
    have e2 : mUn (u 9) (u 10) n = _ := if_neg n12
    rw [e1, e2]
    exact lp_mRemA W hn (by omega) none
  · skip
    have n12 : n = 12 := Nat.le_antisymm h12 (Nat.le_of_not_lt (fun q => absurd (show nI n = nI 12 from zc6) (fun z => absurd (nI_lt q (by decide)) (by rw [z]; decide))))
    subst n12
    refine xr_ic0 dX12_remember_9 ?_
    refine xr_is2 dX12_remember_10 (by decide) rfl ?_
    refine lp_mShiftA (u 9) hn 209 0 ?_ (by omega)
    rw [shK_0, uu_id]
    exact W
