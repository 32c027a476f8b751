/-! A new model (written by wip/whole/mctor.py) -/
def nw0 : xs := upd (upd (upd (fun _ => 0) 12 2) 13 2) 14 20
set_option maxRecDepth 20000 in
theorem nm23 {K : xK} {B : Nat} {l : Launch} {Y : Nat} {h : xH} (T : h.1 = Y + 24) (o0 : h.2 Y = some (.inr (12, [.ref (Y + 1), .ref (Y + 2), .int 0, .ref (Y + 3), .int 0, .int 0, .null, .int 0, .int 0, .int 0, .int 0, .ref (Y + 4), .ref (Y + 5), .ref (Y + 6), .ref (Y + 7), .int 0, .int 0, .ref (Y + 8), .ref (Y + 9), .int 0, .ref (Y + 10), .ref (Y + 11), .int 0, .ref (Y + 12), .ref (Y + 13), .ref (Y + 14), .ref (Y + 15), .int 0, .int 0, .ref (Y + 16), .ref (Y + 17), .ref (Y + 18), .int 0, .ref (Y + 19), .ref (Y + 20), .int 0, .ref (Y + 21), .int 0, .ref (Y + 22), .ref (Y + 23)]))) (a1 : h.2 (Y + 1) = some (iA K 19 (fun _ => 0))) : xT K B l 2 RX12 true cX12_init 1 none 23 3121 0 0 (xPv (fun g => g.1 = Y + 24 ∧ (∀ b, b ≠ Y → b ≠ Y + 1 → b < Y + 24 → g.2 b = h.2 b) ∧ g.2 Y = some (.inr (12, [.ref (Y + 1), .ref (Y + 2), .int 0, .ref (Y + 3), .int 0, .int 0, .null, .int 0, .int 0, .int 0, .int 0, .ref (Y + 4), .ref (Y + 5), .ref (Y + 6), .ref (Y + 7), .int 0, .int 0, .ref (Y + 8), .ref (Y + 9), .int 0, .ref (Y + 10), .ref (Y + 11), .int 0, .ref (Y + 12), .ref (Y + 13), .ref (Y + 14), .ref (Y + 15), .int 0, .int 0, .ref (Y + 16), .ref (Y + 17), .ref (Y + 18), .int 0, .ref (Y + 19), .ref (Y + 20), .int 0, .ref (Y + 21), .int 0, .ref (Y + 22), .ref (Y + 23)])) ∧ g.2 (Y + 1) = some (iA K 19 nw0))) 190 [some (.ref Y)] [] h := by
  refine xr_al0 dX12_init_190 ?_
  refine xr_get o0 fX12_9 rfl dX12_init_191 ?_
  refine xr_bipush (v := 12) dX12_init_194 (by decide) ?_
  refine xr_ic2 dX12_init_196 ?_
  refine xr_iast a1 (xix_lit (j := 12) (by decide)) dX12_init_197 ?_
  refine xT.nm (fun zh1 zg1 => ?_)
  have o0 := xg_ne zg1 (by omega) o0
  have a1 := xg_eq zg1
  refine xr_al0 dX12_init_198 ?_
  refine xr_get o0 fX12_9 rfl dX12_init_199 ?_
  refine xr_bipush (v := 13) dX12_init_202 (by decide) ?_
  refine xr_ic2 dX12_init_204 ?_
  refine xr_iast a1 (xix_lit (j := 13) (by decide)) dX12_init_205 ?_
  refine xT.nm (fun zh2 zg2 => ?_)
  have o0 := xg_ne zg2 (by omega) o0
  have a1 := xg_eq zg2
  refine xr_al0 dX12_init_206 ?_
  refine xr_get o0 fX12_9 rfl dX12_init_207 ?_
  refine xr_bipush (v := 14) dX12_init_210 (by decide) ?_
  refine xr_bipush (v := 20) dX12_init_212 (by decide) ?_
  refine xr_iast a1 (xix_lit (j := 14) (by decide)) dX12_init_214 ?_
  refine xT.nm (fun zh3 zg3 => ?_)
  have o0 := xg_ne zg3 (by omega) o0
  have a1 := xg_eq zg3
  refine xr_vret dX12_init_215 rfl ?_
  exact ⟨rfl, by rw [xg_1 zg3, xg_1 zg2, xg_1 zg1, T], fun b n1 n2 _ => xg_ne zg3 n2 (xg_ne zg2 n2 (xg_ne zg1 n2 rfl)), o0, a1⟩
set_option maxRecDepth 20000 in
theorem nm22 {K : xK} {B : Nat} {l : Launch} {Y : Nat} {h : xH} (T : h.1 = Y + 23) (o0 : h.2 Y = some (.inr (12, [.ref (Y + 1), .ref (Y + 2), .int 0, .ref (Y + 3), .int 0, .int 0, .null, .int 0, .int 0, .int 0, .int 0, .ref (Y + 4), .ref (Y + 5), .ref (Y + 6), .ref (Y + 7), .int 0, .int 0, .ref (Y + 8), .ref (Y + 9), .int 0, .ref (Y + 10), .ref (Y + 11), .int 0, .ref (Y + 12), .ref (Y + 13), .ref (Y + 14), .ref (Y + 15), .int 0, .int 0, .ref (Y + 16), .ref (Y + 17), .ref (Y + 18), .int 0, .ref (Y + 19), .ref (Y + 20), .int 0, .ref (Y + 21), .int 0, .ref (Y + 22), .null]))) (a1 : h.2 (Y + 1) = some (iA K 19 (fun _ => 0))) : xT K B l 2 RX12 true cX12_init 1 none 23 3121 1 2 (xPv (fun g => g.1 = Y + 24 ∧ (∀ b, b ≠ Y → b ≠ Y + 1 → b < Y + 23 → g.2 b = h.2 b) ∧ g.2 Y = some (.inr (12, [.ref (Y + 1), .ref (Y + 2), .int 0, .ref (Y + 3), .int 0, .int 0, .null, .int 0, .int 0, .int 0, .int 0, .ref (Y + 4), .ref (Y + 5), .ref (Y + 6), .ref (Y + 7), .int 0, .int 0, .ref (Y + 8), .ref (Y + 9), .int 0, .ref (Y + 10), .ref (Y + 11), .int 0, .ref (Y + 12), .ref (Y + 13), .ref (Y + 14), .ref (Y + 15), .int 0, .int 0, .ref (Y + 16), .ref (Y + 17), .ref (Y + 18), .int 0, .ref (Y + 19), .ref (Y + 20), .int 0, .ref (Y + 21), .int 0, .ref (Y + 22), .ref (Y + 23)])) ∧ g.2 (Y + 1) = some (iA K 19 nw0) ∧ g.2 (Y + 23) = some (zA K 2 (fun _ => 0)))) 183 [some (.ref Y)] [] h := by
  refine xr_al0 dX12_init_183 ?_
  refine xr_ic2 dX12_init_184 ?_
  refine xr_newz (rc' := 0) (rs' := 0) (N := 2) wa_boolean (by decide) (by decide) (by decide) rfl rfl dX12_init_185 ?_
  refine xT.nm (fun zh1 zg1 => ?_)
  have o0 := xn_ne zg1 (by omega) o0
  have q := xn_eq zg1
  rw [T] at q
  rw [T]
  refine xr_putF rfl o0 fX12_79 (Nat.le_of_ble_eq_true rfl) rfl rfl dX12_init_187 ?_
  refine xT.nm (fun zh2 zg2 => ?_)
  have o1 : zh2.2 Y = some (.inr (12, [.ref (Y + 1), .ref (Y + 2), .int 0, .ref (Y + 3), .int 0, .int 0, .null, .int 0, .int 0, .int 0, .int 0, .ref (Y + 4), .ref (Y + 5), .ref (Y + 6), .ref (Y + 7), .int 0, .int 0, .ref (Y + 8), .ref (Y + 9), .int 0, .ref (Y + 10), .ref (Y + 11), .int 0, .ref (Y + 12), .ref (Y + 13), .ref (Y + 14), .ref (Y + 15), .int 0, .int 0, .ref (Y + 16), .ref (Y + 17), .ref (Y + 18), .int 0, .ref (Y + 19), .ref (Y + 20), .int 0, .ref (Y + 21), .int 0, .ref (Y + 22), .ref (Y + 23)])) := xg_eq zg2
  have T1 : zh2.1 = Y + 24 := by rw [xg_1 zg2, xn_1 zg1, T]
  have b1 := xg_ne zg2 (b := Y + 1) (by omega) (xn_ne zg1 (by omega) a1)
  refine xT.post (fun r g q0' => ?_) (nm23 T1 o1 b1)
  obtain ⟨q0, q1, q2, q3, q5⟩ := q0'
  exact ⟨q0, q1, fun b n1 n2 n3 => (q2 b n1 n2 (by omega)).trans ((xg_ne zg2 n1 rfl).trans (xn_ne zg1 (by omega) rfl)), q3, q5, (q2 _ (by omega) (by omega) (by omega)).trans (xg_ne zg2 (b := Y + 23) (by omega) q)⟩
set_option maxRecDepth 20000 in
theorem nm21 {K : xK} {B : Nat} {l : Launch} {Y : Nat} {h : xH} (T : h.1 = Y + 22) (o0 : h.2 Y = some (.inr (12, [.ref (Y + 1), .ref (Y + 2), .int 0, .ref (Y + 3), .int 0, .int 0, .null, .int 0, .int 0, .int 0, .int 0, .ref (Y + 4), .ref (Y + 5), .ref (Y + 6), .ref (Y + 7), .int 0, .int 0, .ref (Y + 8), .ref (Y + 9), .int 0, .ref (Y + 10), .ref (Y + 11), .int 0, .ref (Y + 12), .ref (Y + 13), .ref (Y + 14), .ref (Y + 15), .int 0, .int 0, .ref (Y + 16), .ref (Y + 17), .ref (Y + 18), .int 0, .ref (Y + 19), .ref (Y + 20), .int 0, .ref (Y + 21), .int 0, .null, .null]))) (a1 : h.2 (Y + 1) = some (iA K 19 (fun _ => 0))) : xT K B l 2 RX12 true cX12_init 1 none 23 3121 2 40 (xPv (fun g => g.1 = Y + 24 ∧ (∀ b, b ≠ Y → b ≠ Y + 1 → b < Y + 22 → g.2 b = h.2 b) ∧ g.2 Y = some (.inr (12, [.ref (Y + 1), .ref (Y + 2), .int 0, .ref (Y + 3), .int 0, .int 0, .null, .int 0, .int 0, .int 0, .int 0, .ref (Y + 4), .ref (Y + 5), .ref (Y + 6), .ref (Y + 7), .int 0, .int 0, .ref (Y + 8), .ref (Y + 9), .int 0, .ref (Y + 10), .ref (Y + 11), .int 0, .ref (Y + 12), .ref (Y + 13), .ref (Y + 14), .ref (Y + 15), .int 0, .int 0, .ref (Y + 16), .ref (Y + 17), .ref (Y + 18), .int 0, .ref (Y + 19), .ref (Y + 20), .int 0, .ref (Y + 21), .int 0, .ref (Y + 22), .ref (Y + 23)])) ∧ g.2 (Y + 1) = some (iA K 19 nw0) ∧ g.2 (Y + 22) = some (iA K 38 (fun _ => 0)) ∧ g.2 (Y + 23) = some (zA K 2 (fun _ => 0)))) 175 [some (.ref Y)] [] h := by
  refine xr_al0 dX12_init_175 ?_
  refine xr_bipush (v := 38) dX12_init_176 (by decide) ?_
  refine xr_newi (rc' := 1) (rs' := 2) (N := 38) wa_int (by decide) (by decide) (by decide) rfl rfl dX12_init_178 ?_
  refine xT.nm (fun zh1 zg1 => ?_)
  have o0 := xn_ne zg1 (by omega) o0
  have q := xn_eq zg1
  rw [T] at q
  rw [T]
  refine xr_putF rfl o0 fX12_76 (Nat.le_of_ble_eq_true rfl) rfl rfl dX12_init_180 ?_
  refine xT.nm (fun zh2 zg2 => ?_)
  have o1 : zh2.2 Y = some (.inr (12, [.ref (Y + 1), .ref (Y + 2), .int 0, .ref (Y + 3), .int 0, .int 0, .null, .int 0, .int 0, .int 0, .int 0, .ref (Y + 4), .ref (Y + 5), .ref (Y + 6), .ref (Y + 7), .int 0, .int 0, .ref (Y + 8), .ref (Y + 9), .int 0, .ref (Y + 10), .ref (Y + 11), .int 0, .ref (Y + 12), .ref (Y + 13), .ref (Y + 14), .ref (Y + 15), .int 0, .int 0, .ref (Y + 16), .ref (Y + 17), .ref (Y + 18), .int 0, .ref (Y + 19), .ref (Y + 20), .int 0, .ref (Y + 21), .int 0, .ref (Y + 22), .null])) := xg_eq zg2
  have T1 : zh2.1 = Y + 23 := by rw [xg_1 zg2, xn_1 zg1, T]
  have b1 := xg_ne zg2 (b := Y + 1) (by omega) (xn_ne zg1 (by omega) a1)
  refine xT.post (fun r g q0' => ?_) (nm22 T1 o1 b1)
  obtain ⟨q0, q1, q2, q3, q5, q4⟩ := q0'
  exact ⟨q0, q1, fun b n1 n2 n3 => (q2 b n1 n2 (by omega)).trans ((xg_ne zg2 n1 rfl).trans (xn_ne zg1 (by omega) rfl)), q3, q5, (q2 _ (by omega) (by omega) (by omega)).trans (xg_ne zg2 (b := Y + 22) (by omega) q), q4⟩
set_option maxRecDepth 20000 in
theorem nm20 {K : xK} {B : Nat} {l : Launch} {Y : Nat} {h : xH} (T : h.1 = Y + 21) (o0 : h.2 Y = some (.inr (12, [.ref (Y + 1), .ref (Y + 2), .int 0, .ref (Y + 3), .int 0, .int 0, .null, .int 0, .int 0, .int 0, .int 0, .ref (Y + 4), .ref (Y + 5), .ref (Y + 6), .ref (Y + 7), .int 0, .int 0, .ref (Y + 8), .ref (Y + 9), .int 0, .ref (Y + 10), .ref (Y + 11), .int 0, .ref (Y + 12), .ref (Y + 13), .ref (Y + 14), .ref (Y + 15), .int 0, .int 0, .ref (Y + 16), .ref (Y + 17), .ref (Y + 18), .int 0, .ref (Y + 19), .ref (Y + 20), .int 0, .null, .int 0, .null, .null]))) (a1 : h.2 (Y + 1) = some (iA K 19 (fun _ => 0))) : xT K B l 2 RX12 true cX12_init 1 none 23 3121 3 241 (xPv (fun g => g.1 = Y + 24 ∧ (∀ b, b ≠ Y → b ≠ Y + 1 → b < Y + 21 → g.2 b = h.2 b) ∧ g.2 Y = some (.inr (12, [.ref (Y + 1), .ref (Y + 2), .int 0, .ref (Y + 3), .int 0, .int 0, .null, .int 0, .int 0, .int 0, .int 0, .ref (Y + 4), .ref (Y + 5), .ref (Y + 6), .ref (Y + 7), .int 0, .int 0, .ref (Y + 8), .ref (Y + 9), .int 0, .ref (Y + 10), .ref (Y + 11), .int 0, .ref (Y + 12), .ref (Y + 13), .ref (Y + 14), .ref (Y + 15), .int 0, .int 0, .ref (Y + 16), .ref (Y + 17), .ref (Y + 18), .int 0, .ref (Y + 19), .ref (Y + 20), .int 0, .ref (Y + 21), .int 0, .ref (Y + 22), .ref (Y + 23)])) ∧ g.2 (Y + 1) = some (iA K 19 nw0) ∧ g.2 (Y + 21) = some (zA K 201 (fun _ => 0)) ∧ g.2 (Y + 22) = some (iA K 38 (fun _ => 0)) ∧ g.2 (Y + 23) = some (zA K 2 (fun _ => 0)))) 166 [some (.ref Y)] [] h := by
  refine xr_al0 dX12_init_166 ?_
  refine xr_sipush (v := 201) dX12_init_167 (by decide) ?_
  refine xr_newz (rc' := 2) (rs' := 40) (N := 201) wa_boolean (by decide) (by decide) (by decide) rfl rfl dX12_init_170 ?_
  refine xT.nm (fun zh1 zg1 => ?_)
  have o0 := xn_ne zg1 (by omega) o0
  have q := xn_eq zg1
  rw [T] at q
  rw [T]
  refine xr_putF rfl o0 fX12_72 (Nat.le_of_ble_eq_true rfl) rfl rfl dX12_init_172 ?_
  refine xT.nm (fun zh2 zg2 => ?_)
  have o1 : zh2.2 Y = some (.inr (12, [.ref (Y + 1), .ref (Y + 2), .int 0, .ref (Y + 3), .int 0, .int 0, .null, .int 0, .int 0, .int 0, .int 0, .ref (Y + 4), .ref (Y + 5), .ref (Y + 6), .ref (Y + 7), .int 0, .int 0, .ref (Y + 8), .ref (Y + 9), .int 0, .ref (Y + 10), .ref (Y + 11), .int 0, .ref (Y + 12), .ref (Y + 13), .ref (Y + 14), .ref (Y + 15), .int 0, .int 0, .ref (Y + 16), .ref (Y + 17), .ref (Y + 18), .int 0, .ref (Y + 19), .ref (Y + 20), .int 0, .ref (Y + 21), .int 0, .null, .null])) := xg_eq zg2
  have T1 : zh2.1 = Y + 22 := by rw [xg_1 zg2, xn_1 zg1, T]
  have b1 := xg_ne zg2 (b := Y + 1) (by omega) (xn_ne zg1 (by omega) a1)
  refine xT.post (fun r g q0' => ?_) (nm21 T1 o1 b1)
  obtain ⟨q0, q1, q2, q3, q5, q4⟩ := q0'
  exact ⟨q0, q1, fun b n1 n2 n3 => (q2 b n1 n2 (by omega)).trans ((xg_ne zg2 n1 rfl).trans (xn_ne zg1 (by omega) rfl)), q3, q5, (q2 _ (by omega) (by omega) (by omega)).trans (xg_ne zg2 (b := Y + 21) (by omega) q), q4⟩
set_option maxRecDepth 20000 in
theorem nm19 {K : xK} {B : Nat} {l : Launch} {Y : Nat} {h : xH} (T : h.1 = Y + 20) (o0 : h.2 Y = some (.inr (12, [.ref (Y + 1), .ref (Y + 2), .int 0, .ref (Y + 3), .int 0, .int 0, .null, .int 0, .int 0, .int 0, .int 0, .ref (Y + 4), .ref (Y + 5), .ref (Y + 6), .ref (Y + 7), .int 0, .int 0, .ref (Y + 8), .ref (Y + 9), .int 0, .ref (Y + 10), .ref (Y + 11), .int 0, .ref (Y + 12), .ref (Y + 13), .ref (Y + 14), .ref (Y + 15), .int 0, .int 0, .ref (Y + 16), .ref (Y + 17), .ref (Y + 18), .int 0, .ref (Y + 19), .null, .int 0, .null, .int 0, .null, .null]))) (a1 : h.2 (Y + 1) = some (iA K 19 (fun _ => 0))) : xT K B l 2 RX12 true cX12_init 1 none 23 3121 4 251 (xPv (fun g => g.1 = Y + 24 ∧ (∀ b, b ≠ Y → b ≠ Y + 1 → b < Y + 20 → g.2 b = h.2 b) ∧ g.2 Y = some (.inr (12, [.ref (Y + 1), .ref (Y + 2), .int 0, .ref (Y + 3), .int 0, .int 0, .null, .int 0, .int 0, .int 0, .int 0, .ref (Y + 4), .ref (Y + 5), .ref (Y + 6), .ref (Y + 7), .int 0, .int 0, .ref (Y + 8), .ref (Y + 9), .int 0, .ref (Y + 10), .ref (Y + 11), .int 0, .ref (Y + 12), .ref (Y + 13), .ref (Y + 14), .ref (Y + 15), .int 0, .int 0, .ref (Y + 16), .ref (Y + 17), .ref (Y + 18), .int 0, .ref (Y + 19), .ref (Y + 20), .int 0, .ref (Y + 21), .int 0, .ref (Y + 22), .ref (Y + 23)])) ∧ g.2 (Y + 1) = some (iA K 19 nw0) ∧ g.2 (Y + 20) = some (iA K 10 (fun _ => 0)) ∧ g.2 (Y + 21) = some (zA K 201 (fun _ => 0)) ∧ g.2 (Y + 22) = some (iA K 38 (fun _ => 0)) ∧ g.2 (Y + 23) = some (zA K 2 (fun _ => 0)))) 158 [some (.ref Y)] [] h := by
  refine xr_al0 dX12_init_158 ?_
  refine xr_bipush (v := 10) dX12_init_159 (by decide) ?_
  refine xr_newi (rc' := 3) (rs' := 241) (N := 10) wa_int (by decide) (by decide) (by decide) rfl rfl dX12_init_161 ?_
  refine xT.nm (fun zh1 zg1 => ?_)
  have o0 := xn_ne zg1 (by omega) o0
  have q := xn_eq zg1
  rw [T] at q
  rw [T]
  refine xr_putF rfl o0 fX12_69 (Nat.le_of_ble_eq_true rfl) rfl rfl dX12_init_163 ?_
  refine xT.nm (fun zh2 zg2 => ?_)
  have o1 : zh2.2 Y = some (.inr (12, [.ref (Y + 1), .ref (Y + 2), .int 0, .ref (Y + 3), .int 0, .int 0, .null, .int 0, .int 0, .int 0, .int 0, .ref (Y + 4), .ref (Y + 5), .ref (Y + 6), .ref (Y + 7), .int 0, .int 0, .ref (Y + 8), .ref (Y + 9), .int 0, .ref (Y + 10), .ref (Y + 11), .int 0, .ref (Y + 12), .ref (Y + 13), .ref (Y + 14), .ref (Y + 15), .int 0, .int 0, .ref (Y + 16), .ref (Y + 17), .ref (Y + 18), .int 0, .ref (Y + 19), .ref (Y + 20), .int 0, .null, .int 0, .null, .null])) := xg_eq zg2
  have T1 : zh2.1 = Y + 21 := by rw [xg_1 zg2, xn_1 zg1, T]
  have b1 := xg_ne zg2 (b := Y + 1) (by omega) (xn_ne zg1 (by omega) a1)
  refine xT.post (fun r g q0' => ?_) (nm20 T1 o1 b1)
  obtain ⟨q0, q1, q2, q3, q5, q4⟩ := q0'
  exact ⟨q0, q1, fun b n1 n2 n3 => (q2 b n1 n2 (by omega)).trans ((xg_ne zg2 n1 rfl).trans (xn_ne zg1 (by omega) rfl)), q3, q5, (q2 _ (by omega) (by omega) (by omega)).trans (xg_ne zg2 (b := Y + 20) (by omega) q), q4⟩
set_option maxRecDepth 20000 in
theorem nm18 {K : xK} {B : Nat} {l : Launch} {Y : Nat} {h : xH} (T : h.1 = Y + 19) (o0 : h.2 Y = some (.inr (12, [.ref (Y + 1), .ref (Y + 2), .int 0, .ref (Y + 3), .int 0, .int 0, .null, .int 0, .int 0, .int 0, .int 0, .ref (Y + 4), .ref (Y + 5), .ref (Y + 6), .ref (Y + 7), .int 0, .int 0, .ref (Y + 8), .ref (Y + 9), .int 0, .ref (Y + 10), .ref (Y + 11), .int 0, .ref (Y + 12), .ref (Y + 13), .ref (Y + 14), .ref (Y + 15), .int 0, .int 0, .ref (Y + 16), .ref (Y + 17), .ref (Y + 18), .int 0, .null, .null, .int 0, .null, .int 0, .null, .null]))) (a1 : h.2 (Y + 1) = some (iA K 19 (fun _ => 0))) : xT K B l 2 RX12 true cX12_init 1 none 23 3121 5 261 (xPv (fun g => g.1 = Y + 24 ∧ (∀ b, b ≠ Y → b ≠ Y + 1 → b < Y + 19 → g.2 b = h.2 b) ∧ g.2 Y = some (.inr (12, [.ref (Y + 1), .ref (Y + 2), .int 0, .ref (Y + 3), .int 0, .int 0, .null, .int 0, .int 0, .int 0, .int 0, .ref (Y + 4), .ref (Y + 5), .ref (Y + 6), .ref (Y + 7), .int 0, .int 0, .ref (Y + 8), .ref (Y + 9), .int 0, .ref (Y + 10), .ref (Y + 11), .int 0, .ref (Y + 12), .ref (Y + 13), .ref (Y + 14), .ref (Y + 15), .int 0, .int 0, .ref (Y + 16), .ref (Y + 17), .ref (Y + 18), .int 0, .ref (Y + 19), .ref (Y + 20), .int 0, .ref (Y + 21), .int 0, .ref (Y + 22), .ref (Y + 23)])) ∧ g.2 (Y + 1) = some (iA K 19 nw0) ∧ g.2 (Y + 19) = some (iA K 10 (fun _ => 0)) ∧ g.2 (Y + 20) = some (iA K 10 (fun _ => 0)) ∧ g.2 (Y + 21) = some (zA K 201 (fun _ => 0)) ∧ g.2 (Y + 22) = some (iA K 38 (fun _ => 0)) ∧ g.2 (Y + 23) = some (zA K 2 (fun _ => 0)))) 150 [some (.ref Y)] [] h := by
  refine xr_al0 dX12_init_150 ?_
  refine xr_bipush (v := 10) dX12_init_151 (by decide) ?_
  refine xr_newi (rc' := 4) (rs' := 251) (N := 10) wa_int (by decide) (by decide) (by decide) rfl rfl dX12_init_153 ?_
  refine xT.nm (fun zh1 zg1 => ?_)
  have o0 := xn_ne zg1 (by omega) o0
  have q := xn_eq zg1
  rw [T] at q
  rw [T]
  refine xr_putF rfl o0 fX12_66 (Nat.le_of_ble_eq_true rfl) rfl rfl dX12_init_155 ?_
  refine xT.nm (fun zh2 zg2 => ?_)
  have o1 : zh2.2 Y = some (.inr (12, [.ref (Y + 1), .ref (Y + 2), .int 0, .ref (Y + 3), .int 0, .int 0, .null, .int 0, .int 0, .int 0, .int 0, .ref (Y + 4), .ref (Y + 5), .ref (Y + 6), .ref (Y + 7), .int 0, .int 0, .ref (Y + 8), .ref (Y + 9), .int 0, .ref (Y + 10), .ref (Y + 11), .int 0, .ref (Y + 12), .ref (Y + 13), .ref (Y + 14), .ref (Y + 15), .int 0, .int 0, .ref (Y + 16), .ref (Y + 17), .ref (Y + 18), .int 0, .ref (Y + 19), .null, .int 0, .null, .int 0, .null, .null])) := xg_eq zg2
  have T1 : zh2.1 = Y + 20 := by rw [xg_1 zg2, xn_1 zg1, T]
  have b1 := xg_ne zg2 (b := Y + 1) (by omega) (xn_ne zg1 (by omega) a1)
  refine xT.post (fun r g q0' => ?_) (nm19 T1 o1 b1)
  obtain ⟨q0, q1, q2, q3, q5, q4⟩ := q0'
  exact ⟨q0, q1, fun b n1 n2 n3 => (q2 b n1 n2 (by omega)).trans ((xg_ne zg2 n1 rfl).trans (xn_ne zg1 (by omega) rfl)), q3, q5, (q2 _ (by omega) (by omega) (by omega)).trans (xg_ne zg2 (b := Y + 19) (by omega) q), q4⟩
set_option maxRecDepth 20000 in
theorem nm17 {K : xK} {B : Nat} {l : Launch} {Y : Nat} {h : xH} (T : h.1 = Y + 18) (o0 : h.2 Y = some (.inr (12, [.ref (Y + 1), .ref (Y + 2), .int 0, .ref (Y + 3), .int 0, .int 0, .null, .int 0, .int 0, .int 0, .int 0, .ref (Y + 4), .ref (Y + 5), .ref (Y + 6), .ref (Y + 7), .int 0, .int 0, .ref (Y + 8), .ref (Y + 9), .int 0, .ref (Y + 10), .ref (Y + 11), .int 0, .ref (Y + 12), .ref (Y + 13), .ref (Y + 14), .ref (Y + 15), .int 0, .int 0, .ref (Y + 16), .ref (Y + 17), .null, .int 0, .null, .null, .int 0, .null, .int 0, .null, .null]))) (a1 : h.2 (Y + 1) = some (iA K 19 (fun _ => 0))) : xT K B l 2 RX12 true cX12_init 1 none 23 3121 6 273 (xPv (fun g => g.1 = Y + 24 ∧ (∀ b, b ≠ Y → b ≠ Y + 1 → b < Y + 18 → g.2 b = h.2 b) ∧ g.2 Y = some (.inr (12, [.ref (Y + 1), .ref (Y + 2), .int 0, .ref (Y + 3), .int 0, .int 0, .null, .int 0, .int 0, .int 0, .int 0, .ref (Y + 4), .ref (Y + 5), .ref (Y + 6), .ref (Y + 7), .int 0, .int 0, .ref (Y + 8), .ref (Y + 9), .int 0, .ref (Y + 10), .ref (Y + 11), .int 0, .ref (Y + 12), .ref (Y + 13), .ref (Y + 14), .ref (Y + 15), .int 0, .int 0, .ref (Y + 16), .ref (Y + 17), .ref (Y + 18), .int 0, .ref (Y + 19), .ref (Y + 20), .int 0, .ref (Y + 21), .int 0, .ref (Y + 22), .ref (Y + 23)])) ∧ g.2 (Y + 1) = some (iA K 19 nw0) ∧ g.2 (Y + 18) = some (iA K 12 (fun _ => 0)) ∧ g.2 (Y + 19) = some (iA K 10 (fun _ => 0)) ∧ g.2 (Y + 20) = some (iA K 10 (fun _ => 0)) ∧ g.2 (Y + 21) = some (zA K 201 (fun _ => 0)) ∧ g.2 (Y + 22) = some (iA K 38 (fun _ => 0)) ∧ g.2 (Y + 23) = some (zA K 2 (fun _ => 0)))) 142 [some (.ref Y)] [] h := by
  refine xr_al0 dX12_init_142 ?_
  refine xr_bipush (v := 12) dX12_init_143 (by decide) ?_
  refine xr_newi (rc' := 5) (rs' := 261) (N := 12) wa_int (by decide) (by decide) (by decide) rfl rfl dX12_init_145 ?_
  refine xT.nm (fun zh1 zg1 => ?_)
  have o0 := xn_ne zg1 (by omega) o0
  have q := xn_eq zg1
  rw [T] at q
  rw [T]
  refine xr_putF rfl o0 fX12_63 (Nat.le_of_ble_eq_true rfl) rfl rfl dX12_init_147 ?_
  refine xT.nm (fun zh2 zg2 => ?_)
  have o1 : zh2.2 Y = some (.inr (12, [.ref (Y + 1), .ref (Y + 2), .int 0, .ref (Y + 3), .int 0, .int 0, .null, .int 0, .int 0, .int 0, .int 0, .ref (Y + 4), .ref (Y + 5), .ref (Y + 6), .ref (Y + 7), .int 0, .int 0, .ref (Y + 8), .ref (Y + 9), .int 0, .ref (Y + 10), .ref (Y + 11), .int 0, .ref (Y + 12), .ref (Y + 13), .ref (Y + 14), .ref (Y + 15), .int 0, .int 0, .ref (Y + 16), .ref (Y + 17), .ref (Y + 18), .int 0, .null, .null, .int 0, .null, .int 0, .null, .null])) := xg_eq zg2
  have T1 : zh2.1 = Y + 19 := by rw [xg_1 zg2, xn_1 zg1, T]
  have b1 := xg_ne zg2 (b := Y + 1) (by omega) (xn_ne zg1 (by omega) a1)
  refine xT.post (fun r g q0' => ?_) (nm18 T1 o1 b1)
  obtain ⟨q0, q1, q2, q3, q5, q4⟩ := q0'
  exact ⟨q0, q1, fun b n1 n2 n3 => (q2 b n1 n2 (by omega)).trans ((xg_ne zg2 n1 rfl).trans (xn_ne zg1 (by omega) rfl)), q3, q5, (q2 _ (by omega) (by omega) (by omega)).trans (xg_ne zg2 (b := Y + 18) (by omega) q), q4⟩
set_option maxRecDepth 20000 in
theorem nm16 {K : xK} {B : Nat} {l : Launch} {Y : Nat} {h : xH} (T : h.1 = Y + 17) (o0 : h.2 Y = some (.inr (12, [.ref (Y + 1), .ref (Y + 2), .int 0, .ref (Y + 3), .int 0, .int 0, .null, .int 0, .int 0, .int 0, .int 0, .ref (Y + 4), .ref (Y + 5), .ref (Y + 6), .ref (Y + 7), .int 0, .int 0, .ref (Y + 8), .ref (Y + 9), .int 0, .ref (Y + 10), .ref (Y + 11), .int 0, .ref (Y + 12), .ref (Y + 13), .ref (Y + 14), .ref (Y + 15), .int 0, .int 0, .ref (Y + 16), .null, .null, .int 0, .null, .null, .int 0, .null, .int 0, .null, .null]))) (a1 : h.2 (Y + 1) = some (iA K 19 (fun _ => 0))) : xT K B l 2 RX12 true cX12_init 1 none 23 3121 7 285 (xPv (fun g => g.1 = Y + 24 ∧ (∀ b, b ≠ Y → b ≠ Y + 1 → b < Y + 17 → g.2 b = h.2 b) ∧ g.2 Y = some (.inr (12, [.ref (Y + 1), .ref (Y + 2), .int 0, .ref (Y + 3), .int 0, .int 0, .null, .int 0, .int 0, .int 0, .int 0, .ref (Y + 4), .ref (Y + 5), .ref (Y + 6), .ref (Y + 7), .int 0, .int 0, .ref (Y + 8), .ref (Y + 9), .int 0, .ref (Y + 10), .ref (Y + 11), .int 0, .ref (Y + 12), .ref (Y + 13), .ref (Y + 14), .ref (Y + 15), .int 0, .int 0, .ref (Y + 16), .ref (Y + 17), .ref (Y + 18), .int 0, .ref (Y + 19), .ref (Y + 20), .int 0, .ref (Y + 21), .int 0, .ref (Y + 22), .ref (Y + 23)])) ∧ g.2 (Y + 1) = some (iA K 19 nw0) ∧ g.2 (Y + 17) = some (iA K 12 (fun _ => 0)) ∧ g.2 (Y + 18) = some (iA K 12 (fun _ => 0)) ∧ g.2 (Y + 19) = some (iA K 10 (fun _ => 0)) ∧ g.2 (Y + 20) = some (iA K 10 (fun _ => 0)) ∧ g.2 (Y + 21) = some (zA K 201 (fun _ => 0)) ∧ g.2 (Y + 22) = some (iA K 38 (fun _ => 0)) ∧ g.2 (Y + 23) = some (zA K 2 (fun _ => 0)))) 134 [some (.ref Y)] [] h := by
  refine xr_al0 dX12_init_134 ?_
  refine xr_bipush (v := 12) dX12_init_135 (by decide) ?_
  refine xr_newi (rc' := 6) (rs' := 273) (N := 12) wa_int (by decide) (by decide) (by decide) rfl rfl dX12_init_137 ?_
  refine xT.nm (fun zh1 zg1 => ?_)
  have o0 := xn_ne zg1 (by omega) o0
  have q := xn_eq zg1
  rw [T] at q
  rw [T]
  refine xr_putF rfl o0 fX12_60 (Nat.le_of_ble_eq_true rfl) rfl rfl dX12_init_139 ?_
  refine xT.nm (fun zh2 zg2 => ?_)
  have o1 : zh2.2 Y = some (.inr (12, [.ref (Y + 1), .ref (Y + 2), .int 0, .ref (Y + 3), .int 0, .int 0, .null, .int 0, .int 0, .int 0, .int 0, .ref (Y + 4), .ref (Y + 5), .ref (Y + 6), .ref (Y + 7), .int 0, .int 0, .ref (Y + 8), .ref (Y + 9), .int 0, .ref (Y + 10), .ref (Y + 11), .int 0, .ref (Y + 12), .ref (Y + 13), .ref (Y + 14), .ref (Y + 15), .int 0, .int 0, .ref (Y + 16), .ref (Y + 17), .null, .int 0, .null, .null, .int 0, .null, .int 0, .null, .null])) := xg_eq zg2
  have T1 : zh2.1 = Y + 18 := by rw [xg_1 zg2, xn_1 zg1, T]
  have b1 := xg_ne zg2 (b := Y + 1) (by omega) (xn_ne zg1 (by omega) a1)
  refine xT.post (fun r g q0' => ?_) (nm17 T1 o1 b1)
  obtain ⟨q0, q1, q2, q3, q5, q4⟩ := q0'
  exact ⟨q0, q1, fun b n1 n2 n3 => (q2 b n1 n2 (by omega)).trans ((xg_ne zg2 n1 rfl).trans (xn_ne zg1 (by omega) rfl)), q3, q5, (q2 _ (by omega) (by omega) (by omega)).trans (xg_ne zg2 (b := Y + 17) (by omega) q), q4⟩
set_option maxRecDepth 20000 in
theorem nm15 {K : xK} {B : Nat} {l : Launch} {Y : Nat} {h : xH} (T : h.1 = Y + 16) (o0 : h.2 Y = some (.inr (12, [.ref (Y + 1), .ref (Y + 2), .int 0, .ref (Y + 3), .int 0, .int 0, .null, .int 0, .int 0, .int 0, .int 0, .ref (Y + 4), .ref (Y + 5), .ref (Y + 6), .ref (Y + 7), .int 0, .int 0, .ref (Y + 8), .ref (Y + 9), .int 0, .ref (Y + 10), .ref (Y + 11), .int 0, .ref (Y + 12), .ref (Y + 13), .ref (Y + 14), .ref (Y + 15), .int 0, .int 0, .null, .null, .null, .int 0, .null, .null, .int 0, .null, .int 0, .null, .null]))) (a1 : h.2 (Y + 1) = some (iA K 19 (fun _ => 0))) : xT K B l 2 RX12 true cX12_init 1 none 23 3121 8 349 (xPv (fun g => g.1 = Y + 24 ∧ (∀ b, b ≠ Y → b ≠ Y + 1 → b < Y + 16 → g.2 b = h.2 b) ∧ g.2 Y = some (.inr (12, [.ref (Y + 1), .ref (Y + 2), .int 0, .ref (Y + 3), .int 0, .int 0, .null, .int 0, .int 0, .int 0, .int 0, .ref (Y + 4), .ref (Y + 5), .ref (Y + 6), .ref (Y + 7), .int 0, .int 0, .ref (Y + 8), .ref (Y + 9), .int 0, .ref (Y + 10), .ref (Y + 11), .int 0, .ref (Y + 12), .ref (Y + 13), .ref (Y + 14), .ref (Y + 15), .int 0, .int 0, .ref (Y + 16), .ref (Y + 17), .ref (Y + 18), .int 0, .ref (Y + 19), .ref (Y + 20), .int 0, .ref (Y + 21), .int 0, .ref (Y + 22), .ref (Y + 23)])) ∧ g.2 (Y + 1) = some (iA K 19 nw0) ∧ g.2 (Y + 16) = some (iA K 64 (fun _ => 0)) ∧ g.2 (Y + 17) = some (iA K 12 (fun _ => 0)) ∧ g.2 (Y + 18) = some (iA K 12 (fun _ => 0)) ∧ g.2 (Y + 19) = some (iA K 10 (fun _ => 0)) ∧ g.2 (Y + 20) = some (iA K 10 (fun _ => 0)) ∧ g.2 (Y + 21) = some (zA K 201 (fun _ => 0)) ∧ g.2 (Y + 22) = some (iA K 38 (fun _ => 0)) ∧ g.2 (Y + 23) = some (zA K 2 (fun _ => 0)))) 126 [some (.ref Y)] [] h := by
  refine xr_al0 dX12_init_126 ?_
  refine xr_bipush (v := 64) dX12_init_127 (by decide) ?_
  refine xr_newi (rc' := 7) (rs' := 285) (N := 64) wa_int (by decide) (by decide) (by decide) rfl rfl dX12_init_129 ?_
  refine xT.nm (fun zh1 zg1 => ?_)
  have o0 := xn_ne zg1 (by omega) o0
  have q := xn_eq zg1
  rw [T] at q
  rw [T]
  refine xr_putF rfl o0 fX12_57 (Nat.le_of_ble_eq_true rfl) rfl rfl dX12_init_131 ?_
  refine xT.nm (fun zh2 zg2 => ?_)
  have o1 : zh2.2 Y = some (.inr (12, [.ref (Y + 1), .ref (Y + 2), .int 0, .ref (Y + 3), .int 0, .int 0, .null, .int 0, .int 0, .int 0, .int 0, .ref (Y + 4), .ref (Y + 5), .ref (Y + 6), .ref (Y + 7), .int 0, .int 0, .ref (Y + 8), .ref (Y + 9), .int 0, .ref (Y + 10), .ref (Y + 11), .int 0, .ref (Y + 12), .ref (Y + 13), .ref (Y + 14), .ref (Y + 15), .int 0, .int 0, .ref (Y + 16), .null, .null, .int 0, .null, .null, .int 0, .null, .int 0, .null, .null])) := xg_eq zg2
  have T1 : zh2.1 = Y + 17 := by rw [xg_1 zg2, xn_1 zg1, T]
  have b1 := xg_ne zg2 (b := Y + 1) (by omega) (xn_ne zg1 (by omega) a1)
  refine xT.post (fun r g q0' => ?_) (nm16 T1 o1 b1)
  obtain ⟨q0, q1, q2, q3, q5, q4⟩ := q0'
  exact ⟨q0, q1, fun b n1 n2 n3 => (q2 b n1 n2 (by omega)).trans ((xg_ne zg2 n1 rfl).trans (xn_ne zg1 (by omega) rfl)), q3, q5, (q2 _ (by omega) (by omega) (by omega)).trans (xg_ne zg2 (b := Y + 16) (by omega) q), q4⟩
set_option maxRecDepth 20000 in
theorem nm14 {K : xK} {B : Nat} {l : Launch} {Y : Nat} {h : xH} (T : h.1 = Y + 15) (o0 : h.2 Y = some (.inr (12, [.ref (Y + 1), .ref (Y + 2), .int 0, .ref (Y + 3), .int 0, .int 0, .null, .int 0, .int 0, .int 0, .int 0, .ref (Y + 4), .ref (Y + 5), .ref (Y + 6), .ref (Y + 7), .int 0, .int 0, .ref (Y + 8), .ref (Y + 9), .int 0, .ref (Y + 10), .ref (Y + 11), .int 0, .ref (Y + 12), .ref (Y + 13), .ref (Y + 14), .null, .int 0, .int 0, .null, .null, .null, .int 0, .null, .null, .int 0, .null, .int 0, .null, .null]))) (a1 : h.2 (Y + 1) = some (iA K 19 (fun _ => 0))) : xT K B l 2 RX12 true cX12_init 1 none 23 3121 9 1373 (xPv (fun g => g.1 = Y + 24 ∧ (∀ b, b ≠ Y → b ≠ Y + 1 → b < Y + 15 → g.2 b = h.2 b) ∧ g.2 Y = some (.inr (12, [.ref (Y + 1), .ref (Y + 2), .int 0, .ref (Y + 3), .int 0, .int 0, .null, .int 0, .int 0, .int 0, .int 0, .ref (Y + 4), .ref (Y + 5), .ref (Y + 6), .ref (Y + 7), .int 0, .int 0, .ref (Y + 8), .ref (Y + 9), .int 0, .ref (Y + 10), .ref (Y + 11), .int 0, .ref (Y + 12), .ref (Y + 13), .ref (Y + 14), .ref (Y + 15), .int 0, .int 0, .ref (Y + 16), .ref (Y + 17), .ref (Y + 18), .int 0, .ref (Y + 19), .ref (Y + 20), .int 0, .ref (Y + 21), .int 0, .ref (Y + 22), .ref (Y + 23)])) ∧ g.2 (Y + 1) = some (iA K 19 nw0) ∧ g.2 (Y + 15) = some (iA K 1024 (fun _ => 0)) ∧ g.2 (Y + 16) = some (iA K 64 (fun _ => 0)) ∧ g.2 (Y + 17) = some (iA K 12 (fun _ => 0)) ∧ g.2 (Y + 18) = some (iA K 12 (fun _ => 0)) ∧ g.2 (Y + 19) = some (iA K 10 (fun _ => 0)) ∧ g.2 (Y + 20) = some (iA K 10 (fun _ => 0)) ∧ g.2 (Y + 21) = some (zA K 201 (fun _ => 0)) ∧ g.2 (Y + 22) = some (iA K 38 (fun _ => 0)) ∧ g.2 (Y + 23) = some (zA K 2 (fun _ => 0)))) 117 [some (.ref Y)] [] h := by
  refine xr_al0 dX12_init_117 ?_
  refine xr_sipush (v := 1024) dX12_init_118 (by decide) ?_
  refine xr_newi (rc' := 8) (rs' := 349) (N := 1024) wa_int (by decide) (by decide) (by decide) rfl rfl dX12_init_121 ?_
  refine xT.nm (fun zh1 zg1 => ?_)
  have o0 := xn_ne zg1 (by omega) o0
  have q := xn_eq zg1
  rw [T] at q
  rw [T]
  refine xr_putF rfl o0 fX12_54 (Nat.le_of_ble_eq_true rfl) rfl rfl dX12_init_123 ?_
  refine xT.nm (fun zh2 zg2 => ?_)
  have o1 : zh2.2 Y = some (.inr (12, [.ref (Y + 1), .ref (Y + 2), .int 0, .ref (Y + 3), .int 0, .int 0, .null, .int 0, .int 0, .int 0, .int 0, .ref (Y + 4), .ref (Y + 5), .ref (Y + 6), .ref (Y + 7), .int 0, .int 0, .ref (Y + 8), .ref (Y + 9), .int 0, .ref (Y + 10), .ref (Y + 11), .int 0, .ref (Y + 12), .ref (Y + 13), .ref (Y + 14), .ref (Y + 15), .int 0, .int 0, .null, .null, .null, .int 0, .null, .null, .int 0, .null, .int 0, .null, .null])) := xg_eq zg2
  have T1 : zh2.1 = Y + 16 := by rw [xg_1 zg2, xn_1 zg1, T]
  have b1 := xg_ne zg2 (b := Y + 1) (by omega) (xn_ne zg1 (by omega) a1)
  refine xT.post (fun r g q0' => ?_) (nm15 T1 o1 b1)
  obtain ⟨q0, q1, q2, q3, q5, q4⟩ := q0'
  exact ⟨q0, q1, fun b n1 n2 n3 => (q2 b n1 n2 (by omega)).trans ((xg_ne zg2 n1 rfl).trans (xn_ne zg1 (by omega) rfl)), q3, q5, (q2 _ (by omega) (by omega) (by omega)).trans (xg_ne zg2 (b := Y + 15) (by omega) q), q4⟩
set_option maxRecDepth 20000 in
theorem nm13 {K : xK} {B : Nat} {l : Launch} {Y : Nat} {h : xH} (T : h.1 = Y + 14) (o0 : h.2 Y = some (.inr (12, [.ref (Y + 1), .ref (Y + 2), .int 0, .ref (Y + 3), .int 0, .int 0, .null, .int 0, .int 0, .int 0, .int 0, .ref (Y + 4), .ref (Y + 5), .ref (Y + 6), .ref (Y + 7), .int 0, .int 0, .ref (Y + 8), .ref (Y + 9), .int 0, .ref (Y + 10), .ref (Y + 11), .int 0, .ref (Y + 12), .ref (Y + 13), .null, .null, .int 0, .int 0, .null, .null, .null, .int 0, .null, .null, .int 0, .null, .int 0, .null, .null]))) (a1 : h.2 (Y + 1) = some (iA K 19 (fun _ => 0))) : xT K B l 2 RX12 true cX12_init 1 none 23 3121 10 2397 (xPv (fun g => g.1 = Y + 24 ∧ (∀ b, b ≠ Y → b ≠ Y + 1 → b < Y + 14 → g.2 b = h.2 b) ∧ g.2 Y = some (.inr (12, [.ref (Y + 1), .ref (Y + 2), .int 0, .ref (Y + 3), .int 0, .int 0, .null, .int 0, .int 0, .int 0, .int 0, .ref (Y + 4), .ref (Y + 5), .ref (Y + 6), .ref (Y + 7), .int 0, .int 0, .ref (Y + 8), .ref (Y + 9), .int 0, .ref (Y + 10), .ref (Y + 11), .int 0, .ref (Y + 12), .ref (Y + 13), .ref (Y + 14), .ref (Y + 15), .int 0, .int 0, .ref (Y + 16), .ref (Y + 17), .ref (Y + 18), .int 0, .ref (Y + 19), .ref (Y + 20), .int 0, .ref (Y + 21), .int 0, .ref (Y + 22), .ref (Y + 23)])) ∧ g.2 (Y + 1) = some (iA K 19 nw0) ∧ g.2 (Y + 14) = some (iA K 1024 (fun _ => 0)) ∧ g.2 (Y + 15) = some (iA K 1024 (fun _ => 0)) ∧ g.2 (Y + 16) = some (iA K 64 (fun _ => 0)) ∧ g.2 (Y + 17) = some (iA K 12 (fun _ => 0)) ∧ g.2 (Y + 18) = some (iA K 12 (fun _ => 0)) ∧ g.2 (Y + 19) = some (iA K 10 (fun _ => 0)) ∧ g.2 (Y + 20) = some (iA K 10 (fun _ => 0)) ∧ g.2 (Y + 21) = some (zA K 201 (fun _ => 0)) ∧ g.2 (Y + 22) = some (iA K 38 (fun _ => 0)) ∧ g.2 (Y + 23) = some (zA K 2 (fun _ => 0)))) 108 [some (.ref Y)] [] h := by
  refine xr_al0 dX12_init_108 ?_
  refine xr_sipush (v := 1024) dX12_init_109 (by decide) ?_
  refine xr_newi (rc' := 9) (rs' := 1373) (N := 1024) wa_int (by decide) (by decide) (by decide) rfl rfl dX12_init_112 ?_
  refine xT.nm (fun zh1 zg1 => ?_)
  have o0 := xn_ne zg1 (by omega) o0
  have q := xn_eq zg1
  rw [T] at q
  rw [T]
  refine xr_putF rfl o0 fX12_51 (Nat.le_of_ble_eq_true rfl) rfl rfl dX12_init_114 ?_
  refine xT.nm (fun zh2 zg2 => ?_)
  have o1 : zh2.2 Y = some (.inr (12, [.ref (Y + 1), .ref (Y + 2), .int 0, .ref (Y + 3), .int 0, .int 0, .null, .int 0, .int 0, .int 0, .int 0, .ref (Y + 4), .ref (Y + 5), .ref (Y + 6), .ref (Y + 7), .int 0, .int 0, .ref (Y + 8), .ref (Y + 9), .int 0, .ref (Y + 10), .ref (Y + 11), .int 0, .ref (Y + 12), .ref (Y + 13), .ref (Y + 14), .null, .int 0, .int 0, .null, .null, .null, .int 0, .null, .null, .int 0, .null, .int 0, .null, .null])) := xg_eq zg2
  have T1 : zh2.1 = Y + 15 := by rw [xg_1 zg2, xn_1 zg1, T]
  have b1 := xg_ne zg2 (b := Y + 1) (by omega) (xn_ne zg1 (by omega) a1)
  refine xT.post (fun r g q0' => ?_) (nm14 T1 o1 b1)
  obtain ⟨q0, q1, q2, q3, q5, q4⟩ := q0'
  exact ⟨q0, q1, fun b n1 n2 n3 => (q2 b n1 n2 (by omega)).trans ((xg_ne zg2 n1 rfl).trans (xn_ne zg1 (by omega) rfl)), q3, q5, (q2 _ (by omega) (by omega) (by omega)).trans (xg_ne zg2 (b := Y + 14) (by omega) q), q4⟩
set_option maxRecDepth 20000 in
theorem nm12 {K : xK} {B : Nat} {l : Launch} {Y : Nat} {h : xH} (T : h.1 = Y + 13) (o0 : h.2 Y = some (.inr (12, [.ref (Y + 1), .ref (Y + 2), .int 0, .ref (Y + 3), .int 0, .int 0, .null, .int 0, .int 0, .int 0, .int 0, .ref (Y + 4), .ref (Y + 5), .ref (Y + 6), .ref (Y + 7), .int 0, .int 0, .ref (Y + 8), .ref (Y + 9), .int 0, .ref (Y + 10), .ref (Y + 11), .int 0, .ref (Y + 12), .null, .null, .null, .int 0, .int 0, .null, .null, .null, .int 0, .null, .null, .int 0, .null, .int 0, .null, .null]))) (a1 : h.2 (Y + 1) = some (iA K 19 (fun _ => 0))) : xT K B l 2 RX12 true cX12_init 1 none 23 3121 11 2401 (xPv (fun g => g.1 = Y + 24 ∧ (∀ b, b ≠ Y → b ≠ Y + 1 → b < Y + 13 → g.2 b = h.2 b) ∧ g.2 Y = some (.inr (12, [.ref (Y + 1), .ref (Y + 2), .int 0, .ref (Y + 3), .int 0, .int 0, .null, .int 0, .int 0, .int 0, .int 0, .ref (Y + 4), .ref (Y + 5), .ref (Y + 6), .ref (Y + 7), .int 0, .int 0, .ref (Y + 8), .ref (Y + 9), .int 0, .ref (Y + 10), .ref (Y + 11), .int 0, .ref (Y + 12), .ref (Y + 13), .ref (Y + 14), .ref (Y + 15), .int 0, .int 0, .ref (Y + 16), .ref (Y + 17), .ref (Y + 18), .int 0, .ref (Y + 19), .ref (Y + 20), .int 0, .ref (Y + 21), .int 0, .ref (Y + 22), .ref (Y + 23)])) ∧ g.2 (Y + 1) = some (iA K 19 nw0) ∧ g.2 (Y + 13) = some (iA K 4 (fun _ => 0)) ∧ g.2 (Y + 14) = some (iA K 1024 (fun _ => 0)) ∧ g.2 (Y + 15) = some (iA K 1024 (fun _ => 0)) ∧ g.2 (Y + 16) = some (iA K 64 (fun _ => 0)) ∧ g.2 (Y + 17) = some (iA K 12 (fun _ => 0)) ∧ g.2 (Y + 18) = some (iA K 12 (fun _ => 0)) ∧ g.2 (Y + 19) = some (iA K 10 (fun _ => 0)) ∧ g.2 (Y + 20) = some (iA K 10 (fun _ => 0)) ∧ g.2 (Y + 21) = some (zA K 201 (fun _ => 0)) ∧ g.2 (Y + 22) = some (iA K 38 (fun _ => 0)) ∧ g.2 (Y + 23) = some (zA K 2 (fun _ => 0)))) 101 [some (.ref Y)] [] h := by
  refine xr_al0 dX12_init_101 ?_
  refine xr_ic4 dX12_init_102 ?_
  refine xr_newi (rc' := 10) (rs' := 2397) (N := 4) wa_int (by decide) (by decide) (by decide) rfl rfl dX12_init_103 ?_
  refine xT.nm (fun zh1 zg1 => ?_)
  have o0 := xn_ne zg1 (by omega) o0
  have q := xn_eq zg1
  rw [T] at q
  rw [T]
  refine xr_putF rfl o0 fX12_48 (Nat.le_of_ble_eq_true rfl) rfl rfl dX12_init_105 ?_
  refine xT.nm (fun zh2 zg2 => ?_)
  have o1 : zh2.2 Y = some (.inr (12, [.ref (Y + 1), .ref (Y + 2), .int 0, .ref (Y + 3), .int 0, .int 0, .null, .int 0, .int 0, .int 0, .int 0, .ref (Y + 4), .ref (Y + 5), .ref (Y + 6), .ref (Y + 7), .int 0, .int 0, .ref (Y + 8), .ref (Y + 9), .int 0, .ref (Y + 10), .ref (Y + 11), .int 0, .ref (Y + 12), .ref (Y + 13), .null, .null, .int 0, .int 0, .null, .null, .null, .int 0, .null, .null, .int 0, .null, .int 0, .null, .null])) := xg_eq zg2
  have T1 : zh2.1 = Y + 14 := by rw [xg_1 zg2, xn_1 zg1, T]
  have b1 := xg_ne zg2 (b := Y + 1) (by omega) (xn_ne zg1 (by omega) a1)
  refine xT.post (fun r g q0' => ?_) (nm13 T1 o1 b1)
  obtain ⟨q0, q1, q2, q3, q5, q4⟩ := q0'
  exact ⟨q0, q1, fun b n1 n2 n3 => (q2 b n1 n2 (by omega)).trans ((xg_ne zg2 n1 rfl).trans (xn_ne zg1 (by omega) rfl)), q3, q5, (q2 _ (by omega) (by omega) (by omega)).trans (xg_ne zg2 (b := Y + 13) (by omega) q), q4⟩
set_option maxRecDepth 20000 in
theorem nm11 {K : xK} {B : Nat} {l : Launch} {Y : Nat} {h : xH} (T : h.1 = Y + 12) (o0 : h.2 Y = some (.inr (12, [.ref (Y + 1), .ref (Y + 2), .int 0, .ref (Y + 3), .int 0, .int 0, .null, .int 0, .int 0, .int 0, .int 0, .ref (Y + 4), .ref (Y + 5), .ref (Y + 6), .ref (Y + 7), .int 0, .int 0, .ref (Y + 8), .ref (Y + 9), .int 0, .ref (Y + 10), .ref (Y + 11), .int 0, .null, .null, .null, .null, .int 0, .int 0, .null, .null, .null, .int 0, .null, .null, .int 0, .null, .int 0, .null, .null]))) (a1 : h.2 (Y + 1) = some (iA K 19 (fun _ => 0))) : xT K B l 2 RX12 true cX12_init 1 none 23 3121 12 2641 (xPv (fun g => g.1 = Y + 24 ∧ (∀ b, b ≠ Y → b ≠ Y + 1 → b < Y + 12 → g.2 b = h.2 b) ∧ g.2 Y = some (.inr (12, [.ref (Y + 1), .ref (Y + 2), .int 0, .ref (Y + 3), .int 0, .int 0, .null, .int 0, .int 0, .int 0, .int 0, .ref (Y + 4), .ref (Y + 5), .ref (Y + 6), .ref (Y + 7), .int 0, .int 0, .ref (Y + 8), .ref (Y + 9), .int 0, .ref (Y + 10), .ref (Y + 11), .int 0, .ref (Y + 12), .ref (Y + 13), .ref (Y + 14), .ref (Y + 15), .int 0, .int 0, .ref (Y + 16), .ref (Y + 17), .ref (Y + 18), .int 0, .ref (Y + 19), .ref (Y + 20), .int 0, .ref (Y + 21), .int 0, .ref (Y + 22), .ref (Y + 23)])) ∧ g.2 (Y + 1) = some (iA K 19 nw0) ∧ g.2 (Y + 12) = some (iA K 240 (fun _ => 0)) ∧ g.2 (Y + 13) = some (iA K 4 (fun _ => 0)) ∧ g.2 (Y + 14) = some (iA K 1024 (fun _ => 0)) ∧ g.2 (Y + 15) = some (iA K 1024 (fun _ => 0)) ∧ g.2 (Y + 16) = some (iA K 64 (fun _ => 0)) ∧ g.2 (Y + 17) = some (iA K 12 (fun _ => 0)) ∧ g.2 (Y + 18) = some (iA K 12 (fun _ => 0)) ∧ g.2 (Y + 19) = some (iA K 10 (fun _ => 0)) ∧ g.2 (Y + 20) = some (iA K 10 (fun _ => 0)) ∧ g.2 (Y + 21) = some (zA K 201 (fun _ => 0)) ∧ g.2 (Y + 22) = some (iA K 38 (fun _ => 0)) ∧ g.2 (Y + 23) = some (zA K 2 (fun _ => 0)))) 92 [some (.ref Y)] [] h := by
  refine xr_al0 dX12_init_92 ?_
  refine xr_sipush (v := 240) dX12_init_93 (by decide) ?_
  refine xr_newi (rc' := 11) (rs' := 2401) (N := 240) wa_int (by decide) (by decide) (by decide) rfl rfl dX12_init_96 ?_
  refine xT.nm (fun zh1 zg1 => ?_)
  have o0 := xn_ne zg1 (by omega) o0
  have q := xn_eq zg1
  rw [T] at q
  rw [T]
  refine xr_putF rfl o0 fX12_45 (Nat.le_of_ble_eq_true rfl) rfl rfl dX12_init_98 ?_
  refine xT.nm (fun zh2 zg2 => ?_)
  have o1 : zh2.2 Y = some (.inr (12, [.ref (Y + 1), .ref (Y + 2), .int 0, .ref (Y + 3), .int 0, .int 0, .null, .int 0, .int 0, .int 0, .int 0, .ref (Y + 4), .ref (Y + 5), .ref (Y + 6), .ref (Y + 7), .int 0, .int 0, .ref (Y + 8), .ref (Y + 9), .int 0, .ref (Y + 10), .ref (Y + 11), .int 0, .ref (Y + 12), .null, .null, .null, .int 0, .int 0, .null, .null, .null, .int 0, .null, .null, .int 0, .null, .int 0, .null, .null])) := xg_eq zg2
  have T1 : zh2.1 = Y + 13 := by rw [xg_1 zg2, xn_1 zg1, T]
  have b1 := xg_ne zg2 (b := Y + 1) (by omega) (xn_ne zg1 (by omega) a1)
  refine xT.post (fun r g q0' => ?_) (nm12 T1 o1 b1)
  obtain ⟨q0, q1, q2, q3, q5, q4⟩ := q0'
  exact ⟨q0, q1, fun b n1 n2 n3 => (q2 b n1 n2 (by omega)).trans ((xg_ne zg2 n1 rfl).trans (xn_ne zg1 (by omega) rfl)), q3, q5, (q2 _ (by omega) (by omega) (by omega)).trans (xg_ne zg2 (b := Y + 12) (by omega) q), q4⟩
set_option maxRecDepth 20000 in
theorem nm10 {K : xK} {B : Nat} {l : Launch} {Y : Nat} {h : xH} (T : h.1 = Y + 11) (o0 : h.2 Y = some (.inr (12, [.ref (Y + 1), .ref (Y + 2), .int 0, .ref (Y + 3), .int 0, .int 0, .null, .int 0, .int 0, .int 0, .int 0, .ref (Y + 4), .ref (Y + 5), .ref (Y + 6), .ref (Y + 7), .int 0, .int 0, .ref (Y + 8), .ref (Y + 9), .int 0, .ref (Y + 10), .null, .int 0, .null, .null, .null, .null, .int 0, .int 0, .null, .null, .null, .int 0, .null, .null, .int 0, .null, .int 0, .null, .null]))) (a1 : h.2 (Y + 1) = some (iA K 19 (fun _ => 0))) : xT K B l 2 RX12 true cX12_init 1 none 23 3121 13 2660 (xPv (fun g => g.1 = Y + 24 ∧ (∀ b, b ≠ Y → b ≠ Y + 1 → b < Y + 11 → g.2 b = h.2 b) ∧ g.2 Y = some (.inr (12, [.ref (Y + 1), .ref (Y + 2), .int 0, .ref (Y + 3), .int 0, .int 0, .null, .int 0, .int 0, .int 0, .int 0, .ref (Y + 4), .ref (Y + 5), .ref (Y + 6), .ref (Y + 7), .int 0, .int 0, .ref (Y + 8), .ref (Y + 9), .int 0, .ref (Y + 10), .ref (Y + 11), .int 0, .ref (Y + 12), .ref (Y + 13), .ref (Y + 14), .ref (Y + 15), .int 0, .int 0, .ref (Y + 16), .ref (Y + 17), .ref (Y + 18), .int 0, .ref (Y + 19), .ref (Y + 20), .int 0, .ref (Y + 21), .int 0, .ref (Y + 22), .ref (Y + 23)])) ∧ g.2 (Y + 1) = some (iA K 19 nw0) ∧ g.2 (Y + 11) = some (iA K 19 (fun _ => 0)) ∧ g.2 (Y + 12) = some (iA K 240 (fun _ => 0)) ∧ g.2 (Y + 13) = some (iA K 4 (fun _ => 0)) ∧ g.2 (Y + 14) = some (iA K 1024 (fun _ => 0)) ∧ g.2 (Y + 15) = some (iA K 1024 (fun _ => 0)) ∧ g.2 (Y + 16) = some (iA K 64 (fun _ => 0)) ∧ g.2 (Y + 17) = some (iA K 12 (fun _ => 0)) ∧ g.2 (Y + 18) = some (iA K 12 (fun _ => 0)) ∧ g.2 (Y + 19) = some (iA K 10 (fun _ => 0)) ∧ g.2 (Y + 20) = some (iA K 10 (fun _ => 0)) ∧ g.2 (Y + 21) = some (zA K 201 (fun _ => 0)) ∧ g.2 (Y + 22) = some (iA K 38 (fun _ => 0)) ∧ g.2 (Y + 23) = some (zA K 2 (fun _ => 0)))) 84 [some (.ref Y)] [] h := by
  refine xr_al0 dX12_init_84 ?_
  refine xr_bipush (v := 19) dX12_init_85 (by decide) ?_
  refine xr_newi (rc' := 12) (rs' := 2641) (N := 19) wa_int (by decide) (by decide) (by decide) rfl rfl dX12_init_87 ?_
  refine xT.nm (fun zh1 zg1 => ?_)
  have o0 := xn_ne zg1 (by omega) o0
  have q := xn_eq zg1
  rw [T] at q
  rw [T]
  refine xr_putF rfl o0 fX12_42 (Nat.le_of_ble_eq_true rfl) rfl rfl dX12_init_89 ?_
  refine xT.nm (fun zh2 zg2 => ?_)
  have o1 : zh2.2 Y = some (.inr (12, [.ref (Y + 1), .ref (Y + 2), .int 0, .ref (Y + 3), .int 0, .int 0, .null, .int 0, .int 0, .int 0, .int 0, .ref (Y + 4), .ref (Y + 5), .ref (Y + 6), .ref (Y + 7), .int 0, .int 0, .ref (Y + 8), .ref (Y + 9), .int 0, .ref (Y + 10), .ref (Y + 11), .int 0, .null, .null, .null, .null, .int 0, .int 0, .null, .null, .null, .int 0, .null, .null, .int 0, .null, .int 0, .null, .null])) := xg_eq zg2
  have T1 : zh2.1 = Y + 12 := by rw [xg_1 zg2, xn_1 zg1, T]
  have b1 := xg_ne zg2 (b := Y + 1) (by omega) (xn_ne zg1 (by omega) a1)
  refine xT.post (fun r g q0' => ?_) (nm11 T1 o1 b1)
  obtain ⟨q0, q1, q2, q3, q5, q4⟩ := q0'
  exact ⟨q0, q1, fun b n1 n2 n3 => (q2 b n1 n2 (by omega)).trans ((xg_ne zg2 n1 rfl).trans (xn_ne zg1 (by omega) rfl)), q3, q5, (q2 _ (by omega) (by omega) (by omega)).trans (xg_ne zg2 (b := Y + 11) (by omega) q), q4⟩
set_option maxRecDepth 20000 in
theorem nm9 {K : xK} {B : Nat} {l : Launch} {Y : Nat} {h : xH} (T : h.1 = Y + 10) (o0 : h.2 Y = some (.inr (12, [.ref (Y + 1), .ref (Y + 2), .int 0, .ref (Y + 3), .int 0, .int 0, .null, .int 0, .int 0, .int 0, .int 0, .ref (Y + 4), .ref (Y + 5), .ref (Y + 6), .ref (Y + 7), .int 0, .int 0, .ref (Y + 8), .ref (Y + 9), .int 0, .null, .null, .int 0, .null, .null, .null, .null, .int 0, .int 0, .null, .null, .null, .int 0, .null, .null, .int 0, .null, .int 0, .null, .null]))) (a1 : h.2 (Y + 1) = some (iA K 19 (fun _ => 0))) : xT K B l 2 RX12 true cX12_init 1 none 23 3121 14 2679 (xPv (fun g => g.1 = Y + 24 ∧ (∀ b, b ≠ Y → b ≠ Y + 1 → b < Y + 10 → g.2 b = h.2 b) ∧ g.2 Y = some (.inr (12, [.ref (Y + 1), .ref (Y + 2), .int 0, .ref (Y + 3), .int 0, .int 0, .null, .int 0, .int 0, .int 0, .int 0, .ref (Y + 4), .ref (Y + 5), .ref (Y + 6), .ref (Y + 7), .int 0, .int 0, .ref (Y + 8), .ref (Y + 9), .int 0, .ref (Y + 10), .ref (Y + 11), .int 0, .ref (Y + 12), .ref (Y + 13), .ref (Y + 14), .ref (Y + 15), .int 0, .int 0, .ref (Y + 16), .ref (Y + 17), .ref (Y + 18), .int 0, .ref (Y + 19), .ref (Y + 20), .int 0, .ref (Y + 21), .int 0, .ref (Y + 22), .ref (Y + 23)])) ∧ g.2 (Y + 1) = some (iA K 19 nw0) ∧ g.2 (Y + 10) = some (iA K 19 (fun _ => 0)) ∧ g.2 (Y + 11) = some (iA K 19 (fun _ => 0)) ∧ g.2 (Y + 12) = some (iA K 240 (fun _ => 0)) ∧ g.2 (Y + 13) = some (iA K 4 (fun _ => 0)) ∧ g.2 (Y + 14) = some (iA K 1024 (fun _ => 0)) ∧ g.2 (Y + 15) = some (iA K 1024 (fun _ => 0)) ∧ g.2 (Y + 16) = some (iA K 64 (fun _ => 0)) ∧ g.2 (Y + 17) = some (iA K 12 (fun _ => 0)) ∧ g.2 (Y + 18) = some (iA K 12 (fun _ => 0)) ∧ g.2 (Y + 19) = some (iA K 10 (fun _ => 0)) ∧ g.2 (Y + 20) = some (iA K 10 (fun _ => 0)) ∧ g.2 (Y + 21) = some (zA K 201 (fun _ => 0)) ∧ g.2 (Y + 22) = some (iA K 38 (fun _ => 0)) ∧ g.2 (Y + 23) = some (zA K 2 (fun _ => 0)))) 76 [some (.ref Y)] [] h := by
  refine xr_al0 dX12_init_76 ?_
  refine xr_bipush (v := 19) dX12_init_77 (by decide) ?_
  refine xr_newi (rc' := 13) (rs' := 2660) (N := 19) wa_int (by decide) (by decide) (by decide) rfl rfl dX12_init_79 ?_
  refine xT.nm (fun zh1 zg1 => ?_)
  have o0 := xn_ne zg1 (by omega) o0
  have q := xn_eq zg1
  rw [T] at q
  rw [T]
  refine xr_putF rfl o0 fX12_39 (Nat.le_of_ble_eq_true rfl) rfl rfl dX12_init_81 ?_
  refine xT.nm (fun zh2 zg2 => ?_)
  have o1 : zh2.2 Y = some (.inr (12, [.ref (Y + 1), .ref (Y + 2), .int 0, .ref (Y + 3), .int 0, .int 0, .null, .int 0, .int 0, .int 0, .int 0, .ref (Y + 4), .ref (Y + 5), .ref (Y + 6), .ref (Y + 7), .int 0, .int 0, .ref (Y + 8), .ref (Y + 9), .int 0, .ref (Y + 10), .null, .int 0, .null, .null, .null, .null, .int 0, .int 0, .null, .null, .null, .int 0, .null, .null, .int 0, .null, .int 0, .null, .null])) := xg_eq zg2
  have T1 : zh2.1 = Y + 11 := by rw [xg_1 zg2, xn_1 zg1, T]
  have b1 := xg_ne zg2 (b := Y + 1) (by omega) (xn_ne zg1 (by omega) a1)
  refine xT.post (fun r g q0' => ?_) (nm10 T1 o1 b1)
  obtain ⟨q0, q1, q2, q3, q5, q4⟩ := q0'
  exact ⟨q0, q1, fun b n1 n2 n3 => (q2 b n1 n2 (by omega)).trans ((xg_ne zg2 n1 rfl).trans (xn_ne zg1 (by omega) rfl)), q3, q5, (q2 _ (by omega) (by omega) (by omega)).trans (xg_ne zg2 (b := Y + 10) (by omega) q), q4⟩
set_option maxRecDepth 20000 in
theorem nm8 {K : xK} {B : Nat} {l : Launch} {Y : Nat} {h : xH} (T : h.1 = Y + 9) (o0 : h.2 Y = some (.inr (12, [.ref (Y + 1), .ref (Y + 2), .int 0, .ref (Y + 3), .int 0, .int 0, .null, .int 0, .int 0, .int 0, .int 0, .ref (Y + 4), .ref (Y + 5), .ref (Y + 6), .ref (Y + 7), .int 0, .int 0, .ref (Y + 8), .null, .int 0, .null, .null, .int 0, .null, .null, .null, .null, .int 0, .int 0, .null, .null, .null, .int 0, .null, .null, .int 0, .null, .int 0, .null, .null]))) (a1 : h.2 (Y + 1) = some (iA K 19 (fun _ => 0))) : xT K B l 2 RX12 true cX12_init 1 none 23 3121 15 2907 (xPv (fun g => g.1 = Y + 24 ∧ (∀ b, b ≠ Y → b ≠ Y + 1 → b < Y + 9 → g.2 b = h.2 b) ∧ g.2 Y = some (.inr (12, [.ref (Y + 1), .ref (Y + 2), .int 0, .ref (Y + 3), .int 0, .int 0, .null, .int 0, .int 0, .int 0, .int 0, .ref (Y + 4), .ref (Y + 5), .ref (Y + 6), .ref (Y + 7), .int 0, .int 0, .ref (Y + 8), .ref (Y + 9), .int 0, .ref (Y + 10), .ref (Y + 11), .int 0, .ref (Y + 12), .ref (Y + 13), .ref (Y + 14), .ref (Y + 15), .int 0, .int 0, .ref (Y + 16), .ref (Y + 17), .ref (Y + 18), .int 0, .ref (Y + 19), .ref (Y + 20), .int 0, .ref (Y + 21), .int 0, .ref (Y + 22), .ref (Y + 23)])) ∧ g.2 (Y + 1) = some (iA K 19 nw0) ∧ g.2 (Y + 9) = some (iA K 228 (fun _ => 0)) ∧ g.2 (Y + 10) = some (iA K 19 (fun _ => 0)) ∧ g.2 (Y + 11) = some (iA K 19 (fun _ => 0)) ∧ g.2 (Y + 12) = some (iA K 240 (fun _ => 0)) ∧ g.2 (Y + 13) = some (iA K 4 (fun _ => 0)) ∧ g.2 (Y + 14) = some (iA K 1024 (fun _ => 0)) ∧ g.2 (Y + 15) = some (iA K 1024 (fun _ => 0)) ∧ g.2 (Y + 16) = some (iA K 64 (fun _ => 0)) ∧ g.2 (Y + 17) = some (iA K 12 (fun _ => 0)) ∧ g.2 (Y + 18) = some (iA K 12 (fun _ => 0)) ∧ g.2 (Y + 19) = some (iA K 10 (fun _ => 0)) ∧ g.2 (Y + 20) = some (iA K 10 (fun _ => 0)) ∧ g.2 (Y + 21) = some (zA K 201 (fun _ => 0)) ∧ g.2 (Y + 22) = some (iA K 38 (fun _ => 0)) ∧ g.2 (Y + 23) = some (zA K 2 (fun _ => 0)))) 67 [some (.ref Y)] [] h := by
  refine xr_al0 dX12_init_67 ?_
  refine xr_sipush (v := 228) dX12_init_68 (by decide) ?_
  refine xr_newi (rc' := 14) (rs' := 2679) (N := 228) wa_int (by decide) (by decide) (by decide) rfl rfl dX12_init_71 ?_
  refine xT.nm (fun zh1 zg1 => ?_)
  have o0 := xn_ne zg1 (by omega) o0
  have q := xn_eq zg1
  rw [T] at q
  rw [T]
  refine xr_putF rfl o0 fX12_36 (Nat.le_of_ble_eq_true rfl) rfl rfl dX12_init_73 ?_
  refine xT.nm (fun zh2 zg2 => ?_)
  have o1 : zh2.2 Y = some (.inr (12, [.ref (Y + 1), .ref (Y + 2), .int 0, .ref (Y + 3), .int 0, .int 0, .null, .int 0, .int 0, .int 0, .int 0, .ref (Y + 4), .ref (Y + 5), .ref (Y + 6), .ref (Y + 7), .int 0, .int 0, .ref (Y + 8), .ref (Y + 9), .int 0, .null, .null, .int 0, .null, .null, .null, .null, .int 0, .int 0, .null, .null, .null, .int 0, .null, .null, .int 0, .null, .int 0, .null, .null])) := xg_eq zg2
  have T1 : zh2.1 = Y + 10 := by rw [xg_1 zg2, xn_1 zg1, T]
  have b1 := xg_ne zg2 (b := Y + 1) (by omega) (xn_ne zg1 (by omega) a1)
  refine xT.post (fun r g q0' => ?_) (nm9 T1 o1 b1)
  obtain ⟨q0, q1, q2, q3, q5, q4⟩ := q0'
  exact ⟨q0, q1, fun b n1 n2 n3 => (q2 b n1 n2 (by omega)).trans ((xg_ne zg2 n1 rfl).trans (xn_ne zg1 (by omega) rfl)), q3, q5, (q2 _ (by omega) (by omega) (by omega)).trans (xg_ne zg2 (b := Y + 9) (by omega) q), q4⟩
set_option maxRecDepth 20000 in
theorem nm7 {K : xK} {B : Nat} {l : Launch} {Y : Nat} {h : xH} (T : h.1 = Y + 8) (o0 : h.2 Y = some (.inr (12, [.ref (Y + 1), .ref (Y + 2), .int 0, .ref (Y + 3), .int 0, .int 0, .null, .int 0, .int 0, .int 0, .int 0, .ref (Y + 4), .ref (Y + 5), .ref (Y + 6), .ref (Y + 7), .int 0, .int 0, .null, .null, .int 0, .null, .null, .int 0, .null, .null, .null, .null, .int 0, .int 0, .null, .null, .null, .int 0, .null, .null, .int 0, .null, .int 0, .null, .null]))) (a1 : h.2 (Y + 1) = some (iA K 19 (fun _ => 0))) : xT K B l 2 RX12 true cX12_init 1 none 23 3121 16 2914 (xPv (fun g => g.1 = Y + 24 ∧ (∀ b, b ≠ Y → b ≠ Y + 1 → b < Y + 8 → g.2 b = h.2 b) ∧ g.2 Y = some (.inr (12, [.ref (Y + 1), .ref (Y + 2), .int 0, .ref (Y + 3), .int 0, .int 0, .null, .int 0, .int 0, .int 0, .int 0, .ref (Y + 4), .ref (Y + 5), .ref (Y + 6), .ref (Y + 7), .int 0, .int 0, .ref (Y + 8), .ref (Y + 9), .int 0, .ref (Y + 10), .ref (Y + 11), .int 0, .ref (Y + 12), .ref (Y + 13), .ref (Y + 14), .ref (Y + 15), .int 0, .int 0, .ref (Y + 16), .ref (Y + 17), .ref (Y + 18), .int 0, .ref (Y + 19), .ref (Y + 20), .int 0, .ref (Y + 21), .int 0, .ref (Y + 22), .ref (Y + 23)])) ∧ g.2 (Y + 1) = some (iA K 19 nw0) ∧ g.2 (Y + 8) = some (iA K 7 (fun _ => 0)) ∧ g.2 (Y + 9) = some (iA K 228 (fun _ => 0)) ∧ g.2 (Y + 10) = some (iA K 19 (fun _ => 0)) ∧ g.2 (Y + 11) = some (iA K 19 (fun _ => 0)) ∧ g.2 (Y + 12) = some (iA K 240 (fun _ => 0)) ∧ g.2 (Y + 13) = some (iA K 4 (fun _ => 0)) ∧ g.2 (Y + 14) = some (iA K 1024 (fun _ => 0)) ∧ g.2 (Y + 15) = some (iA K 1024 (fun _ => 0)) ∧ g.2 (Y + 16) = some (iA K 64 (fun _ => 0)) ∧ g.2 (Y + 17) = some (iA K 12 (fun _ => 0)) ∧ g.2 (Y + 18) = some (iA K 12 (fun _ => 0)) ∧ g.2 (Y + 19) = some (iA K 10 (fun _ => 0)) ∧ g.2 (Y + 20) = some (iA K 10 (fun _ => 0)) ∧ g.2 (Y + 21) = some (zA K 201 (fun _ => 0)) ∧ g.2 (Y + 22) = some (iA K 38 (fun _ => 0)) ∧ g.2 (Y + 23) = some (zA K 2 (fun _ => 0)))) 59 [some (.ref Y)] [] h := by
  refine xr_al0 dX12_init_59 ?_
  refine xr_bipush (v := 7) dX12_init_60 (by decide) ?_
  refine xr_newi (rc' := 15) (rs' := 2907) (N := 7) wa_int (by decide) (by decide) (by decide) rfl rfl dX12_init_62 ?_
  refine xT.nm (fun zh1 zg1 => ?_)
  have o0 := xn_ne zg1 (by omega) o0
  have q := xn_eq zg1
  rw [T] at q
  rw [T]
  refine xr_putF rfl o0 fX12_33 (Nat.le_of_ble_eq_true rfl) rfl rfl dX12_init_64 ?_
  refine xT.nm (fun zh2 zg2 => ?_)
  have o1 : zh2.2 Y = some (.inr (12, [.ref (Y + 1), .ref (Y + 2), .int 0, .ref (Y + 3), .int 0, .int 0, .null, .int 0, .int 0, .int 0, .int 0, .ref (Y + 4), .ref (Y + 5), .ref (Y + 6), .ref (Y + 7), .int 0, .int 0, .ref (Y + 8), .null, .int 0, .null, .null, .int 0, .null, .null, .null, .null, .int 0, .int 0, .null, .null, .null, .int 0, .null, .null, .int 0, .null, .int 0, .null, .null])) := xg_eq zg2
  have T1 : zh2.1 = Y + 9 := by rw [xg_1 zg2, xn_1 zg1, T]
  have b1 := xg_ne zg2 (b := Y + 1) (by omega) (xn_ne zg1 (by omega) a1)
  refine xT.post (fun r g q0' => ?_) (nm8 T1 o1 b1)
  obtain ⟨q0, q1, q2, q3, q5, q4⟩ := q0'
  exact ⟨q0, q1, fun b n1 n2 n3 => (q2 b n1 n2 (by omega)).trans ((xg_ne zg2 n1 rfl).trans (xn_ne zg1 (by omega) rfl)), q3, q5, (q2 _ (by omega) (by omega) (by omega)).trans (xg_ne zg2 (b := Y + 8) (by omega) q), q4⟩
set_option maxRecDepth 20000 in
theorem nm6 {K : xK} {B : Nat} {l : Launch} {Y : Nat} {h : xH} (T : h.1 = Y + 7) (o0 : h.2 Y = some (.inr (12, [.ref (Y + 1), .ref (Y + 2), .int 0, .ref (Y + 3), .int 0, .int 0, .null, .int 0, .int 0, .int 0, .int 0, .ref (Y + 4), .ref (Y + 5), .ref (Y + 6), .null, .int 0, .int 0, .null, .null, .int 0, .null, .null, .int 0, .null, .null, .null, .null, .int 0, .int 0, .null, .null, .null, .int 0, .null, .null, .int 0, .null, .int 0, .null, .null]))) (a1 : h.2 (Y + 1) = some (iA K 19 (fun _ => 0))) : xT K B l 2 RX12 true cX12_init 1 none 23 3121 17 2954 (xPv (fun g => g.1 = Y + 24 ∧ (∀ b, b ≠ Y → b ≠ Y + 1 → b < Y + 7 → g.2 b = h.2 b) ∧ g.2 Y = some (.inr (12, [.ref (Y + 1), .ref (Y + 2), .int 0, .ref (Y + 3), .int 0, .int 0, .null, .int 0, .int 0, .int 0, .int 0, .ref (Y + 4), .ref (Y + 5), .ref (Y + 6), .ref (Y + 7), .int 0, .int 0, .ref (Y + 8), .ref (Y + 9), .int 0, .ref (Y + 10), .ref (Y + 11), .int 0, .ref (Y + 12), .ref (Y + 13), .ref (Y + 14), .ref (Y + 15), .int 0, .int 0, .ref (Y + 16), .ref (Y + 17), .ref (Y + 18), .int 0, .ref (Y + 19), .ref (Y + 20), .int 0, .ref (Y + 21), .int 0, .ref (Y + 22), .ref (Y + 23)])) ∧ g.2 (Y + 1) = some (iA K 19 nw0) ∧ g.2 (Y + 7) = some (bA K 40 (fun _ => 0)) ∧ g.2 (Y + 8) = some (iA K 7 (fun _ => 0)) ∧ g.2 (Y + 9) = some (iA K 228 (fun _ => 0)) ∧ g.2 (Y + 10) = some (iA K 19 (fun _ => 0)) ∧ g.2 (Y + 11) = some (iA K 19 (fun _ => 0)) ∧ g.2 (Y + 12) = some (iA K 240 (fun _ => 0)) ∧ g.2 (Y + 13) = some (iA K 4 (fun _ => 0)) ∧ g.2 (Y + 14) = some (iA K 1024 (fun _ => 0)) ∧ g.2 (Y + 15) = some (iA K 1024 (fun _ => 0)) ∧ g.2 (Y + 16) = some (iA K 64 (fun _ => 0)) ∧ g.2 (Y + 17) = some (iA K 12 (fun _ => 0)) ∧ g.2 (Y + 18) = some (iA K 12 (fun _ => 0)) ∧ g.2 (Y + 19) = some (iA K 10 (fun _ => 0)) ∧ g.2 (Y + 20) = some (iA K 10 (fun _ => 0)) ∧ g.2 (Y + 21) = some (zA K 201 (fun _ => 0)) ∧ g.2 (Y + 22) = some (iA K 38 (fun _ => 0)) ∧ g.2 (Y + 23) = some (zA K 2 (fun _ => 0)))) 51 [some (.ref Y)] [] h := by
  refine xr_al0 dX12_init_51 ?_
  refine xr_bipush (v := 40) dX12_init_52 (by decide) ?_
  refine xr_newb (rc' := 16) (rs' := 2914) (N := 40) wa_byte (by decide) (by decide) (by decide) rfl rfl dX12_init_54 ?_
  refine xT.nm (fun zh1 zg1 => ?_)
  have o0 := xn_ne zg1 (by omega) o0
  have q := xn_eq zg1
  rw [T] at q
  rw [T]
  refine xr_put o0 fX12_30 (Nat.le_of_ble_eq_true rfl) rfl rfl dX12_init_56 ?_
  refine xT.nm (fun zh2 zg2 => ?_)
  have o1 : zh2.2 Y = some (.inr (12, [.ref (Y + 1), .ref (Y + 2), .int 0, .ref (Y + 3), .int 0, .int 0, .null, .int 0, .int 0, .int 0, .int 0, .ref (Y + 4), .ref (Y + 5), .ref (Y + 6), .ref (Y + 7), .int 0, .int 0, .null, .null, .int 0, .null, .null, .int 0, .null, .null, .null, .null, .int 0, .int 0, .null, .null, .null, .int 0, .null, .null, .int 0, .null, .int 0, .null, .null])) := xg_eq zg2
  have T1 : zh2.1 = Y + 8 := by rw [xg_1 zg2, xn_1 zg1, T]
  have b1 := xg_ne zg2 (b := Y + 1) (by omega) (xn_ne zg1 (by omega) a1)
  refine xT.post (fun r g q0' => ?_) (nm7 T1 o1 b1)
  obtain ⟨q0, q1, q2, q3, q5, q4⟩ := q0'
  exact ⟨q0, q1, fun b n1 n2 n3 => (q2 b n1 n2 (by omega)).trans ((xg_ne zg2 n1 rfl).trans (xn_ne zg1 (by omega) rfl)), q3, q5, (q2 _ (by omega) (by omega) (by omega)).trans (xg_ne zg2 (b := Y + 7) (by omega) q), q4⟩
set_option maxRecDepth 20000 in
theorem nm5 {K : xK} {B : Nat} {l : Launch} {Y : Nat} {h : xH} (T : h.1 = Y + 6) (o0 : h.2 Y = some (.inr (12, [.ref (Y + 1), .ref (Y + 2), .int 0, .ref (Y + 3), .int 0, .int 0, .null, .int 0, .int 0, .int 0, .int 0, .ref (Y + 4), .ref (Y + 5), .null, .null, .int 0, .int 0, .null, .null, .int 0, .null, .null, .int 0, .null, .null, .null, .null, .int 0, .int 0, .null, .null, .null, .int 0, .null, .null, .int 0, .null, .int 0, .null, .null]))) (a1 : h.2 (Y + 1) = some (iA K 19 (fun _ => 0))) : xT K B l 2 RX12 true cX12_init 1 none 23 3121 18 2994 (xPv (fun g => g.1 = Y + 24 ∧ (∀ b, b ≠ Y → b ≠ Y + 1 → b < Y + 6 → g.2 b = h.2 b) ∧ g.2 Y = some (.inr (12, [.ref (Y + 1), .ref (Y + 2), .int 0, .ref (Y + 3), .int 0, .int 0, .null, .int 0, .int 0, .int 0, .int 0, .ref (Y + 4), .ref (Y + 5), .ref (Y + 6), .ref (Y + 7), .int 0, .int 0, .ref (Y + 8), .ref (Y + 9), .int 0, .ref (Y + 10), .ref (Y + 11), .int 0, .ref (Y + 12), .ref (Y + 13), .ref (Y + 14), .ref (Y + 15), .int 0, .int 0, .ref (Y + 16), .ref (Y + 17), .ref (Y + 18), .int 0, .ref (Y + 19), .ref (Y + 20), .int 0, .ref (Y + 21), .int 0, .ref (Y + 22), .ref (Y + 23)])) ∧ g.2 (Y + 1) = some (iA K 19 nw0) ∧ g.2 (Y + 6) = some (bA K 40 (fun _ => 0)) ∧ g.2 (Y + 7) = some (bA K 40 (fun _ => 0)) ∧ g.2 (Y + 8) = some (iA K 7 (fun _ => 0)) ∧ g.2 (Y + 9) = some (iA K 228 (fun _ => 0)) ∧ g.2 (Y + 10) = some (iA K 19 (fun _ => 0)) ∧ g.2 (Y + 11) = some (iA K 19 (fun _ => 0)) ∧ g.2 (Y + 12) = some (iA K 240 (fun _ => 0)) ∧ g.2 (Y + 13) = some (iA K 4 (fun _ => 0)) ∧ g.2 (Y + 14) = some (iA K 1024 (fun _ => 0)) ∧ g.2 (Y + 15) = some (iA K 1024 (fun _ => 0)) ∧ g.2 (Y + 16) = some (iA K 64 (fun _ => 0)) ∧ g.2 (Y + 17) = some (iA K 12 (fun _ => 0)) ∧ g.2 (Y + 18) = some (iA K 12 (fun _ => 0)) ∧ g.2 (Y + 19) = some (iA K 10 (fun _ => 0)) ∧ g.2 (Y + 20) = some (iA K 10 (fun _ => 0)) ∧ g.2 (Y + 21) = some (zA K 201 (fun _ => 0)) ∧ g.2 (Y + 22) = some (iA K 38 (fun _ => 0)) ∧ g.2 (Y + 23) = some (zA K 2 (fun _ => 0)))) 43 [some (.ref Y)] [] h := by
  refine xr_al0 dX12_init_43 ?_
  refine xr_bipush (v := 40) dX12_init_44 (by decide) ?_
  refine xr_newb (rc' := 17) (rs' := 2954) (N := 40) wa_byte (by decide) (by decide) (by decide) rfl rfl dX12_init_46 ?_
  refine xT.nm (fun zh1 zg1 => ?_)
  have o0 := xn_ne zg1 (by omega) o0
  have q := xn_eq zg1
  rw [T] at q
  rw [T]
  refine xr_put o0 fX12_27 (Nat.le_of_ble_eq_true rfl) rfl rfl dX12_init_48 ?_
  refine xT.nm (fun zh2 zg2 => ?_)
  have o1 : zh2.2 Y = some (.inr (12, [.ref (Y + 1), .ref (Y + 2), .int 0, .ref (Y + 3), .int 0, .int 0, .null, .int 0, .int 0, .int 0, .int 0, .ref (Y + 4), .ref (Y + 5), .ref (Y + 6), .null, .int 0, .int 0, .null, .null, .int 0, .null, .null, .int 0, .null, .null, .null, .null, .int 0, .int 0, .null, .null, .null, .int 0, .null, .null, .int 0, .null, .int 0, .null, .null])) := xg_eq zg2
  have T1 : zh2.1 = Y + 7 := by rw [xg_1 zg2, xn_1 zg1, T]
  have b1 := xg_ne zg2 (b := Y + 1) (by omega) (xn_ne zg1 (by omega) a1)
  refine xT.post (fun r g q0' => ?_) (nm6 T1 o1 b1)
  obtain ⟨q0, q1, q2, q3, q5, q4⟩ := q0'
  exact ⟨q0, q1, fun b n1 n2 n3 => (q2 b n1 n2 (by omega)).trans ((xg_ne zg2 n1 rfl).trans (xn_ne zg1 (by omega) rfl)), q3, q5, (q2 _ (by omega) (by omega) (by omega)).trans (xg_ne zg2 (b := Y + 6) (by omega) q), q4⟩
set_option maxRecDepth 20000 in
theorem nm4 {K : xK} {B : Nat} {l : Launch} {Y : Nat} {h : xH} (T : h.1 = Y + 5) (o0 : h.2 Y = some (.inr (12, [.ref (Y + 1), .ref (Y + 2), .int 0, .ref (Y + 3), .int 0, .int 0, .null, .int 0, .int 0, .int 0, .int 0, .ref (Y + 4), .null, .null, .null, .int 0, .int 0, .null, .null, .int 0, .null, .null, .int 0, .null, .null, .null, .null, .int 0, .int 0, .null, .null, .null, .int 0, .null, .null, .int 0, .null, .int 0, .null, .null]))) (a1 : h.2 (Y + 1) = some (iA K 19 (fun _ => 0))) : xT K B l 2 RX12 true cX12_init 1 none 23 3121 19 2996 (xPv (fun g => g.1 = Y + 24 ∧ (∀ b, b ≠ Y → b ≠ Y + 1 → b < Y + 5 → g.2 b = h.2 b) ∧ g.2 Y = some (.inr (12, [.ref (Y + 1), .ref (Y + 2), .int 0, .ref (Y + 3), .int 0, .int 0, .null, .int 0, .int 0, .int 0, .int 0, .ref (Y + 4), .ref (Y + 5), .ref (Y + 6), .ref (Y + 7), .int 0, .int 0, .ref (Y + 8), .ref (Y + 9), .int 0, .ref (Y + 10), .ref (Y + 11), .int 0, .ref (Y + 12), .ref (Y + 13), .ref (Y + 14), .ref (Y + 15), .int 0, .int 0, .ref (Y + 16), .ref (Y + 17), .ref (Y + 18), .int 0, .ref (Y + 19), .ref (Y + 20), .int 0, .ref (Y + 21), .int 0, .ref (Y + 22), .ref (Y + 23)])) ∧ g.2 (Y + 1) = some (iA K 19 nw0) ∧ g.2 (Y + 5) = some (iA K 2 (fun _ => 0)) ∧ g.2 (Y + 6) = some (bA K 40 (fun _ => 0)) ∧ g.2 (Y + 7) = some (bA K 40 (fun _ => 0)) ∧ g.2 (Y + 8) = some (iA K 7 (fun _ => 0)) ∧ g.2 (Y + 9) = some (iA K 228 (fun _ => 0)) ∧ g.2 (Y + 10) = some (iA K 19 (fun _ => 0)) ∧ g.2 (Y + 11) = some (iA K 19 (fun _ => 0)) ∧ g.2 (Y + 12) = some (iA K 240 (fun _ => 0)) ∧ g.2 (Y + 13) = some (iA K 4 (fun _ => 0)) ∧ g.2 (Y + 14) = some (iA K 1024 (fun _ => 0)) ∧ g.2 (Y + 15) = some (iA K 1024 (fun _ => 0)) ∧ g.2 (Y + 16) = some (iA K 64 (fun _ => 0)) ∧ g.2 (Y + 17) = some (iA K 12 (fun _ => 0)) ∧ g.2 (Y + 18) = some (iA K 12 (fun _ => 0)) ∧ g.2 (Y + 19) = some (iA K 10 (fun _ => 0)) ∧ g.2 (Y + 20) = some (iA K 10 (fun _ => 0)) ∧ g.2 (Y + 21) = some (zA K 201 (fun _ => 0)) ∧ g.2 (Y + 22) = some (iA K 38 (fun _ => 0)) ∧ g.2 (Y + 23) = some (zA K 2 (fun _ => 0)))) 36 [some (.ref Y)] [] h := by
  refine xr_al0 dX12_init_36 ?_
  refine xr_ic2 dX12_init_37 ?_
  refine xr_newi (rc' := 18) (rs' := 2994) (N := 2) wa_int (by decide) (by decide) (by decide) rfl rfl dX12_init_38 ?_
  refine xT.nm (fun zh1 zg1 => ?_)
  have o0 := xn_ne zg1 (by omega) o0
  have q := xn_eq zg1
  rw [T] at q
  rw [T]
  refine xr_putF rfl o0 fX12_24 (Nat.le_of_ble_eq_true rfl) rfl rfl dX12_init_40 ?_
  refine xT.nm (fun zh2 zg2 => ?_)
  have o1 : zh2.2 Y = some (.inr (12, [.ref (Y + 1), .ref (Y + 2), .int 0, .ref (Y + 3), .int 0, .int 0, .null, .int 0, .int 0, .int 0, .int 0, .ref (Y + 4), .ref (Y + 5), .null, .null, .int 0, .int 0, .null, .null, .int 0, .null, .null, .int 0, .null, .null, .null, .null, .int 0, .int 0, .null, .null, .null, .int 0, .null, .null, .int 0, .null, .int 0, .null, .null])) := xg_eq zg2
  have T1 : zh2.1 = Y + 6 := by rw [xg_1 zg2, xn_1 zg1, T]
  have b1 := xg_ne zg2 (b := Y + 1) (by omega) (xn_ne zg1 (by omega) a1)
  refine xT.post (fun r g q0' => ?_) (nm5 T1 o1 b1)
  obtain ⟨q0, q1, q2, q3, q5, q4⟩ := q0'
  exact ⟨q0, q1, fun b n1 n2 n3 => (q2 b n1 n2 (by omega)).trans ((xg_ne zg2 n1 rfl).trans (xn_ne zg1 (by omega) rfl)), q3, q5, (q2 _ (by omega) (by omega) (by omega)).trans (xg_ne zg2 (b := Y + 5) (by omega) q), q4⟩
set_option maxRecDepth 20000 in
theorem nm3 {K : xK} {B : Nat} {l : Launch} {Y : Nat} {h : xH} (T : h.1 = Y + 4) (o0 : h.2 Y = some (.inr (12, [.ref (Y + 1), .ref (Y + 2), .int 0, .ref (Y + 3), .int 0, .int 0, .null, .int 0, .int 0, .int 0, .int 0, .null, .null, .null, .null, .int 0, .int 0, .null, .null, .int 0, .null, .null, .int 0, .null, .null, .null, .null, .int 0, .int 0, .null, .null, .null, .int 0, .null, .null, .int 0, .null, .int 0, .null, .null]))) (a1 : h.2 (Y + 1) = some (iA K 19 (fun _ => 0))) : xT K B l 2 RX12 true cX12_init 1 none 23 3121 20 3006 (xPv (fun g => g.1 = Y + 24 ∧ (∀ b, b ≠ Y → b ≠ Y + 1 → b < Y + 4 → g.2 b = h.2 b) ∧ g.2 Y = some (.inr (12, [.ref (Y + 1), .ref (Y + 2), .int 0, .ref (Y + 3), .int 0, .int 0, .null, .int 0, .int 0, .int 0, .int 0, .ref (Y + 4), .ref (Y + 5), .ref (Y + 6), .ref (Y + 7), .int 0, .int 0, .ref (Y + 8), .ref (Y + 9), .int 0, .ref (Y + 10), .ref (Y + 11), .int 0, .ref (Y + 12), .ref (Y + 13), .ref (Y + 14), .ref (Y + 15), .int 0, .int 0, .ref (Y + 16), .ref (Y + 17), .ref (Y + 18), .int 0, .ref (Y + 19), .ref (Y + 20), .int 0, .ref (Y + 21), .int 0, .ref (Y + 22), .ref (Y + 23)])) ∧ g.2 (Y + 1) = some (iA K 19 nw0) ∧ g.2 (Y + 4) = some (iA K 10 (fun _ => 0)) ∧ g.2 (Y + 5) = some (iA K 2 (fun _ => 0)) ∧ g.2 (Y + 6) = some (bA K 40 (fun _ => 0)) ∧ g.2 (Y + 7) = some (bA K 40 (fun _ => 0)) ∧ g.2 (Y + 8) = some (iA K 7 (fun _ => 0)) ∧ g.2 (Y + 9) = some (iA K 228 (fun _ => 0)) ∧ g.2 (Y + 10) = some (iA K 19 (fun _ => 0)) ∧ g.2 (Y + 11) = some (iA K 19 (fun _ => 0)) ∧ g.2 (Y + 12) = some (iA K 240 (fun _ => 0)) ∧ g.2 (Y + 13) = some (iA K 4 (fun _ => 0)) ∧ g.2 (Y + 14) = some (iA K 1024 (fun _ => 0)) ∧ g.2 (Y + 15) = some (iA K 1024 (fun _ => 0)) ∧ g.2 (Y + 16) = some (iA K 64 (fun _ => 0)) ∧ g.2 (Y + 17) = some (iA K 12 (fun _ => 0)) ∧ g.2 (Y + 18) = some (iA K 12 (fun _ => 0)) ∧ g.2 (Y + 19) = some (iA K 10 (fun _ => 0)) ∧ g.2 (Y + 20) = some (iA K 10 (fun _ => 0)) ∧ g.2 (Y + 21) = some (zA K 201 (fun _ => 0)) ∧ g.2 (Y + 22) = some (iA K 38 (fun _ => 0)) ∧ g.2 (Y + 23) = some (zA K 2 (fun _ => 0)))) 28 [some (.ref Y)] [] h := by
  refine xr_al0 dX12_init_28 ?_
  refine xr_bipush (v := 10) dX12_init_29 (by decide) ?_
  refine xr_newi (rc' := 19) (rs' := 2996) (N := 10) wa_int (by decide) (by decide) (by decide) rfl rfl dX12_init_31 ?_
  refine xT.nm (fun zh1 zg1 => ?_)
  have o0 := xn_ne zg1 (by omega) o0
  have q := xn_eq zg1
  rw [T] at q
  rw [T]
  refine xr_putF rfl o0 fX12_21 (Nat.le_of_ble_eq_true rfl) rfl rfl dX12_init_33 ?_
  refine xT.nm (fun zh2 zg2 => ?_)
  have o1 : zh2.2 Y = some (.inr (12, [.ref (Y + 1), .ref (Y + 2), .int 0, .ref (Y + 3), .int 0, .int 0, .null, .int 0, .int 0, .int 0, .int 0, .ref (Y + 4), .null, .null, .null, .int 0, .int 0, .null, .null, .int 0, .null, .null, .int 0, .null, .null, .null, .null, .int 0, .int 0, .null, .null, .null, .int 0, .null, .null, .int 0, .null, .int 0, .null, .null])) := xg_eq zg2
  have T1 : zh2.1 = Y + 5 := by rw [xg_1 zg2, xn_1 zg1, T]
  have b1 := xg_ne zg2 (b := Y + 1) (by omega) (xn_ne zg1 (by omega) a1)
  refine xT.post (fun r g q0' => ?_) (nm4 T1 o1 b1)
  obtain ⟨q0, q1, q2, q3, q5, q4⟩ := q0'
  exact ⟨q0, q1, fun b n1 n2 n3 => (q2 b n1 n2 (by omega)).trans ((xg_ne zg2 n1 rfl).trans (xn_ne zg1 (by omega) rfl)), q3, q5, (q2 _ (by omega) (by omega) (by omega)).trans (xg_ne zg2 (b := Y + 4) (by omega) q), q4⟩
set_option maxRecDepth 20000 in
theorem nm2 {K : xK} {B : Nat} {l : Launch} {Y : Nat} {h : xH} (T : h.1 = Y + 3) (o0 : h.2 Y = some (.inr (12, [.ref (Y + 1), .ref (Y + 2), .int 0, .null, .int 0, .int 0, .null, .int 0, .int 0, .int 0, .int 0, .null, .null, .null, .null, .int 0, .int 0, .null, .null, .int 0, .null, .null, .int 0, .null, .null, .null, .null, .int 0, .int 0, .null, .null, .null, .int 0, .null, .null, .int 0, .null, .int 0, .null, .null]))) (a1 : h.2 (Y + 1) = some (iA K 19 (fun _ => 0))) : xT K B l 2 RX12 true cX12_init 1 none 23 3121 21 3022 (xPv (fun g => g.1 = Y + 24 ∧ (∀ b, b ≠ Y → b ≠ Y + 1 → b < Y + 3 → g.2 b = h.2 b) ∧ g.2 Y = some (.inr (12, [.ref (Y + 1), .ref (Y + 2), .int 0, .ref (Y + 3), .int 0, .int 0, .null, .int 0, .int 0, .int 0, .int 0, .ref (Y + 4), .ref (Y + 5), .ref (Y + 6), .ref (Y + 7), .int 0, .int 0, .ref (Y + 8), .ref (Y + 9), .int 0, .ref (Y + 10), .ref (Y + 11), .int 0, .ref (Y + 12), .ref (Y + 13), .ref (Y + 14), .ref (Y + 15), .int 0, .int 0, .ref (Y + 16), .ref (Y + 17), .ref (Y + 18), .int 0, .ref (Y + 19), .ref (Y + 20), .int 0, .ref (Y + 21), .int 0, .ref (Y + 22), .ref (Y + 23)])) ∧ g.2 (Y + 1) = some (iA K 19 nw0) ∧ g.2 (Y + 3) = some (lA K 16 (fun _ => 0)) ∧ g.2 (Y + 4) = some (iA K 10 (fun _ => 0)) ∧ g.2 (Y + 5) = some (iA K 2 (fun _ => 0)) ∧ g.2 (Y + 6) = some (bA K 40 (fun _ => 0)) ∧ g.2 (Y + 7) = some (bA K 40 (fun _ => 0)) ∧ g.2 (Y + 8) = some (iA K 7 (fun _ => 0)) ∧ g.2 (Y + 9) = some (iA K 228 (fun _ => 0)) ∧ g.2 (Y + 10) = some (iA K 19 (fun _ => 0)) ∧ g.2 (Y + 11) = some (iA K 19 (fun _ => 0)) ∧ g.2 (Y + 12) = some (iA K 240 (fun _ => 0)) ∧ g.2 (Y + 13) = some (iA K 4 (fun _ => 0)) ∧ g.2 (Y + 14) = some (iA K 1024 (fun _ => 0)) ∧ g.2 (Y + 15) = some (iA K 1024 (fun _ => 0)) ∧ g.2 (Y + 16) = some (iA K 64 (fun _ => 0)) ∧ g.2 (Y + 17) = some (iA K 12 (fun _ => 0)) ∧ g.2 (Y + 18) = some (iA K 12 (fun _ => 0)) ∧ g.2 (Y + 19) = some (iA K 10 (fun _ => 0)) ∧ g.2 (Y + 20) = some (iA K 10 (fun _ => 0)) ∧ g.2 (Y + 21) = some (zA K 201 (fun _ => 0)) ∧ g.2 (Y + 22) = some (iA K 38 (fun _ => 0)) ∧ g.2 (Y + 23) = some (zA K 2 (fun _ => 0)))) 20 [some (.ref Y)] [] h := by
  refine xr_al0 dX12_init_20 ?_
  refine xr_bipush (v := 16) dX12_init_21 (by decide) ?_
  refine xr_newl (rc' := 20) (rs' := 3006) (N := 16) wa_long (by decide) (by decide) (by decide) rfl rfl dX12_init_23 ?_
  refine xT.nm (fun zh1 zg1 => ?_)
  have o0 := xn_ne zg1 (by omega) o0
  have q := xn_eq zg1
  rw [T] at q
  rw [T]
  refine xr_putF rfl o0 fX12_17 (Nat.le_of_ble_eq_true rfl) rfl rfl dX12_init_25 ?_
  refine xT.nm (fun zh2 zg2 => ?_)
  have o1 : zh2.2 Y = some (.inr (12, [.ref (Y + 1), .ref (Y + 2), .int 0, .ref (Y + 3), .int 0, .int 0, .null, .int 0, .int 0, .int 0, .int 0, .null, .null, .null, .null, .int 0, .int 0, .null, .null, .int 0, .null, .null, .int 0, .null, .null, .null, .null, .int 0, .int 0, .null, .null, .null, .int 0, .null, .null, .int 0, .null, .int 0, .null, .null])) := xg_eq zg2
  have T1 : zh2.1 = Y + 4 := by rw [xg_1 zg2, xn_1 zg1, T]
  have b1 := xg_ne zg2 (b := Y + 1) (by omega) (xn_ne zg1 (by omega) a1)
  refine xT.post (fun r g q0' => ?_) (nm3 T1 o1 b1)
  obtain ⟨q0, q1, q2, q3, q5, q4⟩ := q0'
  exact ⟨q0, q1, fun b n1 n2 n3 => (q2 b n1 n2 (by omega)).trans ((xg_ne zg2 n1 rfl).trans (xn_ne zg1 (by omega) rfl)), q3, q5, (q2 _ (by omega) (by omega) (by omega)).trans (xg_ne zg2 (b := Y + 3) (by omega) q), q4⟩
set_option maxRecDepth 20000 in
theorem nm1 {K : xK} {B : Nat} {l : Launch} {Y : Nat} {h : xH} (T : h.1 = Y + 2) (o0 : h.2 Y = some (.inr (12, [.ref (Y + 1), .null, .int 0, .null, .int 0, .int 0, .null, .int 0, .int 0, .int 0, .int 0, .null, .null, .null, .null, .int 0, .int 0, .null, .null, .int 0, .null, .null, .int 0, .null, .null, .null, .null, .int 0, .int 0, .null, .null, .null, .int 0, .null, .null, .int 0, .null, .int 0, .null, .null]))) (a1 : h.2 (Y + 1) = some (iA K 19 (fun _ => 0))) : xT K B l 2 RX12 true cX12_init 1 none 23 3121 22 3102 (xPv (fun g => g.1 = Y + 24 ∧ (∀ b, b ≠ Y → b ≠ Y + 1 → b < Y + 2 → g.2 b = h.2 b) ∧ g.2 Y = some (.inr (12, [.ref (Y + 1), .ref (Y + 2), .int 0, .ref (Y + 3), .int 0, .int 0, .null, .int 0, .int 0, .int 0, .int 0, .ref (Y + 4), .ref (Y + 5), .ref (Y + 6), .ref (Y + 7), .int 0, .int 0, .ref (Y + 8), .ref (Y + 9), .int 0, .ref (Y + 10), .ref (Y + 11), .int 0, .ref (Y + 12), .ref (Y + 13), .ref (Y + 14), .ref (Y + 15), .int 0, .int 0, .ref (Y + 16), .ref (Y + 17), .ref (Y + 18), .int 0, .ref (Y + 19), .ref (Y + 20), .int 0, .ref (Y + 21), .int 0, .ref (Y + 22), .ref (Y + 23)])) ∧ g.2 (Y + 1) = some (iA K 19 nw0) ∧ g.2 (Y + 2) = some (bA K 80 (fun _ => 0)) ∧ g.2 (Y + 3) = some (lA K 16 (fun _ => 0)) ∧ g.2 (Y + 4) = some (iA K 10 (fun _ => 0)) ∧ g.2 (Y + 5) = some (iA K 2 (fun _ => 0)) ∧ g.2 (Y + 6) = some (bA K 40 (fun _ => 0)) ∧ g.2 (Y + 7) = some (bA K 40 (fun _ => 0)) ∧ g.2 (Y + 8) = some (iA K 7 (fun _ => 0)) ∧ g.2 (Y + 9) = some (iA K 228 (fun _ => 0)) ∧ g.2 (Y + 10) = some (iA K 19 (fun _ => 0)) ∧ g.2 (Y + 11) = some (iA K 19 (fun _ => 0)) ∧ g.2 (Y + 12) = some (iA K 240 (fun _ => 0)) ∧ g.2 (Y + 13) = some (iA K 4 (fun _ => 0)) ∧ g.2 (Y + 14) = some (iA K 1024 (fun _ => 0)) ∧ g.2 (Y + 15) = some (iA K 1024 (fun _ => 0)) ∧ g.2 (Y + 16) = some (iA K 64 (fun _ => 0)) ∧ g.2 (Y + 17) = some (iA K 12 (fun _ => 0)) ∧ g.2 (Y + 18) = some (iA K 12 (fun _ => 0)) ∧ g.2 (Y + 19) = some (iA K 10 (fun _ => 0)) ∧ g.2 (Y + 20) = some (iA K 10 (fun _ => 0)) ∧ g.2 (Y + 21) = some (zA K 201 (fun _ => 0)) ∧ g.2 (Y + 22) = some (iA K 38 (fun _ => 0)) ∧ g.2 (Y + 23) = some (zA K 2 (fun _ => 0)))) 12 [some (.ref Y)] [] h := by
  refine xr_al0 dX12_init_12 ?_
  refine xr_bipush (v := 80) dX12_init_13 (by decide) ?_
  refine xr_newb (rc' := 21) (rs' := 3022) (N := 80) wa_byte (by decide) (by decide) (by decide) rfl rfl dX12_init_15 ?_
  refine xT.nm (fun zh1 zg1 => ?_)
  have o0 := xn_ne zg1 (by omega) o0
  have q := xn_eq zg1
  rw [T] at q
  rw [T]
  refine xr_putF rfl o0 fX12_13 (Nat.le_of_ble_eq_true rfl) rfl rfl dX12_init_17 ?_
  refine xT.nm (fun zh2 zg2 => ?_)
  have o1 : zh2.2 Y = some (.inr (12, [.ref (Y + 1), .ref (Y + 2), .int 0, .null, .int 0, .int 0, .null, .int 0, .int 0, .int 0, .int 0, .null, .null, .null, .null, .int 0, .int 0, .null, .null, .int 0, .null, .null, .int 0, .null, .null, .null, .null, .int 0, .int 0, .null, .null, .null, .int 0, .null, .null, .int 0, .null, .int 0, .null, .null])) := xg_eq zg2
  have T1 : zh2.1 = Y + 3 := by rw [xg_1 zg2, xn_1 zg1, T]
  have b1 := xg_ne zg2 (b := Y + 1) (by omega) (xn_ne zg1 (by omega) a1)
  refine xT.post (fun r g q0' => ?_) (nm2 T1 o1 b1)
  obtain ⟨q0, q1, q2, q3, q5, q4⟩ := q0'
  exact ⟨q0, q1, fun b n1 n2 n3 => (q2 b n1 n2 (by omega)).trans ((xg_ne zg2 n1 rfl).trans (xn_ne zg1 (by omega) rfl)), q3, q5, (q2 _ (by omega) (by omega) (by omega)).trans (xg_ne zg2 (b := Y + 2) (by omega) q), q4⟩
set_option maxRecDepth 20000 in
theorem nm0 {K : xK} {B : Nat} {l : Launch} {Y : Nat} {h : xH} (T : h.1 = Y + 1) (o0 : h.2 Y = some (.inr (12, [.null, .null, .int 0, .null, .int 0, .int 0, .null, .int 0, .int 0, .int 0, .int 0, .null, .null, .null, .null, .int 0, .int 0, .null, .null, .int 0, .null, .null, .int 0, .null, .null, .null, .null, .int 0, .int 0, .null, .null, .null, .int 0, .null, .null, .int 0, .null, .int 0, .null, .null]))) : xT K B l 2 RX12 true cX12_init 1 none 23 3121 23 3121 (xPv (fun g => g.1 = Y + 24 ∧ (∀ b, b ≠ Y → b ≠ Y + 1 → b < Y + 1 → g.2 b = h.2 b) ∧ g.2 Y = some (.inr (12, [.ref (Y + 1), .ref (Y + 2), .int 0, .ref (Y + 3), .int 0, .int 0, .null, .int 0, .int 0, .int 0, .int 0, .ref (Y + 4), .ref (Y + 5), .ref (Y + 6), .ref (Y + 7), .int 0, .int 0, .ref (Y + 8), .ref (Y + 9), .int 0, .ref (Y + 10), .ref (Y + 11), .int 0, .ref (Y + 12), .ref (Y + 13), .ref (Y + 14), .ref (Y + 15), .int 0, .int 0, .ref (Y + 16), .ref (Y + 17), .ref (Y + 18), .int 0, .ref (Y + 19), .ref (Y + 20), .int 0, .ref (Y + 21), .int 0, .ref (Y + 22), .ref (Y + 23)])) ∧ g.2 (Y + 1) = some (iA K 19 nw0) ∧ g.2 (Y + 2) = some (bA K 80 (fun _ => 0)) ∧ g.2 (Y + 3) = some (lA K 16 (fun _ => 0)) ∧ g.2 (Y + 4) = some (iA K 10 (fun _ => 0)) ∧ g.2 (Y + 5) = some (iA K 2 (fun _ => 0)) ∧ g.2 (Y + 6) = some (bA K 40 (fun _ => 0)) ∧ g.2 (Y + 7) = some (bA K 40 (fun _ => 0)) ∧ g.2 (Y + 8) = some (iA K 7 (fun _ => 0)) ∧ g.2 (Y + 9) = some (iA K 228 (fun _ => 0)) ∧ g.2 (Y + 10) = some (iA K 19 (fun _ => 0)) ∧ g.2 (Y + 11) = some (iA K 19 (fun _ => 0)) ∧ g.2 (Y + 12) = some (iA K 240 (fun _ => 0)) ∧ g.2 (Y + 13) = some (iA K 4 (fun _ => 0)) ∧ g.2 (Y + 14) = some (iA K 1024 (fun _ => 0)) ∧ g.2 (Y + 15) = some (iA K 1024 (fun _ => 0)) ∧ g.2 (Y + 16) = some (iA K 64 (fun _ => 0)) ∧ g.2 (Y + 17) = some (iA K 12 (fun _ => 0)) ∧ g.2 (Y + 18) = some (iA K 12 (fun _ => 0)) ∧ g.2 (Y + 19) = some (iA K 10 (fun _ => 0)) ∧ g.2 (Y + 20) = some (iA K 10 (fun _ => 0)) ∧ g.2 (Y + 21) = some (zA K 201 (fun _ => 0)) ∧ g.2 (Y + 22) = some (iA K 38 (fun _ => 0)) ∧ g.2 (Y + 23) = some (zA K 2 (fun _ => 0)))) 4 [some (.ref Y)] [] h := by
  refine xr_al0 dX12_init_4 ?_
  refine xr_bipush (v := 19) dX12_init_5 (by decide) ?_
  refine xr_newi (rc' := 22) (rs' := 3102) (N := 19) wa_int (by decide) (by decide) (by decide) rfl rfl dX12_init_7 ?_
  refine xT.nm (fun zh1 zg1 => ?_)
  have o0 := xn_ne zg1 (by omega) o0
  have q := xn_eq zg1
  rw [T] at q
  rw [T]
  refine xr_putF rfl o0 fX12_9 (Nat.le_of_ble_eq_true rfl) rfl rfl dX12_init_9 ?_
  refine xT.nm (fun zh2 zg2 => ?_)
  have o1 : zh2.2 Y = some (.inr (12, [.ref (Y + 1), .null, .int 0, .null, .int 0, .int 0, .null, .int 0, .int 0, .int 0, .int 0, .null, .null, .null, .null, .int 0, .int 0, .null, .null, .int 0, .null, .null, .int 0, .null, .null, .null, .null, .int 0, .int 0, .null, .null, .null, .int 0, .null, .null, .int 0, .null, .int 0, .null, .null])) := xg_eq zg2
  have T1 : zh2.1 = Y + 2 := by rw [xg_1 zg2, xn_1 zg1, T]
  have b1 := xg_ne zg2 (b := Y + 1) (by omega) q
  refine xT.post (fun r g q0' => ?_) (nm1 T1 o1 b1)
  obtain ⟨q0, q1, q2, q3, q5, q4⟩ := q0'
  exact ⟨q0, q1, fun b n1 n2 n3 => (q2 b n1 n2 (by omega)).trans ((xg_ne zg2 n1 rfl).trans (xn_ne zg1 (by omega) rfl)), q3, q5, q4⟩
set_option maxRecDepth 20000 in
theorem i_MdlN {K : xK} {B : Nat} {l : Launch} {h : xH} {Y : Nat} (T : h.1 = Y + 1) (o0 : h.2 Y = some (.inr (12, [.null, .null, .int 0, .null, .int 0, .int 0, .null, .int 0, .int 0, .int 0, .int 0, .null, .null, .null, .null, .int 0, .int 0, .null, .null, .int 0, .null, .null, .int 0, .null, .null, .null, .null, .int 0, .int 0, .null, .null, .null, .int 0, .null, .null, .int 0, .null, .int 0, .null, .null]))) : xN K B l 2 mX12_init 23 3121 (Y) [] h (xPv (fun g => g.1 = Y + 24 ∧ (∀ b, b ≠ Y → b ≠ Y + 1 → b < Y + 1 → g.2 b = h.2 b) ∧ g.2 Y = some (.inr (12, [.ref (Y + 1), .ref (Y + 2), .int 0, .ref (Y + 3), .int 0, .int 0, .null, .int 0, .int 0, .int 0, .int 0, .ref (Y + 4), .ref (Y + 5), .ref (Y + 6), .ref (Y + 7), .int 0, .int 0, .ref (Y + 8), .ref (Y + 9), .int 0, .ref (Y + 10), .ref (Y + 11), .int 0, .ref (Y + 12), .ref (Y + 13), .ref (Y + 14), .ref (Y + 15), .int 0, .int 0, .ref (Y + 16), .ref (Y + 17), .ref (Y + 18), .int 0, .ref (Y + 19), .ref (Y + 20), .int 0, .ref (Y + 21), .int 0, .ref (Y + 22), .ref (Y + 23)])) ∧ g.2 (Y + 1) = some (iA K 19 nw0) ∧ g.2 (Y + 2) = some (bA K 80 (fun _ => 0)) ∧ g.2 (Y + 3) = some (lA K 16 (fun _ => 0)) ∧ g.2 (Y + 4) = some (iA K 10 (fun _ => 0)) ∧ g.2 (Y + 5) = some (iA K 2 (fun _ => 0)) ∧ g.2 (Y + 6) = some (bA K 40 (fun _ => 0)) ∧ g.2 (Y + 7) = some (bA K 40 (fun _ => 0)) ∧ g.2 (Y + 8) = some (iA K 7 (fun _ => 0)) ∧ g.2 (Y + 9) = some (iA K 228 (fun _ => 0)) ∧ g.2 (Y + 10) = some (iA K 19 (fun _ => 0)) ∧ g.2 (Y + 11) = some (iA K 19 (fun _ => 0)) ∧ g.2 (Y + 12) = some (iA K 240 (fun _ => 0)) ∧ g.2 (Y + 13) = some (iA K 4 (fun _ => 0)) ∧ g.2 (Y + 14) = some (iA K 1024 (fun _ => 0)) ∧ g.2 (Y + 15) = some (iA K 1024 (fun _ => 0)) ∧ g.2 (Y + 16) = some (iA K 64 (fun _ => 0)) ∧ g.2 (Y + 17) = some (iA K 12 (fun _ => 0)) ∧ g.2 (Y + 18) = some (iA K 12 (fun _ => 0)) ∧ g.2 (Y + 19) = some (iA K 10 (fun _ => 0)) ∧ g.2 (Y + 20) = some (iA K 10 (fun _ => 0)) ∧ g.2 (Y + 21) = some (zA K 201 (fun _ => 0)) ∧ g.2 (Y + 22) = some (iA K 38 (fun _ => 0)) ∧ g.2 (Y + 23) = some (zA K 2 (fun _ => 0)))) := by
  refine ⟨qX12_init, ?_⟩
  refine xS.intro RX12 true ⟨rfl, rfl, by decide, by decide, Nat.le_of_ble_eq_true rfl⟩ (ls := [some (.ref Y)]) rfl ?_
  refine xr_al0 dX12_init_0 ?_
  refine xr_objInit koX12_3 oi oc (by decide) (Nat.le_of_ble_eq_true rfl) dX12_init_1 ?_
  exact nm0 T o0
