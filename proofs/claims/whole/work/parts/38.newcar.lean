/-! A new CliffCars (written by wip/whole/ctor2.py) -/
set_option maxRecDepth 20000 in
theorem nc16 {K : xK} {B : Nat} {l : Launch} {X : Nat} {h : xH} (T : h.1 = X + 39) (o0 : h.2 X = some (.inr (11, [.ref (X + 1), .ref (X + 3), .ref (X + 5), .ref (X + 8), .ref (X + 11), .ref (X + 14), .ref (X + 16), .ref (X + 17), .ref (X + 20), .ref (X + 23), .ref (X + 25), .ref (X + 28), .ref (X + 31), .ref (X + 34), .ref (X + 37), .ref (X + 38)]))) : xT K B l 2 RX11 true cX11_init 1 none 38 2757 0 0 (xPv (fun g => g.1 = X + 39 ∧ (∀ b, b ≠ X → b < X + 39 → g.2 b = h.2 b) ∧ g.2 X = some (carO X))) 187 [some (.ref X)] [] h := by
  refine xr_vret dX11_init_187 rfl ?_
  exact ⟨rfl, T, fun _ _ _ => rfl, o0⟩
set_option maxRecDepth 20000 in
theorem nc15 {K : xK} {B : Nat} {l : Launch} {X : Nat} {h : xH} (T : h.1 = X + 38) (o0 : h.2 X = some (.inr (11, [.ref (X + 1), .ref (X + 3), .ref (X + 5), .ref (X + 8), .ref (X + 11), .ref (X + 14), .ref (X + 16), .ref (X + 17), .ref (X + 20), .ref (X + 23), .ref (X + 25), .ref (X + 28), .ref (X + 31), .ref (X + 34), .ref (X + 37), .null]))) : xT K B l 2 RX11 true cX11_init 1 none 38 2757 1 201 (xPv (fun g => g.1 = X + 39 ∧ (∀ b, b ≠ X → b < X + 38 → g.2 b = h.2 b) ∧ g.2 X = some (carO X) ∧ g.2 (X + 38) = some (zA K 201 (fun _ => 0)))) 178 [some (.ref X)] [] h := by
  refine xr_al0 dX11_init_178 ?_
  refine xr_sipush (v := 201) dX11_init_179 (by decide) ?_
  refine xr_newz (rc' := 0) (rs' := 0) (N := 201) wa_boolean (by decide) (by decide) (by decide) rfl rfl dX11_init_182 ?_
  refine xT.nm (fun zh1 zg1 => ?_)
  have o0 := xn_ne zg1 (by omega) o0
  have q := xn_eq zg1
  rw [T] at q
  rw [T]
  refine xr_putF rfl o0 fX11_103 (Nat.le_of_ble_eq_true rfl) rfl rfl dX11_init_184 ?_
  refine xT.nm (fun zh2 zg2 => ?_)
  have o1 : zh2.2 X = some (.inr (11, [.ref (X + 1), .ref (X + 3), .ref (X + 5), .ref (X + 8), .ref (X + 11), .ref (X + 14), .ref (X + 16), .ref (X + 17), .ref (X + 20), .ref (X + 23), .ref (X + 25), .ref (X + 28), .ref (X + 31), .ref (X + 34), .ref (X + 37), .ref (X + 38)])) := xg_eq zg2
  have T1 : zh2.1 = X + 39 := by rw [xg_1 zg2, xn_1 zg1, T]
  refine xT.post (fun r g q0' => ?_) (nc16 T1 o1)
  obtain ⟨q0, q1, q2, q3⟩ := q0'
  exact ⟨q0, q1, fun b n1 n2 => (q2 b n1 (by omega)).trans ((xg_ne zg2 n1 rfl).trans (xn_ne zg1 (by omega) rfl)), q3, (q2 _ (by omega) (by omega)).trans (xg_ne zg2 (b := X + 38) (by omega) q)⟩
set_option maxRecDepth 20000 in
theorem nc14 {K : xK} {B : Nat} {l : Launch} {X : Nat} {h : xH} (T : h.1 = X + 37) (o0 : h.2 X = some (.inr (11, [.ref (X + 1), .ref (X + 3), .ref (X + 5), .ref (X + 8), .ref (X + 11), .ref (X + 14), .ref (X + 16), .ref (X + 17), .ref (X + 20), .ref (X + 23), .ref (X + 25), .ref (X + 28), .ref (X + 31), .ref (X + 34), .null, .null]))) : xT K B l 2 RX11 true cX11_init 1 none 38 2757 2 202 (xPv (fun g => g.1 = X + 39 ∧ (∀ b, b ≠ X → b < X + 37 → g.2 b = h.2 b) ∧ g.2 X = some (carO X) ∧ g.2 (X + 37) = some (diO 0) ∧ g.2 (X + 38) = some (zA K 201 (fun _ => 0)))) 167 [some (.ref X)] [] h := by
  refine xr_al0 dX11_init_167 ?_
  refine xr_new (rc' := 1) (rs' := 201) (fs := [.int 0]) clX0 wX11_96 wi_X0 wz_X0 (def_X0) rfl rfl dX11_init_168 ?_
  refine xT.nm (fun zh1 zg1 => ?_)
  have o0 := xn_ne zg1 (by omega) o0
  have q := xn_eq zg1
  rw [T] at q
  rw [T]
  have U : zh1.1 = X + 37 + 1 := by rw [xn_1 zg1, T]
  refine xr_dup dX11_init_171 rfl ?_
  refine xr_Ipv0 (i_Dice U q) kX11_98 (by decide) (Nat.le_of_ble_eq_true rfl) (rc' := 1) (rs' := 201) rfl rfl dX11_init_172 (fun zh2 zq2 => ?_)
  have o0 := (zq2.1.2 X (by omega)).trans o0
  refine xr_putF rfl o0 fX11_99 (Nat.le_of_ble_eq_true rfl) rfl rfl dX11_init_175 ?_
  refine xT.nm (fun zh3 zg3 => ?_)
  have o1 : zh3.2 X = some (.inr (11, [.ref (X + 1), .ref (X + 3), .ref (X + 5), .ref (X + 8), .ref (X + 11), .ref (X + 14), .ref (X + 16), .ref (X + 17), .ref (X + 20), .ref (X + 23), .ref (X + 25), .ref (X + 28), .ref (X + 31), .ref (X + 34), .ref (X + 37), .null])) := xg_eq zg3
  have T1 : zh3.1 = X + 38 := by rw [xg_1 zg3, zq2.1.1]
  refine xT.post (fun r g q0' => ?_) (nc15 T1 o1)
  obtain ⟨q0, q1, q2, q3, q4⟩ := q0'
  exact ⟨q0, q1, fun b n1 n2 => (q2 b n1 (by omega)).trans ((xg_ne zg3 n1 rfl).trans ((zq2.1.2 b (by omega)).trans (xn_ne zg1 (by omega) rfl))), q3, (q2 _ (by omega) (by omega)).trans (xg_ne zg3 (b := X + 37) (by omega) zq2.2), q4⟩
set_option maxRecDepth 20000 in
theorem nc13 {K : xK} {B : Nat} {l : Launch} {X : Nat} {h : xH} (T : h.1 = X + 34) (o0 : h.2 X = some (.inr (11, [.ref (X + 1), .ref (X + 3), .ref (X + 5), .ref (X + 8), .ref (X + 11), .ref (X + 14), .ref (X + 16), .ref (X + 17), .ref (X + 20), .ref (X + 23), .ref (X + 25), .ref (X + 28), .ref (X + 31), .null, .null, .null]))) : xT K B l 2 RX11 true cX11_init 1 none 38 2757 5 2256 (xPv (fun g => g.1 = X + 39 ∧ (∀ b, b ≠ X → b < X + 34 → g.2 b = h.2 b) ∧ g.2 X = some (carO X) ∧ X3 g (X + 34) (plO (X + 34) (X + 31) 0 0 0) (iA K 1024 (fun _ => 0)) (iA K 1024 (fun _ => 0)) ∧ g.2 (X + 37) = some (diO 0) ∧ g.2 (X + 38) = some (zA K 201 (fun _ => 0)))) 152 [some (.ref X)] [] h := by
  refine xr_al0 dX11_init_152 ?_
  refine xr_new (rc' := 4) (rs' := 2250) (fs := [.null, .null, .null, .int 0, .int 0, .int 0]) clX6 wX11_87 wi_X6 wz_X6 (def_X6) rfl rfl dX11_init_153 ?_
  refine xT.nm (fun zh1 zg1 => ?_)
  have o0 := xn_ne zg1 (by omega) o0
  have q := xn_eq zg1
  rw [T] at q
  rw [T]
  have U : zh1.1 = X + 34 + 1 := by rw [xn_1 zg1, T]
  refine xr_dup dX11_init_156 rfl ?_
  refine xr_al0 dX11_init_157 ?_
  refine xr_get o0 fX11_83 rfl dX11_init_158 ?_
  refine xr_Ipv1 (i_Plan U q) kX11_89 (by decide) (Nat.le_of_ble_eq_true rfl) (rc' := 2) (rs' := 202) rfl rfl dX11_init_161 (fun zh2 zq2 => ?_)
  have o0 := (zq2.1.2 X (by omega)).trans o0
  refine xr_putF rfl o0 fX11_92 (Nat.le_of_ble_eq_true rfl) rfl rfl dX11_init_164 ?_
  refine xT.nm (fun zh3 zg3 => ?_)
  have o1 : zh3.2 X = some (.inr (11, [.ref (X + 1), .ref (X + 3), .ref (X + 5), .ref (X + 8), .ref (X + 11), .ref (X + 14), .ref (X + 16), .ref (X + 17), .ref (X + 20), .ref (X + 23), .ref (X + 25), .ref (X + 28), .ref (X + 31), .ref (X + 34), .null, .null])) := xg_eq zg3
  have T1 : zh3.1 = X + 37 := by rw [xg_1 zg3, zq2.1.1]
  refine xT.post (fun r g q0' => ?_) (nc14 T1 o1)
  obtain ⟨q0, q1, q2, q3, q4⟩ := q0'
  exact ⟨q0, q1, fun b n1 n2 => (q2 b n1 (by omega)).trans ((xg_ne zg3 n1 rfl).trans ((zq2.1.2 b (by omega)).trans (xn_ne zg1 (by omega) rfl))), q3, X3.frw zq2.2 (fun b b1 b2 => (q2 b (by omega) (by omega)).trans (xg_ne zg3 (by omega) rfl)), q4⟩
set_option maxRecDepth 20000 in
theorem nc12 {K : xK} {B : Nat} {l : Launch} {X : Nat} {h : xH} (T : h.1 = X + 31) (o0 : h.2 X = some (.inr (11, [.ref (X + 1), .ref (X + 3), .ref (X + 5), .ref (X + 8), .ref (X + 11), .ref (X + 14), .ref (X + 16), .ref (X + 17), .ref (X + 20), .ref (X + 23), .ref (X + 25), .ref (X + 28), .null, .null, .null, .null]))) : xT K B l 2 RX11 true cX11_init 1 none 38 2757 8 2326 (xPv (fun g => g.1 = X + 39 ∧ (∀ b, b ≠ X → b < X + 31 → g.2 b = h.2 b) ∧ g.2 X = some (carO X) ∧ X3 g (X + 31) (grO (X + 31) 0 0 0 0) (iA K 32 (fun _ => 0)) (iA K 32 (fun _ => 0)) ∧ X3 g (X + 34) (plO (X + 34) (X + 31) 0 0 0) (iA K 1024 (fun _ => 0)) (iA K 1024 (fun _ => 0)) ∧ g.2 (X + 37) = some (diO 0) ∧ g.2 (X + 38) = some (zA K 201 (fun _ => 0)))) 141 [some (.ref X)] [] h := by
  refine xr_al0 dX11_init_141 ?_
  refine xr_new (rc' := 7) (rs' := 2320) (fs := [.null, .null, .int 0, .int 0, .int 0, .int 0]) clX1 wX11_80 wi_X1 wz_X1 (def_X1) rfl rfl dX11_init_142 ?_
  refine xT.nm (fun zh1 zg1 => ?_)
  have o0 := xn_ne zg1 (by omega) o0
  have q := xn_eq zg1
  rw [T] at q
  rw [T]
  have U : zh1.1 = X + 31 + 1 := by rw [xn_1 zg1, T]
  refine xr_dup dX11_init_145 rfl ?_
  refine xr_Ipv0 (i_Groups U q) kX11_82 (by decide) (Nat.le_of_ble_eq_true rfl) (rc' := 5) (rs' := 2256) rfl rfl dX11_init_146 (fun zh2 zq2 => ?_)
  have o0 := (zq2.1.2 X (by omega)).trans o0
  refine xr_putF rfl o0 fX11_83 (Nat.le_of_ble_eq_true rfl) rfl rfl dX11_init_149 ?_
  refine xT.nm (fun zh3 zg3 => ?_)
  have o1 : zh3.2 X = some (.inr (11, [.ref (X + 1), .ref (X + 3), .ref (X + 5), .ref (X + 8), .ref (X + 11), .ref (X + 14), .ref (X + 16), .ref (X + 17), .ref (X + 20), .ref (X + 23), .ref (X + 25), .ref (X + 28), .ref (X + 31), .null, .null, .null])) := xg_eq zg3
  have T1 : zh3.1 = X + 34 := by rw [xg_1 zg3, zq2.1.1]
  refine xT.post (fun r g q0' => ?_) (nc13 T1 o1)
  obtain ⟨q0, q1, q2, q3, q4⟩ := q0'
  exact ⟨q0, q1, fun b n1 n2 => (q2 b n1 (by omega)).trans ((xg_ne zg3 n1 rfl).trans ((zq2.1.2 b (by omega)).trans (xn_ne zg1 (by omega) rfl))), q3, X3.frw zq2.2 (fun b b1 b2 => (q2 b (by omega) (by omega)).trans (xg_ne zg3 (by omega) rfl)), q4⟩
set_option maxRecDepth 20000 in
theorem nc11 {K : xK} {B : Nat} {l : Launch} {X : Nat} {h : xH} (T : h.1 = X + 28) (o0 : h.2 X = some (.inr (11, [.ref (X + 1), .ref (X + 3), .ref (X + 5), .ref (X + 8), .ref (X + 11), .ref (X + 14), .ref (X + 16), .ref (X + 17), .ref (X + 20), .ref (X + 23), .ref (X + 25), .null, .null, .null, .null, .null]))) : xT K B l 2 RX11 true cX11_init 1 none 38 2757 11 2349 (xPv (fun g => g.1 = X + 39 ∧ (∀ b, b ≠ X → b < X + 28 → g.2 b = h.2 b) ∧ g.2 X = some (carO X) ∧ X3 g (X + 28) (siO (X + 28) 0) (iA K 10 (fun _ => 0)) (zA K 10 (fun _ => 0)) ∧ X3 g (X + 31) (grO (X + 31) 0 0 0 0) (iA K 32 (fun _ => 0)) (iA K 32 (fun _ => 0)) ∧ X3 g (X + 34) (plO (X + 34) (X + 31) 0 0 0) (iA K 1024 (fun _ => 0)) (iA K 1024 (fun _ => 0)) ∧ g.2 (X + 37) = some (diO 0) ∧ g.2 (X + 38) = some (zA K 201 (fun _ => 0)))) 130 [some (.ref X)] [] h := by
  refine xr_al0 dX11_init_130 ?_
  refine xr_new (rc' := 10) (rs' := 2346) (fs := [.null, .null, .int 0]) clX9 wX11_73 wi_X9 wz_X9 (def_X9) rfl rfl dX11_init_131 ?_
  refine xT.nm (fun zh1 zg1 => ?_)
  have o0 := xn_ne zg1 (by omega) o0
  have q := xn_eq zg1
  rw [T] at q
  rw [T]
  have U : zh1.1 = X + 28 + 1 := by rw [xn_1 zg1, T]
  refine xr_dup dX11_init_134 rfl ?_
  refine xr_Ipv0 (i_Sightings U q) kX11_75 (by decide) (Nat.le_of_ble_eq_true rfl) (rc' := 8) (rs' := 2326) rfl rfl dX11_init_135 (fun zh2 zq2 => ?_)
  have o0 := (zq2.1.2 X (by omega)).trans o0
  refine xr_putF rfl o0 fX11_76 (Nat.le_of_ble_eq_true rfl) rfl rfl dX11_init_138 ?_
  refine xT.nm (fun zh3 zg3 => ?_)
  have o1 : zh3.2 X = some (.inr (11, [.ref (X + 1), .ref (X + 3), .ref (X + 5), .ref (X + 8), .ref (X + 11), .ref (X + 14), .ref (X + 16), .ref (X + 17), .ref (X + 20), .ref (X + 23), .ref (X + 25), .ref (X + 28), .null, .null, .null, .null])) := xg_eq zg3
  have T1 : zh3.1 = X + 31 := by rw [xg_1 zg3, zq2.1.1]
  refine xT.post (fun r g q0' => ?_) (nc12 T1 o1)
  obtain ⟨q0, q1, q2, q3, q4⟩ := q0'
  exact ⟨q0, q1, fun b n1 n2 => (q2 b n1 (by omega)).trans ((xg_ne zg3 n1 rfl).trans ((zq2.1.2 b (by omega)).trans (xn_ne zg1 (by omega) rfl))), q3, X3.frw zq2.2 (fun b b1 b2 => (q2 b (by omega) (by omega)).trans (xg_ne zg3 (by omega) rfl)), q4⟩
set_option maxRecDepth 20000 in
theorem nc10 {K : xK} {B : Nat} {l : Launch} {X : Nat} {h : xH} (T : h.1 = X + 25) (o0 : h.2 X = some (.inr (11, [.ref (X + 1), .ref (X + 3), .ref (X + 5), .ref (X + 8), .ref (X + 11), .ref (X + 14), .ref (X + 16), .ref (X + 17), .ref (X + 20), .ref (X + 23), .null, .null, .null, .null, .null, .null]))) : xT K B l 2 RX11 true cX11_init 1 none 38 2757 14 2376 (xPv (fun g => g.1 = X + 39 ∧ (∀ b, b ≠ X → b < X + 25 → g.2 b = h.2 b) ∧ g.2 X = some (carO X) ∧ X3 g (X + 25) (heO (X + 25) 0) (iA K 12 (fun _ => 0)) (iA K 12 (fun _ => 0)) ∧ X3 g (X + 28) (siO (X + 28) 0) (iA K 10 (fun _ => 0)) (zA K 10 (fun _ => 0)) ∧ X3 g (X + 31) (grO (X + 31) 0 0 0 0) (iA K 32 (fun _ => 0)) (iA K 32 (fun _ => 0)) ∧ X3 g (X + 34) (plO (X + 34) (X + 31) 0 0 0) (iA K 1024 (fun _ => 0)) (iA K 1024 (fun _ => 0)) ∧ g.2 (X + 37) = some (diO 0) ∧ g.2 (X + 38) = some (zA K 201 (fun _ => 0)))) 119 [some (.ref X)] [] h := by
  refine xr_al0 dX11_init_119 ?_
  refine xr_new (rc' := 13) (rs' := 2373) (fs := [.null, .null, .int 0]) clX2 wX11_66 wi_X2 wz_X2 (def_X2) rfl rfl dX11_init_120 ?_
  refine xT.nm (fun zh1 zg1 => ?_)
  have o0 := xn_ne zg1 (by omega) o0
  have q := xn_eq zg1
  rw [T] at q
  rw [T]
  have U : zh1.1 = X + 25 + 1 := by rw [xn_1 zg1, T]
  refine xr_dup dX11_init_123 rfl ?_
  refine xr_Ipv0 (i_Hearsay U q) kX11_68 (by decide) (Nat.le_of_ble_eq_true rfl) (rc' := 11) (rs' := 2349) rfl rfl dX11_init_124 (fun zh2 zq2 => ?_)
  have o0 := (zq2.1.2 X (by omega)).trans o0
  refine xr_putF rfl o0 fX11_69 (Nat.le_of_ble_eq_true rfl) rfl rfl dX11_init_127 ?_
  refine xT.nm (fun zh3 zg3 => ?_)
  have o1 : zh3.2 X = some (.inr (11, [.ref (X + 1), .ref (X + 3), .ref (X + 5), .ref (X + 8), .ref (X + 11), .ref (X + 14), .ref (X + 16), .ref (X + 17), .ref (X + 20), .ref (X + 23), .ref (X + 25), .null, .null, .null, .null, .null])) := xg_eq zg3
  have T1 : zh3.1 = X + 28 := by rw [xg_1 zg3, zq2.1.1]
  refine xT.post (fun r g q0' => ?_) (nc11 T1 o1)
  obtain ⟨q0, q1, q2, q3, q4⟩ := q0'
  exact ⟨q0, q1, fun b n1 n2 => (q2 b n1 (by omega)).trans ((xg_ne zg3 n1 rfl).trans ((zq2.1.2 b (by omega)).trans (xn_ne zg1 (by omega) rfl))), q3, X3.frw zq2.2 (fun b b1 b2 => (q2 b (by omega) (by omega)).trans (xg_ne zg3 (by omega) rfl)), q4⟩
set_option maxRecDepth 20000 in
theorem nc9 {K : xK} {B : Nat} {l : Launch} {X : Nat} {h : xH} (T : h.1 = X + 23) (o0 : h.2 X = some (.inr (11, [.ref (X + 1), .ref (X + 3), .ref (X + 5), .ref (X + 8), .ref (X + 11), .ref (X + 14), .ref (X + 16), .ref (X + 17), .ref (X + 20), .null, .null, .null, .null, .null, .null, .null]))) : xT K B l 2 RX11 true cX11_init 1 none 38 2757 16 2424 (xPv (fun g => g.1 = X + 39 ∧ (∀ b, b ≠ X → b < X + 23 → g.2 b = h.2 b) ∧ g.2 X = some (carO X) ∧ X2 g (X + 23) (rrO (X + 23) (X + 1) (X + 20) 0 0 0 0 0) (iA K 40 (fun _ => 0)) ∧ X3 g (X + 25) (heO (X + 25) 0) (iA K 12 (fun _ => 0)) (iA K 12 (fun _ => 0)) ∧ X3 g (X + 28) (siO (X + 28) 0) (iA K 10 (fun _ => 0)) (zA K 10 (fun _ => 0)) ∧ X3 g (X + 31) (grO (X + 31) 0 0 0 0) (iA K 32 (fun _ => 0)) (iA K 32 (fun _ => 0)) ∧ X3 g (X + 34) (plO (X + 34) (X + 31) 0 0 0) (iA K 1024 (fun _ => 0)) (iA K 1024 (fun _ => 0)) ∧ g.2 (X + 37) = some (diO 0) ∧ g.2 (X + 38) = some (zA K 201 (fun _ => 0)))) 100 [some (.ref X)] [] h := by
  refine xr_al0 dX11_init_100 ?_
  refine xr_new (rc' := 15) (rs' := 2416) (fs := [.null, .null, .null, .int 0, .int 0, .int 0, .int 0, .int 0]) clX8 wX11_57 wi_X8 wz_X8 (def_X8) rfl rfl dX11_init_101 ?_
  refine xT.nm (fun zh1 zg1 => ?_)
  have o0 := xn_ne zg1 (by omega) o0
  have q := xn_eq zg1
  rw [T] at q
  rw [T]
  have U : zh1.1 = X + 23 + 1 := by rw [xn_1 zg1, T]
  refine xr_dup dX11_init_104 rfl ?_
  refine xr_al0 dX11_init_105 ?_
  refine xr_get o0 fX11_12 rfl dX11_init_106 ?_
  refine xr_al0 dX11_init_109 ?_
  refine xr_get o0 fX11_54 rfl dX11_init_110 ?_
  refine xr_Ipv2 (i_Reader U q) kX11_59 (by decide) (Nat.le_of_ble_eq_true rfl) (rc' := 14) (rs' := 2376) rfl rfl dX11_init_113 (fun zh2 zq2 => ?_)
  have o0 := (zq2.1.2 X (by omega)).trans o0
  refine xr_putF rfl o0 fX11_62 (Nat.le_of_ble_eq_true rfl) rfl rfl dX11_init_116 ?_
  refine xT.nm (fun zh3 zg3 => ?_)
  have o1 : zh3.2 X = some (.inr (11, [.ref (X + 1), .ref (X + 3), .ref (X + 5), .ref (X + 8), .ref (X + 11), .ref (X + 14), .ref (X + 16), .ref (X + 17), .ref (X + 20), .ref (X + 23), .null, .null, .null, .null, .null, .null])) := xg_eq zg3
  have T1 : zh3.1 = X + 25 := by rw [xg_1 zg3, zq2.1.1]
  refine xT.post (fun r g q0' => ?_) (nc10 T1 o1)
  obtain ⟨q0, q1, q2, q3, q4⟩ := q0'
  exact ⟨q0, q1, fun b n1 n2 => (q2 b n1 (by omega)).trans ((xg_ne zg3 n1 rfl).trans ((zq2.1.2 b (by omega)).trans (xn_ne zg1 (by omega) rfl))), q3, X2.frw zq2.2 (fun b b1 b2 => (q2 b (by omega) (by omega)).trans (xg_ne zg3 (by omega) rfl)), q4⟩
set_option maxRecDepth 20000 in
theorem nc8 {K : xK} {B : Nat} {l : Launch} {X : Nat} {h : xH} (T : h.1 = X + 20) (o0 : h.2 X = some (.inr (11, [.ref (X + 1), .ref (X + 3), .ref (X + 5), .ref (X + 8), .ref (X + 11), .ref (X + 14), .ref (X + 16), .ref (X + 17), .null, .null, .null, .null, .null, .null, .null, .null]))) : xT K B l 2 RX11 true cX11_init 1 none 38 2757 19 2507 (xPv (fun g => g.1 = X + 39 ∧ (∀ b, b ≠ X → b < X + 20 → g.2 b = h.2 b) ∧ g.2 X = some (carO X) ∧ X3 g (X + 20) (ruO (X + 20) 0) (iA K 40 (fun _ => 0)) (iA K 40 (fun _ => 0)) ∧ X2 g (X + 23) (rrO (X + 23) (X + 1) (X + 20) 0 0 0 0 0) (iA K 40 (fun _ => 0)) ∧ X3 g (X + 25) (heO (X + 25) 0) (iA K 12 (fun _ => 0)) (iA K 12 (fun _ => 0)) ∧ X3 g (X + 28) (siO (X + 28) 0) (iA K 10 (fun _ => 0)) (zA K 10 (fun _ => 0)) ∧ X3 g (X + 31) (grO (X + 31) 0 0 0 0) (iA K 32 (fun _ => 0)) (iA K 32 (fun _ => 0)) ∧ X3 g (X + 34) (plO (X + 34) (X + 31) 0 0 0) (iA K 1024 (fun _ => 0)) (iA K 1024 (fun _ => 0)) ∧ g.2 (X + 37) = some (diO 0) ∧ g.2 (X + 38) = some (zA K 201 (fun _ => 0)))) 89 [some (.ref X)] [] h := by
  refine xr_al0 dX11_init_89 ?_
  refine xr_new (rc' := 18) (rs' := 2504) (fs := [.null, .null, .int 0]) clX7 wX11_47 wi_X7 wz_X7 (def_X7) rfl rfl dX11_init_90 ?_
  refine xT.nm (fun zh1 zg1 => ?_)
  have o0 := xn_ne zg1 (by omega) o0
  have q := xn_eq zg1
  rw [T] at q
  rw [T]
  have U : zh1.1 = X + 20 + 1 := by rw [xn_1 zg1, T]
  refine xr_dup dX11_init_93 rfl ?_
  refine xr_Ipv0 (i_Rule U q) kX11_49 (by decide) (Nat.le_of_ble_eq_true rfl) (rc' := 16) (rs' := 2424) rfl rfl dX11_init_94 (fun zh2 zq2 => ?_)
  have o0 := (zq2.1.2 X (by omega)).trans o0
  refine xr_putF rfl o0 fX11_54 (Nat.le_of_ble_eq_true rfl) rfl rfl dX11_init_97 ?_
  refine xT.nm (fun zh3 zg3 => ?_)
  have o1 : zh3.2 X = some (.inr (11, [.ref (X + 1), .ref (X + 3), .ref (X + 5), .ref (X + 8), .ref (X + 11), .ref (X + 14), .ref (X + 16), .ref (X + 17), .ref (X + 20), .null, .null, .null, .null, .null, .null, .null])) := xg_eq zg3
  have T1 : zh3.1 = X + 23 := by rw [xg_1 zg3, zq2.1.1]
  refine xT.post (fun r g q0' => ?_) (nc9 T1 o1)
  obtain ⟨q0, q1, q2, q3, q4⟩ := q0'
  exact ⟨q0, q1, fun b n1 n2 => (q2 b n1 (by omega)).trans ((xg_ne zg3 n1 rfl).trans ((zq2.1.2 b (by omega)).trans (xn_ne zg1 (by omega) rfl))), q3, X3.frw zq2.2 (fun b b1 b2 => (q2 b (by omega) (by omega)).trans (xg_ne zg3 (by omega) rfl)), q4⟩
set_option maxRecDepth 20000 in
theorem nc7 {K : xK} {B : Nat} {l : Launch} {X : Nat} {h : xH} (T : h.1 = X + 17) (o0 : h.2 X = some (.inr (11, [.ref (X + 1), .ref (X + 3), .ref (X + 5), .ref (X + 8), .ref (X + 11), .ref (X + 14), .ref (X + 16), .null, .null, .null, .null, .null, .null, .null, .null, .null]))) : xT K B l 2 RX11 true cX11_init 1 none 38 2757 22 2590 (xPv (fun g => g.1 = X + 39 ∧ (∀ b, b ≠ X → b < X + 17 → g.2 b = h.2 b) ∧ g.2 X = some (carO X) ∧ X3 g (X + 17) (ruO (X + 17) 0) (iA K 40 (fun _ => 0)) (iA K 40 (fun _ => 0)) ∧ X3 g (X + 20) (ruO (X + 20) 0) (iA K 40 (fun _ => 0)) (iA K 40 (fun _ => 0)) ∧ X2 g (X + 23) (rrO (X + 23) (X + 1) (X + 20) 0 0 0 0 0) (iA K 40 (fun _ => 0)) ∧ X3 g (X + 25) (heO (X + 25) 0) (iA K 12 (fun _ => 0)) (iA K 12 (fun _ => 0)) ∧ X3 g (X + 28) (siO (X + 28) 0) (iA K 10 (fun _ => 0)) (zA K 10 (fun _ => 0)) ∧ X3 g (X + 31) (grO (X + 31) 0 0 0 0) (iA K 32 (fun _ => 0)) (iA K 32 (fun _ => 0)) ∧ X3 g (X + 34) (plO (X + 34) (X + 31) 0 0 0) (iA K 1024 (fun _ => 0)) (iA K 1024 (fun _ => 0)) ∧ g.2 (X + 37) = some (diO 0) ∧ g.2 (X + 38) = some (zA K 201 (fun _ => 0)))) 78 [some (.ref X)] [] h := by
  refine xr_al0 dX11_init_78 ?_
  refine xr_new (rc' := 21) (rs' := 2587) (fs := [.null, .null, .int 0]) clX7 wX11_47 wi_X7 wz_X7 (def_X7) rfl rfl dX11_init_79 ?_
  refine xT.nm (fun zh1 zg1 => ?_)
  have o0 := xn_ne zg1 (by omega) o0
  have q := xn_eq zg1
  rw [T] at q
  rw [T]
  have U : zh1.1 = X + 17 + 1 := by rw [xn_1 zg1, T]
  refine xr_dup dX11_init_82 rfl ?_
  refine xr_Ipv0 (i_Rule U q) kX11_49 (by decide) (Nat.le_of_ble_eq_true rfl) (rc' := 19) (rs' := 2507) rfl rfl dX11_init_83 (fun zh2 zq2 => ?_)
  have o0 := (zq2.1.2 X (by omega)).trans o0
  refine xr_putF rfl o0 fX11_50 (Nat.le_of_ble_eq_true rfl) rfl rfl dX11_init_86 ?_
  refine xT.nm (fun zh3 zg3 => ?_)
  have o1 : zh3.2 X = some (.inr (11, [.ref (X + 1), .ref (X + 3), .ref (X + 5), .ref (X + 8), .ref (X + 11), .ref (X + 14), .ref (X + 16), .ref (X + 17), .null, .null, .null, .null, .null, .null, .null, .null])) := xg_eq zg3
  have T1 : zh3.1 = X + 20 := by rw [xg_1 zg3, zq2.1.1]
  refine xT.post (fun r g q0' => ?_) (nc8 T1 o1)
  obtain ⟨q0, q1, q2, q3, q4⟩ := q0'
  exact ⟨q0, q1, fun b n1 n2 => (q2 b n1 (by omega)).trans ((xg_ne zg3 n1 rfl).trans ((zq2.1.2 b (by omega)).trans (xn_ne zg1 (by omega) rfl))), q3, X3.frw zq2.2 (fun b b1 b2 => (q2 b (by omega) (by omega)).trans (xg_ne zg3 (by omega) rfl)), q4⟩
set_option maxRecDepth 20000 in
theorem nc6 {K : xK} {B : Nat} {l : Launch} {X : Nat} {h : xH} (T : h.1 = X + 16) (o0 : h.2 X = some (.inr (11, [.ref (X + 1), .ref (X + 3), .ref (X + 5), .ref (X + 8), .ref (X + 11), .ref (X + 14), .null, .null, .null, .null, .null, .null, .null, .null, .null, .null]))) : xT K B l 2 RX11 true cX11_init 1 none 38 2757 23 2592 (xPv (fun g => g.1 = X + 39 ∧ (∀ b, b ≠ X → b < X + 16 → g.2 b = h.2 b) ∧ g.2 X = some (carO X) ∧ g.2 (X + 16) = some (rA K 2 (fun _ => none)) ∧ X3 g (X + 17) (ruO (X + 17) 0) (iA K 40 (fun _ => 0)) (iA K 40 (fun _ => 0)) ∧ X3 g (X + 20) (ruO (X + 20) 0) (iA K 40 (fun _ => 0)) (iA K 40 (fun _ => 0)) ∧ X2 g (X + 23) (rrO (X + 23) (X + 1) (X + 20) 0 0 0 0 0) (iA K 40 (fun _ => 0)) ∧ X3 g (X + 25) (heO (X + 25) 0) (iA K 12 (fun _ => 0)) (iA K 12 (fun _ => 0)) ∧ X3 g (X + 28) (siO (X + 28) 0) (iA K 10 (fun _ => 0)) (zA K 10 (fun _ => 0)) ∧ X3 g (X + 31) (grO (X + 31) 0 0 0 0) (iA K 32 (fun _ => 0)) (iA K 32 (fun _ => 0)) ∧ X3 g (X + 34) (plO (X + 34) (X + 31) 0 0 0) (iA K 1024 (fun _ => 0)) (iA K 1024 (fun _ => 0)) ∧ g.2 (X + 37) = some (diO 0) ∧ g.2 (X + 38) = some (zA K 201 (fun _ => 0)))) 70 [some (.ref X)] [] h := by
  refine xr_al0 dX11_init_70 ?_
  refine xr_ic2 dX11_init_71 ?_
  refine xr_anew (rc' := 22) (rs' := 2590) (N := 2) wX11_23 wo_Hill (by decide) (by decide) (by decide) rfl rfl dX11_init_72 ?_
  refine xT.nm (fun zh1 zg1 => ?_)
  have o0 := xn_ne zg1 (by omega) o0
  have q := xn_eq zg1
  rw [T] at q
  rw [T]
  refine xr_putF rfl o0 fX11_43 (Nat.le_of_ble_eq_true rfl) rfl rfl dX11_init_75 ?_
  refine xT.nm (fun zh2 zg2 => ?_)
  have o1 : zh2.2 X = some (.inr (11, [.ref (X + 1), .ref (X + 3), .ref (X + 5), .ref (X + 8), .ref (X + 11), .ref (X + 14), .ref (X + 16), .null, .null, .null, .null, .null, .null, .null, .null, .null])) := xg_eq zg2
  have T1 : zh2.1 = X + 17 := by rw [xg_1 zg2, xn_1 zg1, T]
  refine xT.post (fun r g q0' => ?_) (nc7 T1 o1)
  obtain ⟨q0, q1, q2, q3, q4⟩ := q0'
  exact ⟨q0, q1, fun b n1 n2 => (q2 b n1 (by omega)).trans ((xg_ne zg2 n1 rfl).trans (xn_ne zg1 (by omega) rfl)), q3, (q2 _ (by omega) (by omega)).trans (xg_ne zg2 (b := X + 16) (by omega) q), q4⟩
set_option maxRecDepth 20000 in
theorem nc5 {K : xK} {B : Nat} {l : Launch} {X : Nat} {h : xH} (T : h.1 = X + 14) (o0 : h.2 X = some (.inr (11, [.ref (X + 1), .ref (X + 3), .ref (X + 5), .ref (X + 8), .ref (X + 11), .null, .null, .null, .null, .null, .null, .null, .null, .null, .null, .null]))) : xT K B l 2 RX11 true cX11_init 1 none 38 2757 25 2606 (xPv (fun g => g.1 = X + 39 ∧ (∀ b, b ≠ X → b < X + 14 → g.2 b = h.2 b) ∧ g.2 X = some (carO X) ∧ X2 g (X + 14) (paO (X + 14) 0) (rA K 12 (fun _ => none)) ∧ g.2 (X + 16) = some (rA K 2 (fun _ => none)) ∧ X3 g (X + 17) (ruO (X + 17) 0) (iA K 40 (fun _ => 0)) (iA K 40 (fun _ => 0)) ∧ X3 g (X + 20) (ruO (X + 20) 0) (iA K 40 (fun _ => 0)) (iA K 40 (fun _ => 0)) ∧ X2 g (X + 23) (rrO (X + 23) (X + 1) (X + 20) 0 0 0 0 0) (iA K 40 (fun _ => 0)) ∧ X3 g (X + 25) (heO (X + 25) 0) (iA K 12 (fun _ => 0)) (iA K 12 (fun _ => 0)) ∧ X3 g (X + 28) (siO (X + 28) 0) (iA K 10 (fun _ => 0)) (zA K 10 (fun _ => 0)) ∧ X3 g (X + 31) (grO (X + 31) 0 0 0 0) (iA K 32 (fun _ => 0)) (iA K 32 (fun _ => 0)) ∧ X3 g (X + 34) (plO (X + 34) (X + 31) 0 0 0) (iA K 1024 (fun _ => 0)) (iA K 1024 (fun _ => 0)) ∧ g.2 (X + 37) = some (diO 0) ∧ g.2 (X + 38) = some (zA K 201 (fun _ => 0)))) 59 [some (.ref X)] [] h := by
  refine xr_al0 dX11_init_59 ?_
  refine xr_new (rc' := 24) (rs' := 2604) (fs := [.null, .int 0]) clX5 wX11_36 wi_X5 wz_X5 (def_X5) rfl rfl dX11_init_60 ?_
  refine xT.nm (fun zh1 zg1 => ?_)
  have o0 := xn_ne zg1 (by omega) o0
  have q := xn_eq zg1
  rw [T] at q
  rw [T]
  have U : zh1.1 = X + 14 + 1 := by rw [xn_1 zg1, T]
  refine xr_dup dX11_init_63 rfl ?_
  refine xr_Ipv0 (i_Past U q) kX11_38 (by decide) (Nat.le_of_ble_eq_true rfl) (rc' := 23) (rs' := 2592) rfl rfl dX11_init_64 (fun zh2 zq2 => ?_)
  have o0 := (zq2.1.2 X (by omega)).trans o0
  refine xr_putF rfl o0 fX11_39 (Nat.le_of_ble_eq_true rfl) rfl rfl dX11_init_67 ?_
  refine xT.nm (fun zh3 zg3 => ?_)
  have o1 : zh3.2 X = some (.inr (11, [.ref (X + 1), .ref (X + 3), .ref (X + 5), .ref (X + 8), .ref (X + 11), .ref (X + 14), .null, .null, .null, .null, .null, .null, .null, .null, .null, .null])) := xg_eq zg3
  have T1 : zh3.1 = X + 16 := by rw [xg_1 zg3, zq2.1.1]
  refine xT.post (fun r g q0' => ?_) (nc6 T1 o1)
  obtain ⟨q0, q1, q2, q3, q4⟩ := q0'
  exact ⟨q0, q1, fun b n1 n2 => (q2 b n1 (by omega)).trans ((xg_ne zg3 n1 rfl).trans ((zq2.1.2 b (by omega)).trans (xn_ne zg1 (by omega) rfl))), q3, X2.frw zq2.2 (fun b b1 b2 => (q2 b (by omega) (by omega)).trans (xg_ne zg3 (by omega) rfl)), q4⟩
set_option maxRecDepth 20000 in
theorem nc4 {K : xK} {B : Nat} {l : Launch} {X : Nat} {h : xH} (T : h.1 = X + 11) (o0 : h.2 X = some (.inr (11, [.ref (X + 1), .ref (X + 3), .ref (X + 5), .ref (X + 8), .null, .null, .null, .null, .null, .null, .null, .null, .null, .null, .null, .null]))) : xT K B l 2 RX11 true cX11_init 1 none 38 2757 28 2627 (xPv (fun g => g.1 = X + 39 ∧ (∀ b, b ≠ X → b < X + 11 → g.2 b = h.2 b) ∧ g.2 X = some (carO X) ∧ xHill K g (X + 11) h0s ∧ X2 g (X + 14) (paO (X + 14) 0) (rA K 12 (fun _ => none)) ∧ g.2 (X + 16) = some (rA K 2 (fun _ => none)) ∧ X3 g (X + 17) (ruO (X + 17) 0) (iA K 40 (fun _ => 0)) (iA K 40 (fun _ => 0)) ∧ X3 g (X + 20) (ruO (X + 20) 0) (iA K 40 (fun _ => 0)) (iA K 40 (fun _ => 0)) ∧ X2 g (X + 23) (rrO (X + 23) (X + 1) (X + 20) 0 0 0 0 0) (iA K 40 (fun _ => 0)) ∧ X3 g (X + 25) (heO (X + 25) 0) (iA K 12 (fun _ => 0)) (iA K 12 (fun _ => 0)) ∧ X3 g (X + 28) (siO (X + 28) 0) (iA K 10 (fun _ => 0)) (zA K 10 (fun _ => 0)) ∧ X3 g (X + 31) (grO (X + 31) 0 0 0 0) (iA K 32 (fun _ => 0)) (iA K 32 (fun _ => 0)) ∧ X3 g (X + 34) (plO (X + 34) (X + 31) 0 0 0) (iA K 1024 (fun _ => 0)) (iA K 1024 (fun _ => 0)) ∧ g.2 (X + 37) = some (diO 0) ∧ g.2 (X + 38) = some (zA K 201 (fun _ => 0)))) 48 [some (.ref X)] [] h := by
  refine xr_al0 dX11_init_48 ?_
  refine xr_new (rc' := 27) (rs' := 2618) (fs := [.null, .null, .int 0, .int 0, .int 0, .int 0, .int 0, .int 0, .int 0]) clX3 wX11_23 wi_X3 wz_X3 (def_X3) rfl rfl dX11_init_49 ?_
  refine xT.nm (fun zh1 zg1 => ?_)
  have o0 := xn_ne zg1 (by omega) o0
  have q := xn_eq zg1
  rw [T] at q
  rw [T]
  have U : zh1.1 = X + 11 + 1 := by rw [xn_1 zg1, T]
  refine xr_dup dX11_init_52 rfl ?_
  refine xr_Ipv0 (i_Hill U q) kX11_25 (by decide) (Nat.le_of_ble_eq_true rfl) (rc' := 25) (rs' := 2606) rfl rfl dX11_init_53 (fun zh2 zq2 => ?_)
  have o0 := (zq2.1.2 X (by omega)).trans o0
  refine xr_putF rfl o0 fX11_33 (Nat.le_of_ble_eq_true rfl) rfl rfl dX11_init_56 ?_
  refine xT.nm (fun zh3 zg3 => ?_)
  have o1 : zh3.2 X = some (.inr (11, [.ref (X + 1), .ref (X + 3), .ref (X + 5), .ref (X + 8), .ref (X + 11), .null, .null, .null, .null, .null, .null, .null, .null, .null, .null, .null])) := xg_eq zg3
  have T1 : zh3.1 = X + 14 := by rw [xg_1 zg3, zq2.1.1]
  refine xT.post (fun r g q0' => ?_) (nc5 T1 o1)
  obtain ⟨q0, q1, q2, q3, q4⟩ := q0'
  exact ⟨q0, q1, fun b n1 n2 => (q2 b n1 (by omega)).trans ((xg_ne zg3 n1 rfl).trans ((zq2.1.2 b (by omega)).trans (xn_ne zg1 (by omega) rfl))), q3, xHill.fr zq2.2 (fun b b1 b2 => (q2 b (by omega) (by omega)).trans (xg_ne zg3 (by omega) rfl)), q4⟩
set_option maxRecDepth 20000 in
theorem nc3 {K : xK} {B : Nat} {l : Launch} {X : Nat} {h : xH} (T : h.1 = X + 8) (o0 : h.2 X = some (.inr (11, [.ref (X + 1), .ref (X + 3), .ref (X + 5), .null, .null, .null, .null, .null, .null, .null, .null, .null, .null, .null, .null, .null]))) : xT K B l 2 RX11 true cX11_init 1 none 38 2757 31 2648 (xPv (fun g => g.1 = X + 39 ∧ (∀ b, b ≠ X → b < X + 8 → g.2 b = h.2 b) ∧ g.2 X = some (carO X) ∧ xHill K g (X + 8) h0s ∧ xHill K g (X + 11) h0s ∧ X2 g (X + 14) (paO (X + 14) 0) (rA K 12 (fun _ => none)) ∧ g.2 (X + 16) = some (rA K 2 (fun _ => none)) ∧ X3 g (X + 17) (ruO (X + 17) 0) (iA K 40 (fun _ => 0)) (iA K 40 (fun _ => 0)) ∧ X3 g (X + 20) (ruO (X + 20) 0) (iA K 40 (fun _ => 0)) (iA K 40 (fun _ => 0)) ∧ X2 g (X + 23) (rrO (X + 23) (X + 1) (X + 20) 0 0 0 0 0) (iA K 40 (fun _ => 0)) ∧ X3 g (X + 25) (heO (X + 25) 0) (iA K 12 (fun _ => 0)) (iA K 12 (fun _ => 0)) ∧ X3 g (X + 28) (siO (X + 28) 0) (iA K 10 (fun _ => 0)) (zA K 10 (fun _ => 0)) ∧ X3 g (X + 31) (grO (X + 31) 0 0 0 0) (iA K 32 (fun _ => 0)) (iA K 32 (fun _ => 0)) ∧ X3 g (X + 34) (plO (X + 34) (X + 31) 0 0 0) (iA K 1024 (fun _ => 0)) (iA K 1024 (fun _ => 0)) ∧ g.2 (X + 37) = some (diO 0) ∧ g.2 (X + 38) = some (zA K 201 (fun _ => 0)))) 37 [some (.ref X)] [] h := by
  refine xr_al0 dX11_init_37 ?_
  refine xr_new (rc' := 30) (rs' := 2639) (fs := [.null, .null, .int 0, .int 0, .int 0, .int 0, .int 0, .int 0, .int 0]) clX3 wX11_23 wi_X3 wz_X3 (def_X3) rfl rfl dX11_init_38 ?_
  refine xT.nm (fun zh1 zg1 => ?_)
  have o0 := xn_ne zg1 (by omega) o0
  have q := xn_eq zg1
  rw [T] at q
  rw [T]
  have U : zh1.1 = X + 8 + 1 := by rw [xn_1 zg1, T]
  refine xr_dup dX11_init_41 rfl ?_
  refine xr_Ipv0 (i_Hill U q) kX11_25 (by decide) (Nat.le_of_ble_eq_true rfl) (rc' := 28) (rs' := 2627) rfl rfl dX11_init_42 (fun zh2 zq2 => ?_)
  have o0 := (zq2.1.2 X (by omega)).trans o0
  refine xr_putF rfl o0 fX11_30 (Nat.le_of_ble_eq_true rfl) rfl rfl dX11_init_45 ?_
  refine xT.nm (fun zh3 zg3 => ?_)
  have o1 : zh3.2 X = some (.inr (11, [.ref (X + 1), .ref (X + 3), .ref (X + 5), .ref (X + 8), .null, .null, .null, .null, .null, .null, .null, .null, .null, .null, .null, .null])) := xg_eq zg3
  have T1 : zh3.1 = X + 11 := by rw [xg_1 zg3, zq2.1.1]
  refine xT.post (fun r g q0' => ?_) (nc4 T1 o1)
  obtain ⟨q0, q1, q2, q3, q4⟩ := q0'
  exact ⟨q0, q1, fun b n1 n2 => (q2 b n1 (by omega)).trans ((xg_ne zg3 n1 rfl).trans ((zq2.1.2 b (by omega)).trans (xn_ne zg1 (by omega) rfl))), q3, xHill.fr zq2.2 (fun b b1 b2 => (q2 b (by omega) (by omega)).trans (xg_ne zg3 (by omega) rfl)), q4⟩
set_option maxRecDepth 20000 in
theorem nc2 {K : xK} {B : Nat} {l : Launch} {X : Nat} {h : xH} (T : h.1 = X + 5) (o0 : h.2 X = some (.inr (11, [.ref (X + 1), .ref (X + 3), .null, .null, .null, .null, .null, .null, .null, .null, .null, .null, .null, .null, .null, .null]))) : xT K B l 2 RX11 true cX11_init 1 none 38 2757 34 2669 (xPv (fun g => g.1 = X + 39 ∧ (∀ b, b ≠ X → b < X + 5 → g.2 b = h.2 b) ∧ g.2 X = some (carO X) ∧ xHill K g (X + 5) h0s ∧ xHill K g (X + 8) h0s ∧ xHill K g (X + 11) h0s ∧ X2 g (X + 14) (paO (X + 14) 0) (rA K 12 (fun _ => none)) ∧ g.2 (X + 16) = some (rA K 2 (fun _ => none)) ∧ X3 g (X + 17) (ruO (X + 17) 0) (iA K 40 (fun _ => 0)) (iA K 40 (fun _ => 0)) ∧ X3 g (X + 20) (ruO (X + 20) 0) (iA K 40 (fun _ => 0)) (iA K 40 (fun _ => 0)) ∧ X2 g (X + 23) (rrO (X + 23) (X + 1) (X + 20) 0 0 0 0 0) (iA K 40 (fun _ => 0)) ∧ X3 g (X + 25) (heO (X + 25) 0) (iA K 12 (fun _ => 0)) (iA K 12 (fun _ => 0)) ∧ X3 g (X + 28) (siO (X + 28) 0) (iA K 10 (fun _ => 0)) (zA K 10 (fun _ => 0)) ∧ X3 g (X + 31) (grO (X + 31) 0 0 0 0) (iA K 32 (fun _ => 0)) (iA K 32 (fun _ => 0)) ∧ X3 g (X + 34) (plO (X + 34) (X + 31) 0 0 0) (iA K 1024 (fun _ => 0)) (iA K 1024 (fun _ => 0)) ∧ g.2 (X + 37) = some (diO 0) ∧ g.2 (X + 38) = some (zA K 201 (fun _ => 0)))) 26 [some (.ref X)] [] h := by
  refine xr_al0 dX11_init_26 ?_
  refine xr_new (rc' := 33) (rs' := 2660) (fs := [.null, .null, .int 0, .int 0, .int 0, .int 0, .int 0, .int 0, .int 0]) clX3 wX11_23 wi_X3 wz_X3 (def_X3) rfl rfl dX11_init_27 ?_
  refine xT.nm (fun zh1 zg1 => ?_)
  have o0 := xn_ne zg1 (by omega) o0
  have q := xn_eq zg1
  rw [T] at q
  rw [T]
  have U : zh1.1 = X + 5 + 1 := by rw [xn_1 zg1, T]
  refine xr_dup dX11_init_30 rfl ?_
  refine xr_Ipv0 (i_Hill U q) kX11_25 (by decide) (Nat.le_of_ble_eq_true rfl) (rc' := 31) (rs' := 2648) rfl rfl dX11_init_31 (fun zh2 zq2 => ?_)
  have o0 := (zq2.1.2 X (by omega)).trans o0
  refine xr_putF rfl o0 fX11_26 (Nat.le_of_ble_eq_true rfl) rfl rfl dX11_init_34 ?_
  refine xT.nm (fun zh3 zg3 => ?_)
  have o1 : zh3.2 X = some (.inr (11, [.ref (X + 1), .ref (X + 3), .ref (X + 5), .null, .null, .null, .null, .null, .null, .null, .null, .null, .null, .null, .null, .null])) := xg_eq zg3
  have T1 : zh3.1 = X + 8 := by rw [xg_1 zg3, zq2.1.1]
  refine xT.post (fun r g q0' => ?_) (nc3 T1 o1)
  obtain ⟨q0, q1, q2, q3, q4⟩ := q0'
  exact ⟨q0, q1, fun b n1 n2 => (q2 b n1 (by omega)).trans ((xg_ne zg3 n1 rfl).trans ((zq2.1.2 b (by omega)).trans (xn_ne zg1 (by omega) rfl))), q3, xHill.fr zq2.2 (fun b b1 b2 => (q2 b (by omega) (by omega)).trans (xg_ne zg3 (by omega) rfl)), q4⟩
set_option maxRecDepth 20000 in
theorem nc1 {K : xK} {B : Nat} {l : Launch} {X : Nat} {h : xH} (T : h.1 = X + 3) (o0 : h.2 X = some (.inr (11, [.ref (X + 1), .null, .null, .null, .null, .null, .null, .null, .null, .null, .null, .null, .null, .null, .null, .null]))) : xT K B l 2 RX11 true cX11_init 1 none 38 2757 36 2675 (xPv (fun g => g.1 = X + 39 ∧ (∀ b, b ≠ X → b < X + 3 → g.2 b = h.2 b) ∧ g.2 X = some (carO X) ∧ X2 g (X + 3) (nuO (X + 3) 0) (lA K 4 (fun _ => 0)) ∧ xHill K g (X + 5) h0s ∧ xHill K g (X + 8) h0s ∧ xHill K g (X + 11) h0s ∧ X2 g (X + 14) (paO (X + 14) 0) (rA K 12 (fun _ => none)) ∧ g.2 (X + 16) = some (rA K 2 (fun _ => none)) ∧ X3 g (X + 17) (ruO (X + 17) 0) (iA K 40 (fun _ => 0)) (iA K 40 (fun _ => 0)) ∧ X3 g (X + 20) (ruO (X + 20) 0) (iA K 40 (fun _ => 0)) (iA K 40 (fun _ => 0)) ∧ X2 g (X + 23) (rrO (X + 23) (X + 1) (X + 20) 0 0 0 0 0) (iA K 40 (fun _ => 0)) ∧ X3 g (X + 25) (heO (X + 25) 0) (iA K 12 (fun _ => 0)) (iA K 12 (fun _ => 0)) ∧ X3 g (X + 28) (siO (X + 28) 0) (iA K 10 (fun _ => 0)) (zA K 10 (fun _ => 0)) ∧ X3 g (X + 31) (grO (X + 31) 0 0 0 0) (iA K 32 (fun _ => 0)) (iA K 32 (fun _ => 0)) ∧ X3 g (X + 34) (plO (X + 34) (X + 31) 0 0 0) (iA K 1024 (fun _ => 0)) (iA K 1024 (fun _ => 0)) ∧ g.2 (X + 37) = some (diO 0) ∧ g.2 (X + 38) = some (zA K 201 (fun _ => 0)))) 15 [some (.ref X)] [] h := by
  refine xr_al0 dX11_init_15 ?_
  refine xr_new (rc' := 35) (rs' := 2673) (fs := [.null, .int 0]) clX4 wX11_16 wi_X4 wz_X4 (def_X4) rfl rfl dX11_init_16 ?_
  refine xT.nm (fun zh1 zg1 => ?_)
  have o0 := xn_ne zg1 (by omega) o0
  have q := xn_eq zg1
  rw [T] at q
  rw [T]
  have U : zh1.1 = X + 3 + 1 := by rw [xn_1 zg1, T]
  refine xr_dup dX11_init_19 rfl ?_
  refine xr_Ipv0 (i_Numbers U q) kX11_18 (by decide) (Nat.le_of_ble_eq_true rfl) (rc' := 34) (rs' := 2669) rfl rfl dX11_init_20 (fun zh2 zq2 => ?_)
  have o0 := (zq2.1.2 X (by omega)).trans o0
  refine xr_putF rfl o0 fX11_19 (Nat.le_of_ble_eq_true rfl) rfl rfl dX11_init_23 ?_
  refine xT.nm (fun zh3 zg3 => ?_)
  have o1 : zh3.2 X = some (.inr (11, [.ref (X + 1), .ref (X + 3), .null, .null, .null, .null, .null, .null, .null, .null, .null, .null, .null, .null, .null, .null])) := xg_eq zg3
  have T1 : zh3.1 = X + 5 := by rw [xg_1 zg3, zq2.1.1]
  refine xT.post (fun r g q0' => ?_) (nc2 T1 o1)
  obtain ⟨q0, q1, q2, q3, q4⟩ := q0'
  exact ⟨q0, q1, fun b n1 n2 => (q2 b n1 (by omega)).trans ((xg_ne zg3 n1 rfl).trans ((zq2.1.2 b (by omega)).trans (xn_ne zg1 (by omega) rfl))), q3, X2.frw zq2.2 (fun b b1 b2 => (q2 b (by omega) (by omega)).trans (xg_ne zg3 (by omega) rfl)), q4⟩
set_option maxRecDepth 20000 in
theorem nc0 {K : xK} {B : Nat} {l : Launch} {X : Nat} {h : xH} (T : h.1 = X + 1) (o0 : h.2 X = some (.inr (11, [.null, .null, .null, .null, .null, .null, .null, .null, .null, .null, .null, .null, .null, .null, .null, .null]))) : xT K B l 2 RX11 true cX11_init 1 none 38 2757 38 2757 (xPv (fun g => g.1 = X + 39 ∧ (∀ b, b ≠ X → b < X + 1 → g.2 b = h.2 b) ∧ g.2 X = some (carO X) ∧ X2 g (X + 1) (slO (X + 1) 0) (iA K 80 (fun _ => 0)) ∧ X2 g (X + 3) (nuO (X + 3) 0) (lA K 4 (fun _ => 0)) ∧ xHill K g (X + 5) h0s ∧ xHill K g (X + 8) h0s ∧ xHill K g (X + 11) h0s ∧ X2 g (X + 14) (paO (X + 14) 0) (rA K 12 (fun _ => none)) ∧ g.2 (X + 16) = some (rA K 2 (fun _ => none)) ∧ X3 g (X + 17) (ruO (X + 17) 0) (iA K 40 (fun _ => 0)) (iA K 40 (fun _ => 0)) ∧ X3 g (X + 20) (ruO (X + 20) 0) (iA K 40 (fun _ => 0)) (iA K 40 (fun _ => 0)) ∧ X2 g (X + 23) (rrO (X + 23) (X + 1) (X + 20) 0 0 0 0 0) (iA K 40 (fun _ => 0)) ∧ X3 g (X + 25) (heO (X + 25) 0) (iA K 12 (fun _ => 0)) (iA K 12 (fun _ => 0)) ∧ X3 g (X + 28) (siO (X + 28) 0) (iA K 10 (fun _ => 0)) (zA K 10 (fun _ => 0)) ∧ X3 g (X + 31) (grO (X + 31) 0 0 0 0) (iA K 32 (fun _ => 0)) (iA K 32 (fun _ => 0)) ∧ X3 g (X + 34) (plO (X + 34) (X + 31) 0 0 0) (iA K 1024 (fun _ => 0)) (iA K 1024 (fun _ => 0)) ∧ g.2 (X + 37) = some (diO 0) ∧ g.2 (X + 38) = some (zA K 201 (fun _ => 0)))) 4 [some (.ref X)] [] h := by
  refine xr_al0 dX11_init_4 ?_
  refine xr_new (rc' := 37) (rs' := 2755) (fs := [.null, .int 0]) clX10 wX11_9 wi_X10 wz_X10 (def_X10) rfl rfl dX11_init_5 ?_
  refine xT.nm (fun zh1 zg1 => ?_)
  have o0 := xn_ne zg1 (by omega) o0
  have q := xn_eq zg1
  rw [T] at q
  rw [T]
  have U : zh1.1 = X + 1 + 1 := by rw [xn_1 zg1, T]
  refine xr_dup dX11_init_8 rfl ?_
  refine xr_Ipv0 (i_Slip U q) kX11_11 (by decide) (Nat.le_of_ble_eq_true rfl) (rc' := 36) (rs' := 2675) rfl rfl dX11_init_9 (fun zh2 zq2 => ?_)
  have o0 := (zq2.1.2 X (by omega)).trans o0
  refine xr_putF rfl o0 fX11_12 (Nat.le_of_ble_eq_true rfl) rfl rfl dX11_init_12 ?_
  refine xT.nm (fun zh3 zg3 => ?_)
  have o1 : zh3.2 X = some (.inr (11, [.ref (X + 1), .null, .null, .null, .null, .null, .null, .null, .null, .null, .null, .null, .null, .null, .null, .null])) := xg_eq zg3
  have T1 : zh3.1 = X + 3 := by rw [xg_1 zg3, zq2.1.1]
  refine xT.post (fun r g q0' => ?_) (nc1 T1 o1)
  obtain ⟨q0, q1, q2, q3, q4⟩ := q0'
  exact ⟨q0, q1, fun b n1 n2 => (q2 b n1 (by omega)).trans ((xg_ne zg3 n1 rfl).trans ((zq2.1.2 b (by omega)).trans (xn_ne zg1 (by omega) rfl))), q3, X2.frw zq2.2 (fun b b1 b2 => (q2 b (by omega) (by omega)).trans (xg_ne zg3 (by omega) rfl)), q4⟩
set_option maxRecDepth 20000 in
theorem i_CarN {K : xK} {B : Nat} {l : Launch} {h : xH} {X : Nat} (T : h.1 = X + 1) (o0 : h.2 X = some (.inr (11, [.null, .null, .null, .null, .null, .null, .null, .null, .null, .null, .null, .null, .null, .null, .null, .null]))) : xN K B l 2 mX11_init 38 2757 (X) [] h (xPv (fun g => g.1 = X + 39 ∧ (∀ b, b ≠ X → b < X + 1 → g.2 b = h.2 b) ∧ g.2 X = some (carO X) ∧ X2 g (X + 1) (slO (X + 1) 0) (iA K 80 (fun _ => 0)) ∧ X2 g (X + 3) (nuO (X + 3) 0) (lA K 4 (fun _ => 0)) ∧ xHill K g (X + 5) h0s ∧ xHill K g (X + 8) h0s ∧ xHill K g (X + 11) h0s ∧ X2 g (X + 14) (paO (X + 14) 0) (rA K 12 (fun _ => none)) ∧ g.2 (X + 16) = some (rA K 2 (fun _ => none)) ∧ X3 g (X + 17) (ruO (X + 17) 0) (iA K 40 (fun _ => 0)) (iA K 40 (fun _ => 0)) ∧ X3 g (X + 20) (ruO (X + 20) 0) (iA K 40 (fun _ => 0)) (iA K 40 (fun _ => 0)) ∧ X2 g (X + 23) (rrO (X + 23) (X + 1) (X + 20) 0 0 0 0 0) (iA K 40 (fun _ => 0)) ∧ X3 g (X + 25) (heO (X + 25) 0) (iA K 12 (fun _ => 0)) (iA K 12 (fun _ => 0)) ∧ X3 g (X + 28) (siO (X + 28) 0) (iA K 10 (fun _ => 0)) (zA K 10 (fun _ => 0)) ∧ X3 g (X + 31) (grO (X + 31) 0 0 0 0) (iA K 32 (fun _ => 0)) (iA K 32 (fun _ => 0)) ∧ X3 g (X + 34) (plO (X + 34) (X + 31) 0 0 0) (iA K 1024 (fun _ => 0)) (iA K 1024 (fun _ => 0)) ∧ g.2 (X + 37) = some (diO 0) ∧ g.2 (X + 38) = some (zA K 201 (fun _ => 0)))) := by
  refine ⟨qX11_init, ?_⟩
  refine xS.intro RX11 true ⟨rfl, rfl, by decide, by decide, Nat.le_of_ble_eq_true rfl⟩ (ls := [some (.ref X)]) rfl ?_
  refine xr_al0 dX11_init_0 ?_
  refine xr_objInit koX11_3 oi oc (by decide) (Nat.le_of_ble_eq_true rfl) dX11_init_1 ?_
  exact nc0 T o0
/-- the world of a new CliffCars, once the room up to D is laid out -/
theorem car0 {K : xK} {g : xH} {X D : Nat} (hD : X + 39 ≤ D) (hg : D ≤ g.1) (H : g.2 X = some (carO X) ∧ X2 g (X + 1) (slO (X + 1) 0) (iA K 80 (fun _ => 0)) ∧ X2 g (X + 3) (nuO (X + 3) 0) (lA K 4 (fun _ => 0)) ∧ xHill K g (X + 5) h0s ∧ xHill K g (X + 8) h0s ∧ xHill K g (X + 11) h0s ∧ X2 g (X + 14) (paO (X + 14) 0) (rA K 12 (fun _ => none)) ∧ g.2 (X + 16) = some (rA K 2 (fun _ => none)) ∧ X3 g (X + 17) (ruO (X + 17) 0) (iA K 40 (fun _ => 0)) (iA K 40 (fun _ => 0)) ∧ X3 g (X + 20) (ruO (X + 20) 0) (iA K 40 (fun _ => 0)) (iA K 40 (fun _ => 0)) ∧ X2 g (X + 23) (rrO (X + 23) (X + 1) (X + 20) 0 0 0 0 0) (iA K 40 (fun _ => 0)) ∧ X3 g (X + 25) (heO (X + 25) 0) (iA K 12 (fun _ => 0)) (iA K 12 (fun _ => 0)) ∧ X3 g (X + 28) (siO (X + 28) 0) (iA K 10 (fun _ => 0)) (zA K 10 (fun _ => 0)) ∧ X3 g (X + 31) (grO (X + 31) 0 0 0 0) (iA K 32 (fun _ => 0)) (iA K 32 (fun _ => 0)) ∧ X3 g (X + 34) (plO (X + 34) (X + 31) 0 0 0) (iA K 1024 (fun _ => 0)) (iA K 1024 (fun _ => 0)) ∧ g.2 (X + 37) = some (diO 0) ∧ g.2 (X + 38) = some (zA K 201 (fun _ => 0))) : xCw K g g X D 0 (fun _ => 0) 0 (fun _ => 0) h0s h0s h0s 0 (fun _ => h0s) (fun _ => false) (fun _ => h0s) (fun _ => 3) 0 (fun _ => 0) (fun _ => 0) 0 (fun _ => 0) (fun _ => 0) := by
  obtain ⟨o0, D0, D1, D2, D3, D4, D5, D6, D7, D8, D9, D10, D11, D12, D13, D14, D15⟩ := H
  exact ⟨o0, D0, D1, D2, D3, D4, ⟨0, fun _ => 0, fun _ => 0, fun _ => h0s, ⟨⟨D5.1, by rw [pf_0]; exact D5.2⟩, Nat.le_refl _, by decide, by omega, fun i hi => absurd hi (by omega), fun i j hi => absurd hi (by omega), fun i hi => absurd hi (by omega)⟩, fun i hi => absurd hi (by omega), D6, fun i hi q => Bool.noConfusion q, fun q => Bool.noConfusion q⟩, ⟨0, fun _ => 0, fun _ => 0, by decide, D7, fun _ _ => rfl⟩, ⟨[], _, _, D8, trivial⟩, ⟨[], 0, 0, 0, 0, _, D9, trivial⟩, D10, D11, ⟨_, _, _, _, _, _, D12⟩, ⟨_, _, _, _, _, D13⟩, ⟨_, D14⟩, ⟨_, D15⟩, hD, hg, by decide, hOk_0, fun i hi => absurd hi (by omega), fun i hi q => Bool.noConfusion q, ⟨by decide, fun i hi => absurd hi (by omega)⟩, by decide, fun _ _ _ => rfl⟩
