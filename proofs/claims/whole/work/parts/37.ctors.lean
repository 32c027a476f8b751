/-! Constructors (written by wip/whole/ctor.py) -/
def nW (h g : xH) (a k : Nat) : Prop := g.1 = a + k ∧ ∀ b, b < a → g.2 b = h.2 b
theorem pf_0 (p : Nat → Nat) : pf p 0 = fun _ => none := by
  funext i
  unfold pf
  rw [if_neg (by omega)]
set_option maxRecDepth 20000 in
theorem i_Dice {K : xK} {B : Nat} {l : Launch} {h : xH} {a : Nat} (ha : h.1 = a + 1) (o0 : h.2 a = some (.inr (0, [.int 0]))) : xN K B l 1 mX0_init 0 0 (a) [] h (xPv (fun g => nW h g a 1 ∧ g.2 a = some (diO 0))) := by
  refine ⟨qX0_init, ?_⟩
  refine xS.intro RX0 true ⟨rfl, rfl, by decide, by decide, Nat.le_of_ble_eq_true rfl⟩ (ls := [some (.ref a)]) rfl ?_
  refine xr_al0 dX0_init_0 ?_
  refine xr_objInit koX0_1 oi oc (by decide) (Nat.le_of_ble_eq_true rfl) dX0_init_1 ?_
  refine xr_vret dX0_init_4 rfl ?_
  exact ⟨rfl, ⟨ha, fun _ _ => rfl⟩, o0⟩
set_option maxRecDepth 20000 in
theorem i_Slip {K : xK} {B : Nat} {l : Launch} {h : xH} {a : Nat} (ha : h.1 = a + 1) (o0 : h.2 a = some (.inr (10, [.null, .int 0]))) : xN K B l 1 mX10_init 1 80 (a) [] h (xPv (fun g => nW h g a 2 ∧ X2 g a (slO a 0) (iA K 80 (fun _ => 0)))) := by
  refine ⟨qX10_init, ?_⟩
  refine xS.intro RX10 true ⟨rfl, rfl, by decide, by decide, Nat.le_of_ble_eq_true rfl⟩ (ls := [some (.ref a)]) rfl ?_
  refine xr_al0 dX10_init_0 ?_
  refine xr_objInit koX10_1 oi oc (by decide) (Nat.le_of_ble_eq_true rfl) dX10_init_1 ?_
  refine xr_al0 dX10_init_4 ?_
  refine xr_bipush (v := 80) dX10_init_5 (by decide) ?_
  refine xr_newi (rc' := 0) (rs' := 0) (N := 80) wa_int (by decide) (by decide) (by decide) rfl rfl dX10_init_7 ?_
  refine xT.nm (fun zh1 zg1 => ?_)
  have o0 := xn_ne zg1 (by (try have := xg_1 zg2); (try have := xn_1 zg1); omega) o0
  have o1 := xn_eq zg1
  rw [ha] at o1
  have e1 := xn_1 zg1
  rw [ha]
  refine xr_putF rfl o0 fX10_9 (Nat.le_of_ble_eq_true rfl) rfl rfl dX10_init_9 ?_
  refine xT.nm (fun zh2 zg2 => ?_)
  have o0 := xg_eq zg2
  have o1 := xg_ne zg2 (by omega) o1
  refine xr_vret dX10_init_12 rfl ?_
  exact ⟨rfl, ⟨by rw [xg_1 zg2, e1]; omega, fun b hb => (xg_ne zg2 (by omega) rfl).trans ((xn_ne zg1 (by omega) rfl))⟩, o0, o1⟩
set_option maxRecDepth 20000 in
theorem i_Numbers {K : xK} {B : Nat} {l : Launch} {h : xH} {a : Nat} (ha : h.1 = a + 1) (o0 : h.2 a = some (.inr (4, [.null, .int 0]))) : xN K B l 1 mX4_init 1 4 (a) [] h (xPv (fun g => nW h g a 2 ∧ X2 g a (nuO a 0) (lA K 4 (fun _ => 0)))) := by
  refine ⟨qX4_init, ?_⟩
  refine xS.intro RX4 true ⟨rfl, rfl, by decide, by decide, Nat.le_of_ble_eq_true rfl⟩ (ls := [some (.ref a)]) rfl ?_
  refine xr_al0 dX4_init_0 ?_
  refine xr_objInit koX4_1 oi oc (by decide) (Nat.le_of_ble_eq_true rfl) dX4_init_1 ?_
  refine xr_al0 dX4_init_4 ?_
  refine xr_ic4 dX4_init_5 ?_
  refine xr_newl (rc' := 0) (rs' := 0) (N := 4) wa_long (by decide) (by decide) (by decide) rfl rfl dX4_init_6 ?_
  refine xT.nm (fun zh1 zg1 => ?_)
  have o0 := xn_ne zg1 (by (try have := xg_1 zg2); (try have := xn_1 zg1); omega) o0
  have o1 := xn_eq zg1
  rw [ha] at o1
  have e1 := xn_1 zg1
  rw [ha]
  refine xr_putF rfl o0 fX4_7 (Nat.le_of_ble_eq_true rfl) rfl rfl dX4_init_8 ?_
  refine xT.nm (fun zh2 zg2 => ?_)
  have o0 := xg_eq zg2
  have o1 := xg_ne zg2 (by omega) o1
  refine xr_vret dX4_init_11 rfl ?_
  exact ⟨rfl, ⟨by rw [xg_1 zg2, e1]; omega, fun b hb => (xg_ne zg2 (by omega) rfl).trans ((xn_ne zg1 (by omega) rfl))⟩, o0, o1⟩
set_option maxRecDepth 20000 in
theorem i_Past {K : xK} {B : Nat} {l : Launch} {h : xH} {a : Nat} (ha : h.1 = a + 1) (o0 : h.2 a = some (.inr (5, [.null, .int 0]))) : xN K B l 1 mX5_init 1 12 (a) [] h (xPv (fun g => nW h g a 2 ∧ X2 g a (paO a 0) (rA K 12 (fun _ => none)))) := by
  refine ⟨qX5_init, ?_⟩
  refine xS.intro RX5 true ⟨rfl, rfl, by decide, by decide, Nat.le_of_ble_eq_true rfl⟩ (ls := [some (.ref a)]) rfl ?_
  refine xr_al0 dX5_init_0 ?_
  refine xr_objInit koX5_1 oi oc (by decide) (Nat.le_of_ble_eq_true rfl) dX5_init_1 ?_
  refine xr_al0 dX5_init_4 ?_
  refine xr_bipush (v := 12) dX5_init_5 (by decide) ?_
  refine xr_anew (rc' := 0) (rs' := 0) (N := 12) wX5_9 wo_Hill (by decide) (by decide) (by decide) rfl rfl dX5_init_7 ?_
  refine xT.nm (fun zh1 zg1 => ?_)
  have o0 := xn_ne zg1 (by (try have := xg_1 zg2); (try have := xn_1 zg1); omega) o0
  have o1 := xn_eq zg1
  rw [ha] at o1
  have e1 := xn_1 zg1
  rw [ha]
  refine xr_putF rfl o0 fX5_11 (Nat.le_of_ble_eq_true rfl) rfl rfl dX5_init_10 ?_
  refine xT.nm (fun zh2 zg2 => ?_)
  have o0 := xg_eq zg2
  have o1 := xg_ne zg2 (by omega) o1
  refine xr_vret dX5_init_13 rfl ?_
  exact ⟨rfl, ⟨by rw [xg_1 zg2, e1]; omega, fun b hb => (xg_ne zg2 (by omega) rfl).trans ((xn_ne zg1 (by omega) rfl))⟩, o0, o1⟩
set_option maxRecDepth 20000 in
theorem i_Groups {K : xK} {B : Nat} {l : Launch} {h : xH} {a : Nat} (ha : h.1 = a + 1) (o0 : h.2 a = some (.inr (1, [.null, .null, .int 0, .int 0, .int 0, .int 0]))) : xN K B l 1 mX1_init 2 64 (a) [] h (xPv (fun g => nW h g a 3 ∧ X3 g a (grO a 0 0 0 0) (iA K 32 (fun _ => 0)) (iA K 32 (fun _ => 0)))) := by
  refine ⟨qX1_init, ?_⟩
  refine xS.intro RX1 true ⟨rfl, rfl, by decide, by decide, Nat.le_of_ble_eq_true rfl⟩ (ls := [some (.ref a)]) rfl ?_
  refine xr_al0 dX1_init_0 ?_
  refine xr_objInit koX1_3 oi oc (by decide) (Nat.le_of_ble_eq_true rfl) dX1_init_1 ?_
  refine xr_al0 dX1_init_4 ?_
  refine xr_bipush (v := 32) dX1_init_5 (by decide) ?_
  refine xr_newi (rc' := 1) (rs' := 32) (N := 32) wa_int (by decide) (by decide) (by decide) rfl rfl dX1_init_7 ?_
  refine xT.nm (fun zh1 zg1 => ?_)
  have o0 := xn_ne zg1 (by (try have := xg_1 zg2); (try have := xn_1 zg1); omega) o0
  have o1 := xn_eq zg1
  rw [ha] at o1
  have e1 := xn_1 zg1
  rw [ha]
  refine xr_putF rfl o0 fX1_9 (Nat.le_of_ble_eq_true rfl) rfl rfl dX1_init_9 ?_
  refine xT.nm (fun zh2 zg2 => ?_)
  have o0 := xg_eq zg2
  have o1 := xg_ne zg2 (by omega) o1
  refine xr_al0 dX1_init_12 ?_
  refine xr_bipush (v := 32) dX1_init_13 (by decide) ?_
  refine xr_newi (rc' := 0) (rs' := 0) (N := 32) wa_int (by decide) (by decide) (by decide) rfl rfl dX1_init_15 ?_
  refine xT.nm (fun zh3 zg3 => ?_)
  have o0 := xn_ne zg3 (by (try have := xg_1 zg2); (try have := xn_1 zg1); omega) o0
  have o1 := xn_ne zg3 (by (try have := xg_1 zg2); (try have := xn_1 zg1); omega) o1
  have o2 := xn_eq zg3
  have e3 := xn_1 zg3
  have e2 : zh2.1 = a + 2 := (xg_1 zg2).trans (e1.trans (by omega))
  rw [e2] at o2
  rw [e2]
  refine xr_putF rfl o0 fX1_15 (Nat.le_of_ble_eq_true rfl) rfl rfl dX1_init_17 ?_
  refine xT.nm (fun zh4 zg4 => ?_)
  have o0 := xg_eq zg4
  have o1 := xg_ne zg4 (by omega) o1
  have o2 := xg_ne zg4 (by omega) o2
  refine xr_vret dX1_init_20 rfl ?_
  exact ⟨rfl, ⟨by rw [xg_1 zg4, e3]; omega, fun b hb => (xg_ne zg4 (by omega) rfl).trans ((xn_ne zg3 (by omega) rfl).trans ((xg_ne zg2 (by omega) rfl).trans ((xn_ne zg1 (by omega) rfl))))⟩, o0, o1, o2⟩
set_option maxRecDepth 20000 in
theorem i_Hearsay {K : xK} {B : Nat} {l : Launch} {h : xH} {a : Nat} (ha : h.1 = a + 1) (o0 : h.2 a = some (.inr (2, [.null, .null, .int 0]))) : xN K B l 1 mX2_init 2 24 (a) [] h (xPv (fun g => nW h g a 3 ∧ X3 g a (heO a 0) (iA K 12 (fun _ => 0)) (iA K 12 (fun _ => 0)))) := by
  refine ⟨qX2_init, ?_⟩
  refine xS.intro RX2 true ⟨rfl, rfl, by decide, by decide, Nat.le_of_ble_eq_true rfl⟩ (ls := [some (.ref a)]) rfl ?_
  refine xr_al0 dX2_init_0 ?_
  refine xr_objInit koX2_3 oi oc (by decide) (Nat.le_of_ble_eq_true rfl) dX2_init_1 ?_
  refine xr_al0 dX2_init_4 ?_
  refine xr_bipush (v := 12) dX2_init_5 (by decide) ?_
  refine xr_newi (rc' := 1) (rs' := 12) (N := 12) wa_int (by decide) (by decide) (by decide) rfl rfl dX2_init_7 ?_
  refine xT.nm (fun zh1 zg1 => ?_)
  have o0 := xn_ne zg1 (by (try have := xg_1 zg2); (try have := xn_1 zg1); omega) o0
  have o1 := xn_eq zg1
  rw [ha] at o1
  have e1 := xn_1 zg1
  rw [ha]
  refine xr_putF rfl o0 fX2_11 (Nat.le_of_ble_eq_true rfl) rfl rfl dX2_init_9 ?_
  refine xT.nm (fun zh2 zg2 => ?_)
  have o0 := xg_eq zg2
  have o1 := xg_ne zg2 (by omega) o1
  refine xr_al0 dX2_init_12 ?_
  refine xr_bipush (v := 12) dX2_init_13 (by decide) ?_
  refine xr_newi (rc' := 0) (rs' := 0) (N := 12) wa_int (by decide) (by decide) (by decide) rfl rfl dX2_init_15 ?_
  refine xT.nm (fun zh3 zg3 => ?_)
  have o0 := xn_ne zg3 (by (try have := xg_1 zg2); (try have := xn_1 zg1); omega) o0
  have o1 := xn_ne zg3 (by (try have := xg_1 zg2); (try have := xn_1 zg1); omega) o1
  have o2 := xn_eq zg3
  have e3 := xn_1 zg3
  have e2 : zh2.1 = a + 2 := (xg_1 zg2).trans (e1.trans (by omega))
  rw [e2] at o2
  rw [e2]
  refine xr_putF rfl o0 fX2_15 (Nat.le_of_ble_eq_true rfl) rfl rfl dX2_init_17 ?_
  refine xT.nm (fun zh4 zg4 => ?_)
  have o0 := xg_eq zg4
  have o1 := xg_ne zg4 (by omega) o1
  have o2 := xg_ne zg4 (by omega) o2
  refine xr_vret dX2_init_20 rfl ?_
  exact ⟨rfl, ⟨by rw [xg_1 zg4, e3]; omega, fun b hb => (xg_ne zg4 (by omega) rfl).trans ((xn_ne zg3 (by omega) rfl).trans ((xg_ne zg2 (by omega) rfl).trans ((xn_ne zg1 (by omega) rfl))))⟩, o0, o1, o2⟩
set_option maxRecDepth 20000 in
theorem i_Rule {K : xK} {B : Nat} {l : Launch} {h : xH} {a : Nat} (ha : h.1 = a + 1) (o0 : h.2 a = some (.inr (7, [.null, .null, .int 0]))) : xN K B l 1 mX7_init 2 80 (a) [] h (xPv (fun g => nW h g a 3 ∧ X3 g a (ruO a 0) (iA K 40 (fun _ => 0)) (iA K 40 (fun _ => 0)))) := by
  refine ⟨qX7_init, ?_⟩
  refine xS.intro RX7 true ⟨rfl, rfl, by decide, by decide, Nat.le_of_ble_eq_true rfl⟩ (ls := [some (.ref a)]) rfl ?_
  refine xr_al0 dX7_init_0 ?_
  refine xr_objInit koX7_3 oi oc (by decide) (Nat.le_of_ble_eq_true rfl) dX7_init_1 ?_
  refine xr_al0 dX7_init_4 ?_
  refine xr_bipush (v := 40) dX7_init_5 (by decide) ?_
  refine xr_newi (rc' := 1) (rs' := 40) (N := 40) wa_int (by decide) (by decide) (by decide) rfl rfl dX7_init_7 ?_
  refine xT.nm (fun zh1 zg1 => ?_)
  have o0 := xn_ne zg1 (by (try have := xg_1 zg2); (try have := xn_1 zg1); omega) o0
  have o1 := xn_eq zg1
  rw [ha] at o1
  have e1 := xn_1 zg1
  rw [ha]
  refine xr_putF rfl o0 fX7_11 (Nat.le_of_ble_eq_true rfl) rfl rfl dX7_init_9 ?_
  refine xT.nm (fun zh2 zg2 => ?_)
  have o0 := xg_eq zg2
  have o1 := xg_ne zg2 (by omega) o1
  refine xr_al0 dX7_init_12 ?_
  refine xr_bipush (v := 40) dX7_init_13 (by decide) ?_
  refine xr_newi (rc' := 0) (rs' := 0) (N := 40) wa_int (by decide) (by decide) (by decide) rfl rfl dX7_init_15 ?_
  refine xT.nm (fun zh3 zg3 => ?_)
  have o0 := xn_ne zg3 (by (try have := xg_1 zg2); (try have := xn_1 zg1); omega) o0
  have o1 := xn_ne zg3 (by (try have := xg_1 zg2); (try have := xn_1 zg1); omega) o1
  have o2 := xn_eq zg3
  have e3 := xn_1 zg3
  have e2 : zh2.1 = a + 2 := (xg_1 zg2).trans (e1.trans (by omega))
  rw [e2] at o2
  rw [e2]
  refine xr_putF rfl o0 fX7_15 (Nat.le_of_ble_eq_true rfl) rfl rfl dX7_init_17 ?_
  refine xT.nm (fun zh4 zg4 => ?_)
  have o0 := xg_eq zg4
  have o1 := xg_ne zg4 (by omega) o1
  have o2 := xg_ne zg4 (by omega) o2
  refine xr_vret dX7_init_20 rfl ?_
  exact ⟨rfl, ⟨by rw [xg_1 zg4, e3]; omega, fun b hb => (xg_ne zg4 (by omega) rfl).trans ((xn_ne zg3 (by omega) rfl).trans ((xg_ne zg2 (by omega) rfl).trans ((xn_ne zg1 (by omega) rfl))))⟩, o0, o1, o2⟩
set_option maxRecDepth 20000 in
theorem i_Sightings {K : xK} {B : Nat} {l : Launch} {h : xH} {a : Nat} (ha : h.1 = a + 1) (o0 : h.2 a = some (.inr (9, [.null, .null, .int 0]))) : xN K B l 1 mX9_init 2 20 (a) [] h (xPv (fun g => nW h g a 3 ∧ X3 g a (siO a 0) (iA K 10 (fun _ => 0)) (zA K 10 (fun _ => 0)))) := by
  refine ⟨qX9_init, ?_⟩
  refine xS.intro RX9 true ⟨rfl, rfl, by decide, by decide, Nat.le_of_ble_eq_true rfl⟩ (ls := [some (.ref a)]) rfl ?_
  refine xr_al0 dX9_init_0 ?_
  refine xr_objInit koX9_3 oi oc (by decide) (Nat.le_of_ble_eq_true rfl) dX9_init_1 ?_
  refine xr_al0 dX9_init_4 ?_
  refine xr_bipush (v := 10) dX9_init_5 (by decide) ?_
  refine xr_newi (rc' := 1) (rs' := 10) (N := 10) wa_int (by decide) (by decide) (by decide) rfl rfl dX9_init_7 ?_
  refine xT.nm (fun zh1 zg1 => ?_)
  have o0 := xn_ne zg1 (by (try have := xg_1 zg2); (try have := xn_1 zg1); omega) o0
  have o1 := xn_eq zg1
  rw [ha] at o1
  have e1 := xn_1 zg1
  rw [ha]
  refine xr_putF rfl o0 fX9_9 (Nat.le_of_ble_eq_true rfl) rfl rfl dX9_init_9 ?_
  refine xT.nm (fun zh2 zg2 => ?_)
  have o0 := xg_eq zg2
  have o1 := xg_ne zg2 (by omega) o1
  refine xr_al0 dX9_init_12 ?_
  refine xr_bipush (v := 10) dX9_init_13 (by decide) ?_
  refine xr_newz (rc' := 0) (rs' := 0) (N := 10) wa_boolean (by decide) (by decide) (by decide) rfl rfl dX9_init_15 ?_
  refine xT.nm (fun zh3 zg3 => ?_)
  have o0 := xn_ne zg3 (by (try have := xg_1 zg2); (try have := xn_1 zg1); omega) o0
  have o1 := xn_ne zg3 (by (try have := xg_1 zg2); (try have := xn_1 zg1); omega) o1
  have o2 := xn_eq zg3
  have e3 := xn_1 zg3
  have e2 : zh2.1 = a + 2 := (xg_1 zg2).trans (e1.trans (by omega))
  rw [e2] at o2
  rw [e2]
  refine xr_putF rfl o0 fX9_13 (Nat.le_of_ble_eq_true rfl) rfl rfl dX9_init_17 ?_
  refine xT.nm (fun zh4 zg4 => ?_)
  have o0 := xg_eq zg4
  have o1 := xg_ne zg4 (by omega) o1
  have o2 := xg_ne zg4 (by omega) o2
  refine xr_vret dX9_init_20 rfl ?_
  exact ⟨rfl, ⟨by rw [xg_1 zg4, e3]; omega, fun b hb => (xg_ne zg4 (by omega) rfl).trans ((xn_ne zg3 (by omega) rfl).trans ((xg_ne zg2 (by omega) rfl).trans ((xn_ne zg1 (by omega) rfl))))⟩, o0, o1, o2⟩
set_option maxRecDepth 20000 in
theorem i_Plan {K : xK} {B : Nat} {l : Launch} {h : xH} {a : Nat} (ha : h.1 = a + 1) {t : Nat} (o0 : h.2 a = some (.inr (6, [.null, .null, .null, .int 0, .int 0, .int 0]))) : xN K B l 1 mX6_init 2 2048 (a) [.ref t] h (xPv (fun g => nW h g a 3 ∧ X3 g a (plO a t 0 0 0) (iA K 1024 (fun _ => 0)) (iA K 1024 (fun _ => 0)))) := by
  refine ⟨qX6_init, ?_⟩
  refine xS.intro RX6 true ⟨rfl, rfl, by decide, by decide, Nat.le_of_ble_eq_true rfl⟩ (ls := [some (.ref a), some (.ref t)]) rfl ?_
  refine xr_al0 dX6_init_0 ?_
  refine xr_objInit koX6_3 oi oc (by decide) (Nat.le_of_ble_eq_true rfl) dX6_init_1 ?_
  refine xr_al0 dX6_init_4 ?_
  refine xr_sipush (v := 1024) dX6_init_5 (by decide) ?_
  refine xr_newi (rc' := 1) (rs' := 1024) (N := 1024) wa_int (by decide) (by decide) (by decide) rfl rfl dX6_init_8 ?_
  refine xT.nm (fun zh1 zg1 => ?_)
  have o0 := xn_ne zg1 (by (try have := xg_1 zg2); (try have := xn_1 zg1); omega) o0
  have o1 := xn_eq zg1
  rw [ha] at o1
  have e1 := xn_1 zg1
  rw [ha]
  refine xr_putF rfl o0 fX6_9 (Nat.le_of_ble_eq_true rfl) rfl rfl dX6_init_10 ?_
  refine xT.nm (fun zh2 zg2 => ?_)
  have o0 := xg_eq zg2
  have o1 := xg_ne zg2 (by omega) o1
  refine xr_al0 dX6_init_13 ?_
  refine xr_sipush (v := 1024) dX6_init_14 (by decide) ?_
  refine xr_newi (rc' := 0) (rs' := 0) (N := 1024) wa_int (by decide) (by decide) (by decide) rfl rfl dX6_init_17 ?_
  refine xT.nm (fun zh3 zg3 => ?_)
  have o0 := xn_ne zg3 (by (try have := xg_1 zg2); (try have := xn_1 zg1); omega) o0
  have o1 := xn_ne zg3 (by (try have := xg_1 zg2); (try have := xn_1 zg1); omega) o1
  have o2 := xn_eq zg3
  have e3 := xn_1 zg3
  have e2 : zh2.1 = a + 2 := (xg_1 zg2).trans (e1.trans (by omega))
  rw [e2] at o2
  rw [e2]
  refine xr_putF rfl o0 fX6_15 (Nat.le_of_ble_eq_true rfl) rfl rfl dX6_init_19 ?_
  refine xT.nm (fun zh4 zg4 => ?_)
  have o0 := xg_eq zg4
  have o1 := xg_ne zg4 (by omega) o1
  have o2 := xg_ne zg4 (by omega) o2
  refine xr_al0 dX6_init_22 ?_
  refine xr_al1 dX6_init_23 ?_
  refine xr_putF rfl o0 fX6_18 (Nat.le_of_ble_eq_true rfl) rfl rfl dX6_init_24 ?_
  refine xT.nm (fun zh5 zg5 => ?_)
  have o0 := xg_eq zg5
  have o1 := xg_ne zg5 (by omega) o1
  have o2 := xg_ne zg5 (by omega) o2
  refine xr_vret dX6_init_27 rfl ?_
  exact ⟨rfl, ⟨by rw [xg_1 zg5, xg_1 zg4, e3]; omega, fun b hb => (xg_ne zg5 (by omega) rfl).trans ((xg_ne zg4 (by omega) rfl).trans ((xn_ne zg3 (by omega) rfl).trans ((xg_ne zg2 (by omega) rfl).trans ((xn_ne zg1 (by omega) rfl)))))⟩, o0, o1, o2⟩
set_option maxRecDepth 20000 in
theorem i_Reader {K : xK} {B : Nat} {l : Launch} {h : xH} {a : Nat} (ha : h.1 = a + 1) {t r : Nat} (o0 : h.2 a = some (.inr (8, [.null, .null, .null, .int 0, .int 0, .int 0, .int 0, .int 0]))) : xN K B l 1 mX8_init 1 40 (a) [.ref t, .ref r] h (xPv (fun g => nW h g a 2 ∧ X2 g a (rrO a t r 0 0 0 0 0) (iA K 40 (fun _ => 0)))) := by
  refine ⟨qX8_init, ?_⟩
  refine xS.intro RX8 true ⟨rfl, rfl, by decide, by decide, Nat.le_of_ble_eq_true rfl⟩ (ls := [some (.ref a), some (.ref t), some (.ref r)]) rfl ?_
  refine xr_al0 dX8_init_0 ?_
  refine xr_objInit koX8_3 oi oc (by decide) (Nat.le_of_ble_eq_true rfl) dX8_init_1 ?_
  refine xr_al0 dX8_init_4 ?_
  refine xr_bipush (v := 40) dX8_init_5 (by decide) ?_
  refine xr_newi (rc' := 0) (rs' := 0) (N := 40) wa_int (by decide) (by decide) (by decide) rfl rfl dX8_init_7 ?_
  refine xT.nm (fun zh1 zg1 => ?_)
  have o0 := xn_ne zg1 (by (try have := xg_1 zg2); (try have := xn_1 zg1); omega) o0
  have o1 := xn_eq zg1
  rw [ha] at o1
  have e1 := xn_1 zg1
  rw [ha]
  refine xr_putF rfl o0 fX8_11 (Nat.le_of_ble_eq_true rfl) rfl rfl dX8_init_9 ?_
  refine xT.nm (fun zh2 zg2 => ?_)
  have o0 := xg_eq zg2
  have o1 := xg_ne zg2 (by omega) o1
  refine xr_al0 dX8_init_12 ?_
  refine xr_al1 dX8_init_13 ?_
  refine xr_putF rfl o0 fX8_17 (Nat.le_of_ble_eq_true rfl) rfl rfl dX8_init_14 ?_
  refine xT.nm (fun zh3 zg3 => ?_)
  have o0 := xg_eq zg3
  have o1 := xg_ne zg3 (by omega) o1
  refine xr_al0 dX8_init_17 ?_
  refine xr_al2 dX8_init_18 ?_
  refine xr_putF rfl o0 fX8_21 (Nat.le_of_ble_eq_true rfl) rfl rfl dX8_init_19 ?_
  refine xT.nm (fun zh4 zg4 => ?_)
  have o0 := xg_eq zg4
  have o1 := xg_ne zg4 (by omega) o1
  refine xr_vret dX8_init_22 rfl ?_
  exact ⟨rfl, ⟨by rw [xg_1 zg4, xg_1 zg3, xg_1 zg2, e1]; omega, fun b hb => (xg_ne zg4 (by omega) rfl).trans ((xg_ne zg3 (by omega) rfl).trans ((xg_ne zg2 (by omega) rfl).trans ((xn_ne zg1 (by omega) rfl))))⟩, o0, o1⟩
theorem i_Hill {K : xK} {B : Nat} {l : Launch} {h : xH} {a : Nat} (ha : h.1 = a + 1) (o0 : h.2 a = some (.inr (3, [.null, .null, .int 0, .int 0, .int 0, .int 0, .int 0, .int 0, .int 0]))) : xN K B l 1 mX3_init 2 12 (a) [] h (xPv (fun g => nW h g a 3 ∧ xHill K g a h0s)) :=
  ⟨(s_Hill (K := K) (B := B) (l := l) ha o0).1, (s_Hill (K := K) (B := B) (l := l) ha o0).2.post (fun r g q => ⟨q.1, ⟨by rw [q.2]; rfl, fun b hb => by rw [q.2, xpH_ne _ _ _ (by omega) (by omega) (by omega)]⟩, by rw [q.2]; exact xpH_at _ _ _ _⟩)⟩
