/-! The model: the least of a group, the call (written by wip/whole/mod55.py) -/
theorem fz_id (m : xs) (t : Int32) : fz m (t, m 27, m 28) = m := by
  show upd (upd m 27 (m 27)) 28 (m 28) = m
  rw [upd_same, upd_same]
def loR (u : Nat → Nat → Int32) (m : xs) (fr x : Int32) : Int32 × Int32 × Int32 := loO (u 16) (u 14) (u 1 13) fr x 32 0 (1000000, m 27, m 28)
set_option maxRecDepth 20000 in
theorem s_mLeast {K : xK} {B : Nat} {l : Launch} {h0 h : xH} {Y : Nat} {m : Nat → Int32} {rd : Value} {ru ot : Nat} {u : Nat → Nat → Int32} {v : Nat → Int64} (W : xMw K h0 h Y m rd ru ot u v) {x : Nat} (hx : x < 1024) (fr : Int32) : xV K B l 1 mX12_leastOf 0 0 (Y) [.int (nI x), .int fr] h (xPi (fun zr g => zr = (loR u m fr (nI x)).1 ∧ xMw K h0 g Y (fz m (loR u m fr (nI x))) rd ru ot u v)) := by
  refine ⟨⟨_, _, _, _, W.o, rfl⟩, qX12_leastOf, ?_⟩
  refine xS.intro RX12 false ⟨rfl, rfl, by decide, by decide, Nat.le_of_ble_eq_true rfl⟩ (ls := [some (.ref Y), some (.int (nI x)), some (.int fr), none, none, none, none, none]) rfl ?_
  refine xr_ldcw nX12_300 dX12_leastOf_0 ?_
  refine xr_is3 dX12_leastOf_3 (by decide) rfl ?_
  refine xr_ic0 dX12_leastOf_4 ?_
  refine xr_is4 dX12_leastOf_5 (by decide) rfl ?_
  exact lp_loO hx 32 0 (z := (1000000, m 27, m 28)) (by rw [fz_id]; exact W) (by omega)
