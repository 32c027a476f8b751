/-! Words of the tables by their places; methods, fields, links (written by wip/whole/gen07.py) -/
theorem xt1 {w : Cond} {i : Nat} (h : tables_1_1[i]? = some w) (hk : xok w = true) : w ∈ xW := xW_of (List.mem_append_right _ (List.mem_append_left _ (List.mem_of_getElem? h))) hk
theorem xt2 {w : Cond} {i : Nat} (h : tables_1_2[i]? = some w) (hk : xok w = true) : w ∈ xW := xW_of (List.mem_append_right _ (List.mem_append_right _ (List.mem_append_left _ (List.mem_of_getElem? h)))) hk
theorem xt3 {w : Cond} {i : Nat} (h : tables_1_3[i]? = some w) (hk : xok w = true) : w ∈ xW := xW_of (List.mem_append_right _ (List.mem_append_right _ (List.mem_append_right _ (List.mem_append_left _ (List.mem_of_getElem? h))))) hk
theorem xt4 {w : Cond} {i : Nat} (h : tables_1_4[i]? = some w) (hk : xok w = true) : w ∈ xW := xW_of (List.mem_append_right _ (List.mem_append_right _ (List.mem_append_right _ (List.mem_append_right _ (List.mem_append_left _ (List.mem_of_getElem? h)))))) hk
theorem xt5 {w : Cond} {i : Nat} (h : tables_1_5[i]? = some w) (hk : xok w = true) : w ∈ xW := xW_of (List.mem_append_right _ (List.mem_append_right _ (List.mem_append_right _ (List.mem_append_right _ (List.mem_append_right _ (List.mem_append_left _ (List.mem_of_getElem? h))))))) hk
theorem xt6 {w : Cond} {i : Nat} (h : tables_1_6[i]? = some w) (hk : xok w = true) : w ∈ xW := xW_of (List.mem_append_right _ (List.mem_append_right _ (List.mem_append_right _ (List.mem_append_right _ (List.mem_append_right _ (List.mem_append_right _ (List.mem_append_left _ (List.mem_of_getElem? h)))))))) hk
theorem xt7 {w : Cond} {i : Nat} (h : tables_1_7[i]? = some w) (hk : xok w = true) : w ∈ xW := xW_of (List.mem_append_right _ (List.mem_append_right _ (List.mem_append_right _ (List.mem_append_right _ (List.mem_append_right _ (List.mem_append_right _ (List.mem_append_right _ (List.mem_of_getElem? h)))))))) hk
theorem xp1 {q : MethodName × Nat} {i : Nat} (h : lw_privs_1[i]? = some q) : Cond.selects q.1.cls q.1 q.1 ∈ xW := xW_pv (List.mem_append_left _ (List.mem_of_getElem? h))
theorem xp2 {q : MethodName × Nat} {i : Nat} (h : lw_privs_2[i]? = some q) : Cond.selects q.1.cls q.1 q.1 ∈ xW := xW_pv (List.mem_append_right _ (List.mem_append_left _ (List.mem_of_getElem? h)))
theorem xp3 {q : MethodName × Nat} {i : Nat} (h : lw_privs_3[i]? = some q) : Cond.selects q.1.cls q.1 q.1 ∈ xW := xW_pv (List.mem_append_right _ (List.mem_append_right _ (List.mem_append_left _ (List.mem_of_getElem? h))))
theorem xp4 {q : MethodName × Nat} {i : Nat} (h : lw_privs_4[i]? = some q) : Cond.selects q.1.cls q.1 q.1 ∈ xW := xW_pv (List.mem_append_right _ (List.mem_append_right _ (List.mem_append_right _ (List.mem_append_left _ (List.mem_of_getElem? h)))))
theorem xp5 {q : MethodName × Nat} {i : Nat} (h : lw_privs_5[i]? = some q) : Cond.selects q.1.cls q.1 q.1 ∈ xW := xW_pv (List.mem_append_right _ (List.mem_append_right _ (List.mem_append_right _ (List.mem_append_right _ (List.mem_of_getElem? h)))))
theorem lyX0 : ∀ k, k < 1 → u_lay RX0 TX0 k ∈ xW := fun k h => match k, h with
  | 0, _ => xt2 (i := 25) rfl rfl
  | n + 1, h => absurd h (by omega)
theorem clX0 : xCl 0 RX0 TX0 1 tyX0 := ⟨rfl, fun w hw => by
  obtain ⟨k, hk, rfl⟩ := List.mem_map.mp hw
  exact lyX0 k (List.mem_range.mp hk), tyX0_ok, nmX0⟩
theorem lyX1 : ∀ k, k < 6 → u_lay RX1 TX1 k ∈ xW := fun k h => match k, h with
  | 0, _ => xt1 (i := 218) rfl rfl
  | 1, _ => xt1 (i := 220) rfl rfl
  | 2, _ => xt1 (i := 222) rfl rfl
  | 3, _ => xt1 (i := 224) rfl rfl
  | 4, _ => xt1 (i := 226) rfl rfl
  | 5, _ => xt1 (i := 228) rfl rfl
  | n + 6, h => absurd h (by omega)
theorem clX1 : xCl 1 RX1 TX1 6 tyX1 := ⟨rfl, fun w hw => by
  obtain ⟨k, hk, rfl⟩ := List.mem_map.mp hw
  exact lyX1 k (List.mem_range.mp hk), tyX1_ok, nmX1⟩
theorem lyX2 : ∀ k, k < 3 → u_lay RX2 TX2 k ∈ xW := fun k h => match k, h with
  | 0, _ => xt1 (i := 177) rfl rfl
  | 1, _ => xt1 (i := 179) rfl rfl
  | 2, _ => xt1 (i := 181) rfl rfl
  | n + 3, h => absurd h (by omega)
theorem clX2 : xCl 2 RX2 TX2 3 tyX2 := ⟨rfl, fun w hw => by
  obtain ⟨k, hk, rfl⟩ := List.mem_map.mp hw
  exact lyX2 k (List.mem_range.mp hk), tyX2_ok, nmX2⟩
theorem lyX3 : ∀ k, k < 9 → u_lay RX3 TX3 k ∈ xW := fun k h => match k, h with
  | 0, _ => xt1 (i := 87) rfl rfl
  | 1, _ => xt1 (i := 89) rfl rfl
  | 2, _ => xt1 (i := 91) rfl rfl
  | 3, _ => xt1 (i := 93) rfl rfl
  | 4, _ => xt1 (i := 95) rfl rfl
  | 5, _ => xt1 (i := 97) rfl rfl
  | 6, _ => xt1 (i := 99) rfl rfl
  | 7, _ => xt1 (i := 101) rfl rfl
  | 8, _ => xt1 (i := 103) rfl rfl
  | n + 9, h => absurd h (by omega)
theorem clX3 : xCl 3 RX3 TX3 9 tyX3 := ⟨rfl, fun w hw => by
  obtain ⟨k, hk, rfl⟩ := List.mem_map.mp hw
  exact lyX3 k (List.mem_range.mp hk), tyX3_ok, nmX3⟩
theorem lyX4 : ∀ k, k < 2 → u_lay RX4 TX4 k ∈ xW := fun k h => match k, h with
  | 0, _ => xt1 (i := 53) rfl rfl
  | 1, _ => xt1 (i := 55) rfl rfl
  | n + 2, h => absurd h (by omega)
theorem clX4 : xCl 4 RX4 TX4 2 tyX4 := ⟨rfl, fun w hw => by
  obtain ⟨k, hk, rfl⟩ := List.mem_map.mp hw
  exact lyX4 k (List.mem_range.mp hk), tyX4_ok, nmX4⟩
theorem lyX5 : ∀ k, k < 2 → u_lay RX5 TX5 k ∈ xW := fun k h => match k, h with
  | 0, _ => xt1 (i := 116) rfl rfl
  | 1, _ => xt1 (i := 118) rfl rfl
  | n + 2, h => absurd h (by omega)
theorem clX5 : xCl 5 RX5 TX5 2 tyX5 := ⟨rfl, fun w hw => by
  obtain ⟨k, hk, rfl⟩ := List.mem_map.mp hw
  exact lyX5 k (List.mem_range.mp hk), tyX5_ok, nmX5⟩
theorem lyX6 : ∀ k, k < 6 → u_lay RX6 TX6 k ∈ xW := fun k h => match k, h with
  | 0, _ => xt2 (i := 5) rfl rfl
  | 1, _ => xt2 (i := 7) rfl rfl
  | 2, _ => xt2 (i := 9) rfl rfl
  | 3, _ => xt2 (i := 11) rfl rfl
  | 4, _ => xt2 (i := 13) rfl rfl
  | 5, _ => xt2 (i := 15) rfl rfl
  | n + 6, h => absurd h (by omega)
theorem clX6 : xCl 6 RX6 TX6 6 tyX6 := ⟨rfl, fun w hw => by
  obtain ⟨k, hk, rfl⟩ := List.mem_map.mp hw
  exact lyX6 k (List.mem_range.mp hk), tyX6_ok, nmX6⟩
theorem lyX7 : ∀ k, k < 3 → u_lay RX7 TX7 k ∈ xW := fun k h => match k, h with
  | 0, _ => xt1 (i := 130) rfl rfl
  | 1, _ => xt1 (i := 132) rfl rfl
  | 2, _ => xt1 (i := 134) rfl rfl
  | n + 3, h => absurd h (by omega)
theorem clX7 : xCl 7 RX7 TX7 3 tyX7 := ⟨rfl, fun w hw => by
  obtain ⟨k, hk, rfl⟩ := List.mem_map.mp hw
  exact lyX7 k (List.mem_range.mp hk), tyX7_ok, nmX7⟩
theorem lyX8 : ∀ k, k < 8 → u_lay RX8 TX8 k ∈ xW := fun k h => match k, h with
  | 0, _ => xt1 (i := 151) rfl rfl
  | 1, _ => xt1 (i := 153) rfl rfl
  | 2, _ => xt1 (i := 155) rfl rfl
  | 3, _ => xt1 (i := 157) rfl rfl
  | 4, _ => xt1 (i := 159) rfl rfl
  | 5, _ => xt1 (i := 161) rfl rfl
  | 6, _ => xt1 (i := 163) rfl rfl
  | 7, _ => xt1 (i := 165) rfl rfl
  | n + 8, h => absurd h (by omega)
theorem clX8 : xCl 8 RX8 TX8 8 tyX8 := ⟨rfl, fun w hw => by
  obtain ⟨k, hk, rfl⟩ := List.mem_map.mp hw
  exact lyX8 k (List.mem_range.mp hk), tyX8_ok, nmX8⟩
theorem lyX9 : ∀ k, k < 3 → u_lay RX9 TX9 k ∈ xW := fun k h => match k, h with
  | 0, _ => xt1 (i := 193) rfl rfl
  | 1, _ => xt1 (i := 195) rfl rfl
  | 2, _ => xt1 (i := 197) rfl rfl
  | n + 3, h => absurd h (by omega)
theorem clX9 : xCl 9 RX9 TX9 3 tyX9 := ⟨rfl, fun w hw => by
  obtain ⟨k, hk, rfl⟩ := List.mem_map.mp hw
  exact lyX9 k (List.mem_range.mp hk), tyX9_ok, nmX9⟩
theorem lyX10 : ∀ k, k < 2 → u_lay RX10 TX10 k ∈ xW := fun k h => match k, h with
  | 0, _ => xt1 (i := 39) rfl rfl
  | 1, _ => xt1 (i := 41) rfl rfl
  | n + 2, h => absurd h (by omega)
theorem clX10 : xCl 10 RX10 TX10 2 tyX10 := ⟨rfl, fun w hw => by
  obtain ⟨k, hk, rfl⟩ := List.mem_map.mp hw
  exact lyX10 k (List.mem_range.mp hk), tyX10_ok, nmX10⟩
theorem lyX11 : ∀ k, k < 16 → u_lay RX11 TX11 k ∈ xW := fun k h => match k, h with
  | 0, _ => xt2 (i := 44) rfl rfl
  | 1, _ => xt2 (i := 46) rfl rfl
  | 2, _ => xt2 (i := 48) rfl rfl
  | 3, _ => xt2 (i := 50) rfl rfl
  | 4, _ => xt2 (i := 52) rfl rfl
  | 5, _ => xt2 (i := 54) rfl rfl
  | 6, _ => xt2 (i := 56) rfl rfl
  | 7, _ => xt2 (i := 58) rfl rfl
  | 8, _ => xt2 (i := 60) rfl rfl
  | 9, _ => xt2 (i := 62) rfl rfl
  | 10, _ => xt2 (i := 64) rfl rfl
  | 11, _ => xt2 (i := 66) rfl rfl
  | 12, _ => xt2 (i := 68) rfl rfl
  | 13, _ => xt2 (i := 70) rfl rfl
  | 14, _ => xt2 (i := 72) rfl rfl
  | 15, _ => xt2 (i := 74) rfl rfl
  | n + 16, h => absurd h (by omega)
theorem clX11 : xCl 11 RX11 TX11 16 tyX11 := ⟨rfl, fun w hw => by
  obtain ⟨k, hk, rfl⟩ := List.mem_map.mp hw
  exact lyX11 k (List.mem_range.mp hk), tyX11_ok, nmX11⟩
theorem lyX12 : ∀ k, k < 40 → u_lay RX12 TX12 k ∈ xW := fun k h => match k, h with
  | 0, _ => xt5 (i := 167) rfl rfl
  | 1, _ => xt5 (i := 169) rfl rfl
  | 2, _ => xt5 (i := 171) rfl rfl
  | 3, _ => xt5 (i := 173) rfl rfl
  | 4, _ => xt5 (i := 175) rfl rfl
  | 5, _ => xt5 (i := 177) rfl rfl
  | 6, _ => xt5 (i := 179) rfl rfl
  | 7, _ => xt5 (i := 181) rfl rfl
  | 8, _ => xt5 (i := 183) rfl rfl
  | 9, _ => xt5 (i := 185) rfl rfl
  | 10, _ => xt5 (i := 187) rfl rfl
  | 11, _ => xt5 (i := 189) rfl rfl
  | 12, _ => xt5 (i := 191) rfl rfl
  | 13, _ => xt5 (i := 193) rfl rfl
  | 14, _ => xt5 (i := 195) rfl rfl
  | 15, _ => xt5 (i := 197) rfl rfl
  | 16, _ => xt5 (i := 199) rfl rfl
  | 17, _ => xt5 (i := 201) rfl rfl
  | 18, _ => xt5 (i := 203) rfl rfl
  | 19, _ => xt5 (i := 205) rfl rfl
  | 20, _ => xt5 (i := 207) rfl rfl
  | 21, _ => xt5 (i := 209) rfl rfl
  | 22, _ => xt5 (i := 211) rfl rfl
  | 23, _ => xt5 (i := 213) rfl rfl
  | 24, _ => xt5 (i := 215) rfl rfl
  | 25, _ => xt5 (i := 217) rfl rfl
  | 26, _ => xt5 (i := 219) rfl rfl
  | 27, _ => xt5 (i := 221) rfl rfl
  | 28, _ => xt5 (i := 223) rfl rfl
  | 29, _ => xt5 (i := 225) rfl rfl
  | 30, _ => xt5 (i := 227) rfl rfl
  | 31, _ => xt5 (i := 229) rfl rfl
  | 32, _ => xt5 (i := 231) rfl rfl
  | 33, _ => xt5 (i := 233) rfl rfl
  | 34, _ => xt5 (i := 235) rfl rfl
  | 35, _ => xt5 (i := 237) rfl rfl
  | 36, _ => xt5 (i := 239) rfl rfl
  | 37, _ => xt6 (i := 1) rfl rfl
  | 38, _ => xt6 (i := 3) rfl rfl
  | 39, _ => xt6 (i := 5) rfl rfl
  | n + 40, h => absurd h (by omega)
theorem clX12 : xCl 12 RX12 TX12 40 tyX12 := ⟨rfl, fun w hw => by
  obtain ⟨k, hk, rfl⟩ := List.mem_map.mp hw
  exact lyX12 k (List.mem_range.mp hk), tyX12_ok, nmX12⟩
abbrev mX0_init : xM := (yX0_init, cX0_init, 1, none)
theorem qX0_init : xMc mX0_init 0 := ⟨⟨xt2 (i := 22) rfl rfl, xt1 (i := 12) rfl rfl, ⟨by decide, by decide⟩, rfl, by decide⟩, xt2 (i := 21) rfl rfl, rfl, rfl⟩
abbrev mX0_startFrom : xM := (yX0_startFrom, cX0_startFrom, 2, none)
theorem qX0_startFrom : xMi mX0_startFrom 1 := ⟨⟨xt5 (i := 14) rfl rfl, xt1 (i := 12) rfl rfl, ⟨by decide, by decide⟩, rfl, by decide⟩, xt5 (i := 12) rfl rfl, xt5 (i := 13) rfl rfl⟩
abbrev mX0_draw : xM := (yX0_draw, cX0_draw, 2, some .int)
theorem qX0_draw : xMi mX0_draw 1 := ⟨⟨xt5 (i := 18) rfl rfl, xt1 (i := 12) rfl rfl, ⟨by decide, by decide⟩, rfl, by decide⟩, xt5 (i := 16) rfl rfl, xt5 (i := 17) rfl rfl⟩
abbrev mX1_init : xM := (yX1_init, cX1_init, 1, none)
theorem qX1_init : xMc mX1_init 0 := ⟨⟨xt1 (i := 205) rfl rfl, xt1 (i := 10) rfl rfl, ⟨by decide, by decide⟩, rfl, by decide⟩, xt1 (i := 204) rfl rfl, rfl, rfl⟩
abbrev mX1_readFrom : xM := (yX1_readFrom, cX1_readFrom, 3, none)
theorem qX1_readFrom : xMi mX1_readFrom 1 := ⟨⟨xt4 (i := 10) rfl rfl, xt1 (i := 10) rfl rfl, ⟨by decide, by decide⟩, rfl, by decide⟩, xt4 (i := 8) rfl rfl, xt4 (i := 9) rfl rfl⟩
abbrev mX1_weightAbove : xM := (yX1_weightAbove, cX1_weightAbove, 2, some .int)
theorem qX1_weightAbove : xMi mX1_weightAbove 1 := ⟨⟨xt4 (i := 24) rfl rfl, xt1 (i := 10) rfl rfl, ⟨by decide, by decide⟩, rfl, by decide⟩, xt4 (i := 22) rfl rfl, xt4 (i := 23) rfl rfl⟩
abbrev mX1_weightBelow : xM := (yX1_weightBelow, cX1_weightBelow, 2, some .int)
theorem qX1_weightBelow : xMi mX1_weightBelow 1 := ⟨⟨xt4 (i := 20) rfl rfl, xt1 (i := 10) rfl rfl, ⟨by decide, by decide⟩, rfl, by decide⟩, xt4 (i := 18) rfl rfl, xt4 (i := 19) rfl rfl⟩
abbrev mX1_mayGo : xM := (yX1_mayGo, cX1_mayGo, 3, some .boolean)
theorem qX1_mayGo : xMi mX1_mayGo 2 := ⟨⟨xt4 (i := 29) rfl rfl, xt1 (i := 10) rfl rfl, ⟨by decide, by decide⟩, rfl, by decide⟩, xt4 (i := 27) rfl rfl, xt4 (i := 28) rfl rfl⟩
abbrev mX1_waterFor : xM := (yX1_waterFor, cX1_waterFor, 3, some .int)
theorem qX1_waterFor : xMi mX1_waterFor 2 := ⟨⟨xt4 (i := 16) rfl rfl, xt1 (i := 10) rfl rfl, ⟨by decide, by decide⟩, rfl, by decide⟩, xt4 (i := 14) rfl rfl, xt4 (i := 15) rfl rfl⟩
abbrev mX2_init : xM := (yX2_init, cX2_init, 1, none)
theorem qX2_init : xMc mX2_init 0 := ⟨⟨xt1 (i := 172) rfl rfl, xt1 (i := 8) rfl rfl, ⟨by decide, by decide⟩, rfl, by decide⟩, xt1 (i := 171) rfl rfl, rfl, rfl⟩
abbrev mX2_size : xM := (yX2_size, cX2_size, 1, some .int)
theorem qX2_size : xMi mX2_size 0 := ⟨⟨xt4 (i := 131) rfl rfl, xt1 (i := 8) rfl rfl, ⟨by decide, by decide⟩, rfl, by decide⟩, xt4 (i := 129) rfl rfl, xt4 (i := 130) rfl rfl⟩
abbrev mX2_add : xM := (yX2_add, cX2_add, 3, some .boolean)
theorem qX2_add : xMi mX2_add 2 := ⟨⟨xt4 (i := 127) rfl rfl, xt1 (i := 8) rfl rfl, ⟨by decide, by decide⟩, rfl, by decide⟩, xt4 (i := 125) rfl rfl, xt4 (i := 126) rfl rfl⟩
abbrev mX2_clear : xM := (yX2_clear, cX2_clear, 2, some .int)
theorem qX2_clear : xMi mX2_clear 0 := ⟨⟨xt4 (i := 139) rfl rfl, xt1 (i := 8) rfl rfl, ⟨by decide, by decide⟩, rfl, by decide⟩, xt4 (i := 137) rfl rfl, xt4 (i := 138) rfl rfl⟩
abbrev mX2_fittingOf : xM := (yX2_fittingOf, cX2_fittingOf, 4, some .int)
theorem qX2_fittingOf : xMi mX2_fittingOf 1 := ⟨⟨xt4 (i := 147) rfl rfl, xt1 (i := 8) rfl rfl, ⟨by decide, by decide⟩, rfl, by decide⟩, xt4 (i := 145) rfl rfl, xt4 (i := 146) rfl rfl⟩
abbrev mX3_init : xM := (yX3_init, cX3_init, 1, none)
theorem qX3_init : xMc mX3_init 0 := ⟨⟨xt1 (i := 63) rfl rfl, xt1 (i := 4) rfl rfl, ⟨by decide, by decide⟩, rfl, by decide⟩, xt1 (i := 62) rfl rfl, rfl, rfl⟩
abbrev mX3_copyFrom : xM := (yX3_copyFrom, cX3_copyFrom, 2, none)
theorem qX3_copyFrom : xMi mX3_copyFrom 1 := ⟨⟨xt2 (i := 229) rfl rfl, xt1 (i := 4) rfl rfl, ⟨by decide, by decide⟩, rfl, by decide⟩, xt2 (i := 227) rfl rfl, xt2 (i := 228) rfl rfl⟩
abbrev mX3_waits : xM := (yX3_waits, cX3_waits, 2, some .int)
theorem qX3_waits : xMi mX3_waits 1 := ⟨⟨xt2 (i := 108) rfl rfl, xt1 (i := 4) rfl rfl, ⟨by decide, by decide⟩, rfl, by decide⟩, xt2 (i := 106) rfl rfl, xt2 (i := 107) rfl rfl⟩
abbrev mX3_waitsInAll : xM := (yX3_waitsInAll, cX3_waitsInAll, 1, some .int)
theorem qX3_waitsInAll : xMi mX3_waitsInAll 0 := ⟨⟨xt3 (i := 91) rfl rfl, xt1 (i := 4) rfl rfl, ⟨by decide, by decide⟩, rfl, by decide⟩, xt3 (i := 89) rfl rfl, xt3 (i := 90) rfl rfl⟩
abbrev mX3_nobodyWaits : xM := (yX3_nobodyWaits, cX3_nobodyWaits, 1, some .boolean)
theorem qX3_nobodyWaits : xMi mX3_nobodyWaits 0 := ⟨⟨xt3 (i := 87) rfl rfl, xt1 (i := 4) rfl rfl, ⟨by decide, by decide⟩, rfl, by decide⟩, xt3 (i := 85) rfl rfl, xt3 (i := 86) rfl rfl⟩
abbrev mX3_has : xM := (yX3_has, cX3_has, 3, some .boolean)
theorem qX3_has : xMi mX3_has 2 := ⟨⟨xt2 (i := 129) rfl rfl, xt1 (i := 4) rfl rfl, ⟨by decide, by decide⟩, rfl, by decide⟩, xt2 (i := 127) rfl rfl, xt2 (i := 128) rfl rfl⟩
abbrev mX3_weightAt : xM := (yX3_weightAt, cX3_weightAt, 3, some .int)
theorem qX3_weightAt : xMi mX3_weightAt 2 := ⟨⟨xt3 (i := 142) rfl rfl, xt1 (i := 4) rfl rfl, ⟨by decide, by decide⟩, rfl, by decide⟩, xt3 (i := 140) rfl rfl, xt3 (i := 141) rfl rfl⟩
abbrev mX3_weigh : xM := (yX3_weigh, cX3_weigh, 4, none)
theorem qX3_weigh : xMi mX3_weigh 3 := ⟨⟨xt2 (i := 125) rfl rfl, xt1 (i := 4) rfl rfl, ⟨by decide, by decide⟩, rfl, by decide⟩, xt2 (i := 123) rfl rfl, xt2 (i := 124) rfl rfl⟩
abbrev mX3_letCome : xM := (yX3_letCome, cX3_letCome, 4, some .boolean)
theorem qX3_letCome : xMi mX3_letCome 2 := ⟨⟨xt2 (i := 120) rfl rfl, xt1 (i := 4) rfl rfl, ⟨by decide, by decide⟩, rfl, by decide⟩, xt2 (i := 118) rfl rfl, xt2 (i := 119) rfl rfl⟩
abbrev mX3_allOf : xM := (yX3_allOf, cX3_allOf, 2, some .int)
theorem qX3_allOf : xMi mX3_allOf 1 := ⟨⟨xt2 (i := 217) rfl rfl, xt1 (i := 4) rfl rfl, ⟨by decide, by decide⟩, rfl, by decide⟩, xt2 (i := 215) rfl rfl, xt2 (i := 216) rfl rfl⟩
abbrev mX3_nextOf : xM := (yX3_nextOf, cX3_nextOf, 2, some .int)
theorem qX3_nextOf : xMi mX3_nextOf 1 := ⟨⟨xt2 (i := 238) rfl rfl, xt1 (i := 4) rfl rfl, ⟨by decide, by decide⟩, rfl, by decide⟩, xt2 (i := 236) rfl rfl, xt2 (i := 237) rfl rfl⟩
abbrev mX3_mayBoard : xM := (yX3_mayBoard, cX3_mayBoard, 3, some .boolean)
theorem qX3_mayBoard : xMi mX3_mayBoard 2 := ⟨⟨xt3 (i := 73) rfl rfl, xt1 (i := 4) rfl rfl, ⟨by decide, by decide⟩, rfl, by decide⟩, xt3 (i := 71) rfl rfl, xt3 (i := 72) rfl rfl⟩
abbrev mX3_weightOf : xM := (yX3_weightOf, cX3_weightOf, 5, some .int)
theorem qX3_weightOf : xMi mX3_weightOf 2 := ⟨⟨xt2 (i := 221) rfl rfl, xt1 (i := 4) rfl rfl, ⟨by decide, by decide⟩, rfl, by decide⟩, xt2 (i := 219) rfl rfl, xt2 (i := 220) rfl rfl⟩
abbrev mX3_waterFor : xM := (yX3_waterFor, cX3_waterFor, 3, some .int)
theorem qX3_waterFor : xMi mX3_waterFor 2 := ⟨⟨xt3 (i := 7) rfl rfl, xt1 (i := 4) rfl rfl, ⟨by decide, by decide⟩, rfl, by decide⟩, xt3 (i := 5) rfl rfl, xt3 (i := 6) rfl rfl⟩
abbrev mX3_exchange : xM := (yX3_exchange, cX3_exchange, 5, none)
theorem qX3_exchange : xMi mX3_exchange 3 := ⟨⟨xt3 (i := 138) rfl rfl, xt1 (i := 4) rfl rfl, ⟨by decide, by decide⟩, rfl, by decide⟩, xt3 (i := 136) rfl rfl, xt3 (i := 137) rfl rfl⟩
abbrev mX3_takeAway : xM := (yX3_takeAway, cX3_takeAway, 5, none)
theorem qX3_takeAway : xMi mX3_takeAway 2 := ⟨⟨xt3 (i := 18) rfl rfl, xt1 (i := 4) rfl rfl, ⟨by decide, by decide⟩, rfl, by decide⟩, xt3 (i := 16) rfl rfl, xt3 (i := 17) rfl rfl⟩
abbrev mX3_takeNext : xM := (yX3_takeNext, cX3_takeNext, 1, none)
theorem qX3_takeNext : xMi mX3_takeNext 0 := ⟨⟨xt4 (i := 85) rfl rfl, xt1 (i := 4) rfl rfl, ⟨by decide, by decide⟩, rfl, by decide⟩, xt4 (i := 83) rfl rfl, xt4 (i := 84) rfl rfl⟩
abbrev mX3_travel : xM := (yX3_travel, cX3_travel, 3, none)
theorem qX3_travel : xMi mX3_travel 2 := ⟨⟨xt3 (i := 13) rfl rfl, xt1 (i := 4) rfl rfl, ⟨by decide, by decide⟩, rfl, by decide⟩, xt3 (i := 11) rfl rfl, xt3 (i := 12) rfl rfl⟩
abbrev mX3_passMinute : xM := (yX3_passMinute, cX3_passMinute, 2, none)
theorem qX3_passMinute : xMi mX3_passMinute 1 := ⟨⟨xt3 (i := 37) rfl rfl, xt1 (i := 4) rfl rfl, ⟨by decide, by decide⟩, rfl, by decide⟩, xt3 (i := 35) rfl rfl, xt3 (i := 36) rfl rfl⟩
abbrev mX3_runMinute : xM := (yX3_runMinute, cX3_runMinute, 5, some .boolean)
theorem qX3_runMinute : xMi mX3_runMinute 1 := ⟨⟨xt3 (i := 95) rfl rfl, xt1 (i := 4) rfl rfl, ⟨by decide, by decide⟩, rfl, by decide⟩, xt3 (i := 93) rfl rfl, xt3 (i := 94) rfl rfl⟩
abbrev mX3_suchAs : xM := (yX3_suchAs, cX3_suchAs, 6, some .int)
theorem qX3_suchAs : xMi mX3_suchAs 2 := ⟨⟨xt4 (i := 152) rfl rfl, xt1 (i := 4) rfl rfl, ⟨by decide, by decide⟩, rfl, by decide⟩, xt4 (i := 150) rfl rfl, xt4 (i := 151) rfl rfl⟩
abbrev mX3_isSo : xM := (yX3_isSo, cX3_isSo, 5, some .boolean)
theorem qX3_isSo : xMi mX3_isSo 4 := ⟨⟨xt4 (i := 156) rfl rfl, xt1 (i := 4) rfl rfl, ⟨by decide, by decide⟩, rfl, by decide⟩, xt4 (i := 155) rfl rfl, xp2 (i := 12) (q := (yX3_isSo, _)) rfl⟩
abbrev mX4_init : xM := (yX4_init, cX4_init, 1, none)
theorem qX4_init : xMc mX4_init 0 := ⟨⟨xt1 (i := 49) rfl rfl, xt1 (i := 3) rfl rfl, ⟨by decide, by decide⟩, rfl, by decide⟩, xt1 (i := 48) rfl rfl, rfl, rfl⟩
abbrev mX4_size : xM := (yX4_size, cX4_size, 1, some .int)
theorem qX4_size : xMi mX4_size 0 := ⟨⟨xt5 (i := 35) rfl rfl, xt1 (i := 3) rfl rfl, ⟨by decide, by decide⟩, rfl, by decide⟩, xt5 (i := 33) rfl rfl, xt5 (i := 34) rfl rfl⟩
abbrev mX4_has : xM := (yX4_has, cX4_has, 2, some .boolean)
theorem qX4_has : xMi mX4_has 1 := ⟨⟨xt5 (i := 115) rfl rfl, xt1 (i := 3) rfl rfl, ⟨by decide, by decide⟩, rfl, by decide⟩, xt5 (i := 113) rfl rfl, xt5 (i := 114) rfl rfl⟩
abbrev mX4_at : xM := (yX4_at, cX4_at, 2, some .long)
theorem qX4_at : xMi mX4_at 1 := ⟨⟨xt5 (i := 119) rfl rfl, xt1 (i := 3) rfl rfl, ⟨by decide, by decide⟩, rfl, by decide⟩, xt5 (i := 117) rfl rfl, xt5 (i := 118) rfl rfl⟩
abbrev mX4_tell : xM := (yX4_tell, cX4_tell, 1, none)
theorem qX4_tell : xMi mX4_tell 0 := ⟨⟨xt4 (i := 73) rfl rfl, xt1 (i := 3) rfl rfl, ⟨by decide, by decide⟩, rfl, by decide⟩, xt4 (i := 71) rfl rfl, xt4 (i := 72) rfl rfl⟩
abbrev mX4_tell_ : xM := (yX4_tell_, cX4_tell_, 3, none)
theorem qX4_tell_ : xMi mX4_tell_ 1 := ⟨⟨xt3 (i := 45) rfl rfl, xt1 (i := 3) rfl rfl, ⟨by decide, by decide⟩, rfl, by decide⟩, xt3 (i := 43) rfl rfl, xt3 (i := 44) rfl rfl⟩
abbrev mX4_tell__ : xM := (yX4_tell__, cX4_tell__, 5, none)
theorem qX4_tell__ : xMi mX4_tell__ 2 := ⟨⟨xt3 (i := 41) rfl rfl, xt1 (i := 3) rfl rfl, ⟨by decide, by decide⟩, rfl, by decide⟩, xt3 (i := 39) rfl rfl, xt3 (i := 40) rfl rfl⟩
abbrev mX4_tell___ : xM := (yX4_tell___, cX4_tell___, 7, none)
theorem qX4_tell___ : xMi mX4_tell___ 3 := ⟨⟨xt3 (i := 198) rfl rfl, xt1 (i := 3) rfl rfl, ⟨by decide, by decide⟩, rfl, by decide⟩, xt3 (i := 196) rfl rfl, xt3 (i := 197) rfl rfl⟩
abbrev mX4_tell____ : xM := (yX4_tell____, cX4_tell____, 9, none)
theorem qX4_tell____ : xMi mX4_tell____ 4 := ⟨⟨xt3 (i := 194) rfl rfl, xt1 (i := 3) rfl rfl, ⟨by decide, by decide⟩, rfl, by decide⟩, xt3 (i := 192) rfl rfl, xt3 (i := 193) rfl rfl⟩
abbrev mX5_init : xM := (yX5_init, cX5_init, 1, none)
theorem qX5_init : xMc mX5_init 0 := ⟨⟨xt1 (i := 110) rfl rfl, xt1 (i := 5) rfl rfl, ⟨by decide, by decide⟩, rfl, by decide⟩, xt1 (i := 109) rfl rfl, rfl, rfl⟩
abbrev mX5_size : xM := (yX5_size, cX5_size, 1, some .int)
theorem qX5_size : xMi mX5_size 0 := ⟨⟨xt3 (i := 182) rfl rfl, xt1 (i := 5) rfl rfl, ⟨by decide, by decide⟩, rfl, by decide⟩, xt3 (i := 180) rfl rfl, xt3 (i := 181) rfl rfl⟩
abbrev mX5_forgetAll : xM := (yX5_forgetAll, cX5_forgetAll, 1, none)
theorem qX5_forgetAll : xMi mX5_forgetAll 0 := ⟨⟨xt2 (i := 133) rfl rfl, xt1 (i := 5) rfl rfl, ⟨by decide, by decide⟩, rfl, by decide⟩, xt2 (i := 131) rfl rfl, xt2 (i := 132) rfl rfl⟩
abbrev mX5_remember : xM := (yX5_remember, cX5_remember, 3, none)
theorem qX5_remember : xMi mX5_remember 1 := ⟨⟨xt3 (i := 59) rfl rfl, xt1 (i := 5) rfl rfl, ⟨by decide, by decide⟩, rfl, by decide⟩, xt3 (i := 57) rfl rfl, xt3 (i := 58) rfl rfl⟩
abbrev mX5_dropOldest : xM := (yX5_dropOldest, cX5_dropOldest, 3, none)
theorem qX5_dropOldest : xMi mX5_dropOldest 0 := ⟨⟨xt3 (i := 63) rfl rfl, xt1 (i := 5) rfl rfl, ⟨by decide, by decide⟩, rfl, by decide⟩, xt3 (i := 62) rfl rfl, xp1 (i := 11) (q := (yX5_dropOldest, _)) rfl⟩
abbrev mX5_bringBack : xM := (yX5_bringBack, cX5_bringBack, 2, some .boolean)
theorem qX5_bringBack : xMi mX5_bringBack 1 := ⟨⟨xt3 (i := 178) rfl rfl, xt1 (i := 5) rfl rfl, ⟨by decide, by decide⟩, rfl, by decide⟩, xt3 (i := 176) rfl rfl, xt3 (i := 177) rfl rfl⟩
abbrev mX6_init : xM := (yX6_init, cX6_init, 2, none)
theorem qX6_init : xMc mX6_init 1 := ⟨⟨xt1 (i := 235) rfl rfl, xt1 (i := 11) rfl rfl, ⟨by decide, by decide⟩, rfl, by decide⟩, xt1 (i := 234) rfl rfl, rfl, rfl⟩
abbrev mX6_start : xM := (yX6_start, cX6_start, 2, none)
theorem qX6_start : xMi mX6_start 0 := ⟨⟨xt4 (i := 38) rfl rfl, xt1 (i := 11) rfl rfl, ⟨by decide, by decide⟩, rfl, by decide⟩, xt4 (i := 36) rfl rfl, xt4 (i := 37) rfl rfl⟩
abbrev mX6_allowOneTripMore : xM := (yX6_allowOneTripMore, cX6_allowOneTripMore, 4, none)
theorem qX6_allowOneTripMore : xMi mX6_allowOneTripMore 0 := ⟨⟨xt4 (i := 43) rfl rfl, xt1 (i := 11) rfl rfl, ⟨by decide, by decide⟩, rfl, by decide⟩, xt4 (i := 41) rfl rfl, xt4 (i := 42) rfl rfl⟩
abbrev mX6_haveSeats : xM := (yX6_haveSeats, cX6_haveSeats, 4, some .boolean)
theorem qX6_haveSeats : xMi mX6_haveSeats 2 := ⟨⟨xt4 (i := 47) rfl rfl, xt1 (i := 11) rfl rfl, ⟨by decide, by decide⟩, rfl, by decide⟩, xt4 (i := 46) rfl rfl, xp2 (i := 7) (q := (yX6_haveSeats, _)) rfl⟩
abbrev mX6_leastFor : xM := (yX6_leastFor, cX6_leastFor, 10, some .int)
theorem qX6_leastFor : xMi mX6_leastFor 2 := ⟨⟨xt4 (i := 52) rfl rfl, xt1 (i := 11) rfl rfl, ⟨by decide, by decide⟩, rfl, by decide⟩, xt4 (i := 51) rfl rfl, xp2 (i := 8) (q := (yX6_leastFor, _)) rfl⟩
abbrev mX6_leastWith : xM := (yX6_leastWith, cX6_leastWith, 11, some .int)
theorem qX6_leastWith : xMi mX6_leastWith 4 := ⟨⟨xt4 (i := 56) rfl rfl, xt1 (i := 11) rfl rfl, ⟨by decide, by decide⟩, rfl, by decide⟩, xt4 (i := 55) rfl rfl, xp2 (i := 9) (q := (yX6_leastWith, _)) rfl⟩
abbrev mX6_chooseFirst : xM := (yX6_chooseFirst, cX6_chooseFirst, 7, some .int)
theorem qX6_chooseFirst : xMi mX6_chooseFirst 0 := ⟨⟨xt4 (i := 63) rfl rfl, xt1 (i := 11) rfl rfl, ⟨by decide, by decide⟩, rfl, by decide⟩, xt4 (i := 61) rfl rfl, xt4 (i := 62) rfl rfl⟩
abbrev mX7_init : xM := (yX7_init, cX7_init, 1, none)
theorem qX7_init : xMc mX7_init 0 := ⟨⟨xt1 (i := 125) rfl rfl, xt1 (i := 6) rfl rfl, ⟨by decide, by decide⟩, rfl, by decide⟩, xt1 (i := 124) rfl rfl, rfl, rfl⟩
abbrev mX7_clear : xM := (yX7_clear, cX7_clear, 1, none)
theorem qX7_clear : xMi mX7_clear 0 := ⟨⟨xt2 (i := 149) rfl rfl, xt1 (i := 6) rfl rfl, ⟨by decide, by decide⟩, rfl, by decide⟩, xt2 (i := 147) rfl rfl, xt2 (i := 148) rfl rfl⟩
abbrev mX7_add : xM := (yX7_add, cX7_add, 2, none)
theorem qX7_add : xMi mX7_add 1 := ⟨⟨xt2 (i := 169) rfl rfl, xt1 (i := 6) rfl rfl, ⟨by decide, by decide⟩, rfl, by decide⟩, xt2 (i := 167) rfl rfl, xt2 (i := 168) rfl rfl⟩
abbrev mX7_copyFrom : xM := (yX7_copyFrom, cX7_copyFrom, 2, none)
theorem qX7_copyFrom : xMi mX7_copyFrom 1 := ⟨⟨xt2 (i := 198) rfl rfl, xt1 (i := 6) rfl rfl, ⟨by decide, by decide⟩, rfl, by decide⟩, xt2 (i := 196) rfl rfl, xt2 (i := 197) rfl rfl⟩
abbrev mX7_spring : xM := (yX7_spring, cX7_spring, 5, some .int)
theorem qX7_spring : xMi mX7_spring 1 := ⟨⟨xt3 (i := 22) rfl rfl, xt1 (i := 6) rfl rfl, ⟨by decide, by decide⟩, rfl, by decide⟩, xt3 (i := 20) rfl rfl, xt3 (i := 21) rfl rfl⟩
abbrev mX7_joins : xM := (yX7_joins, cX7_joins, 1, some .boolean)
theorem qX7_joins : xMs mX7_joins 1 := ⟨⟨xt2 (i := 194) rfl rfl, xt1 (i := 6) rfl rfl, ⟨by decide, by decide⟩, rfl, by decide⟩, xt2 (i := 193) rfl rfl⟩
abbrev mX7_join : xM := (yX7_join, cX7_join, 3, some .int)
theorem qX7_join : xMs mX7_join 3 := ⟨⟨xt3 (i := 26) rfl rfl, xt1 (i := 6) rfl rfl, ⟨by decide, by decide⟩, rfl, by decide⟩, xt3 (i := 25) rfl rfl⟩
abbrev mX7_names : xM := (yX7_names, cX7_names, 1, some .boolean)
theorem qX7_names : xMs mX7_names 1 := ⟨⟨xt2 (i := 172) rfl rfl, xt1 (i := 6) rfl rfl, ⟨by decide, by decide⟩, rfl, by decide⟩, xt2 (i := 171) rfl rfl⟩
abbrev mX7_named : xM := (yX7_named, cX7_named, 2, some .int)
theorem qX7_named : xMs mX7_named 2 := ⟨⟨xt3 (i := 29) rfl rfl, xt1 (i := 6) rfl rfl, ⟨by decide, by decide⟩, rfl, by decide⟩, xt3 (i := 28) rfl rfl⟩
abbrev mX8_init : xM := (yX8_init, cX8_init, 3, none)
theorem qX8_init : xMc mX8_init 2 := ⟨⟨xt1 (i := 141) rfl rfl, xt1 (i := 7) rfl rfl, ⟨by decide, by decide⟩, rfl, by decide⟩, xt1 (i := 140) rfl rfl, rfl, rfl⟩
abbrev mX8_read : xM := (yX8_read, cX8_read, 4, some .int)
theorem qX8_read : xMi mX8_read 0 := ⟨⟨xt2 (i := 145) rfl rfl, xt1 (i := 7) rfl rfl, ⟨by decide, by decide⟩, rfl, by decide⟩, xt2 (i := 143) rfl rfl, xt2 (i := 144) rfl rfl⟩
abbrev mX8_takeThing : xM := (yX8_takeThing, cX8_takeThing, 2, some .boolean)
theorem qX8_takeThing : xMi mX8_takeThing 1 := ⟨⟨xt2 (i := 158) rfl rfl, xt1 (i := 7) rfl rfl, ⟨by decide, by decide⟩, rfl, by decide⟩, xt2 (i := 157) rfl rfl, xp1 (i := 2) (q := (yX8_takeThing, _)) rfl⟩
abbrev mX8_takeNumber : xM := (yX8_takeNumber, cX8_takeNumber, 3, none)
theorem qX8_takeNumber : xMi mX8_takeNumber 0 := ⟨⟨xt2 (i := 165) rfl rfl, xt1 (i := 7) rfl rfl, ⟨by decide, by decide⟩, rfl, by decide⟩, xt2 (i := 164) rfl rfl, xp1 (i := 3) (q := (yX8_takeNumber, _)) rfl⟩
abbrev mX8_takeJoin : xM := (yX8_takeJoin, cX8_takeJoin, 4, some .boolean)
theorem qX8_takeJoin : xMi mX8_takeJoin 1 := ⟨⟨xt2 (i := 180) rfl rfl, xt1 (i := 7) rfl rfl, ⟨by decide, by decide⟩, rfl, by decide⟩, xt2 (i := 179) rfl rfl, xp1 (i := 5) (q := (yX8_takeJoin, _)) rfl⟩
abbrev mX8_dropBracket : xM := (yX8_dropBracket, cX8_dropBracket, 1, none)
theorem qX8_dropBracket : xMi mX8_dropBracket 0 := ⟨⟨xt2 (i := 191) rfl rfl, xt1 (i := 7) rfl rfl, ⟨by decide, by decide⟩, rfl, by decide⟩, xt2 (i := 190) rfl rfl, xp1 (i := 7) (q := (yX8_dropBracket, _)) rfl⟩
abbrev mX8_putBy : xM := (yX8_putBy, cX8_putBy, 2, none)
theorem qX8_putBy : xMi mX8_putBy 1 := ⟨⟨xt2 (i := 176) rfl rfl, xt1 (i := 7) rfl rfl, ⟨by decide, by decide⟩, rfl, by decide⟩, xt2 (i := 175) rfl rfl, xp1 (i := 4) (q := (yX8_putBy, _)) rfl⟩
abbrev mX8_bringBack : xM := (yX8_bringBack, cX8_bringBack, 4, none)
theorem qX8_bringBack : xMi mX8_bringBack 1 := ⟨⟨xt2 (i := 187) rfl rfl, xt1 (i := 7) rfl rfl, ⟨by decide, by decide⟩, rfl, by decide⟩, xt2 (i := 186) rfl rfl, xp1 (i := 6) (q := (yX8_bringBack, _)) rfl⟩
abbrev mX8_tightness : xM := (yX8_tightness, cX8_tightness, 1, some .int)
theorem qX8_tightness : xMs mX8_tightness 1 := ⟨⟨xt2 (i := 183) rfl rfl, xt1 (i := 7) rfl rfl, ⟨by decide, by decide⟩, rfl, by decide⟩, xt2 (i := 182) rfl rfl⟩
abbrev mX9_init : xM := (yX9_init, cX9_init, 1, none)
theorem qX9_init : xMc mX9_init 0 := ⟨⟨xt1 (i := 188) rfl rfl, xt1 (i := 9) rfl rfl, ⟨by decide, by decide⟩, rfl, by decide⟩, xt1 (i := 187) rfl rfl, rfl, rfl⟩
abbrev mX9_size : xM := (yX9_size, cX9_size, 1, some .int)
theorem qX9_size : xMi mX9_size 0 := ⟨⟨xt4 (i := 173) rfl rfl, xt1 (i := 9) rfl rfl, ⟨by decide, by decide⟩, rfl, by decide⟩, xt4 (i := 171) rfl rfl, xt4 (i := 172) rfl rfl⟩
abbrev mX9_add : xM := (yX9_add, cX9_add, 3, some .boolean)
theorem qX9_add : xMi mX9_add 2 := ⟨⟨xt4 (i := 169) rfl rfl, xt1 (i := 9) rfl rfl, ⟨by decide, by decide⟩, rfl, by decide⟩, xt4 (i := 167) rfl rfl, xt4 (i := 168) rfl rfl⟩
abbrev mX9_clear : xM := (yX9_clear, cX9_clear, 2, some .int)
theorem qX9_clear : xMi mX9_clear 0 := ⟨⟨xt4 (i := 181) rfl rfl, xt1 (i := 9) rfl rfl, ⟨by decide, by decide⟩, rfl, by decide⟩, xt4 (i := 179) rfl rfl, xt4 (i := 180) rfl rfl⟩
abbrev mX9_fittingLaws : xM := (yX9_fittingLaws, cX9_fittingLaws, 6, some .long)
theorem qX9_fittingLaws : xMi mX9_fittingLaws 0 := ⟨⟨xt4 (i := 189) rfl rfl, xt1 (i := 9) rfl rfl, ⟨by decide, by decide⟩, rfl, by decide⟩, xt4 (i := 187) rfl rfl, xt4 (i := 188) rfl rfl⟩
abbrev mX9_leastOf : xM := (yX9_leastOf, cX9_leastOf, 1, some .int)
theorem qX9_leastOf : xMs mX9_leastOf 1 := ⟨⟨xt4 (i := 196) rfl rfl, xt1 (i := 9) rfl rfl, ⟨by decide, by decide⟩, rfl, by decide⟩, xt4 (i := 195) rfl rfl⟩
abbrev mX9_greatestOf : xM := (yX9_greatestOf, cX9_greatestOf, 1, some .int)
theorem qX9_greatestOf : xMs mX9_greatestOf 1 := ⟨⟨xt4 (i := 199) rfl rfl, xt1 (i := 9) rfl rfl, ⟨by decide, by decide⟩, rfl, by decide⟩, xt4 (i := 198) rfl rfl⟩
abbrev mX9_lawsThatRun : xM := (yX9_lawsThatRun, cX9_lawsThatRun, 4, some .long)
theorem qX9_lawsThatRun : xMs mX9_lawsThatRun 1 := ⟨⟨xt4 (i := 193) rfl rfl, xt1 (i := 9) rfl rfl, ⟨by decide, by decide⟩, rfl, by decide⟩, xt4 (i := 192) rfl rfl⟩
abbrev mX10_init : xM := (yX10_init, cX10_init, 1, none)
theorem qX10_init : xMc mX10_init 0 := ⟨⟨xt1 (i := 35) rfl rfl, xt1 (i := 2) rfl rfl, ⟨by decide, by decide⟩, rfl, by decide⟩, xt1 (i := 34) rfl rfl, rfl, rfl⟩
abbrev mX10_length : xM := (yX10_length, cX10_length, 1, some .int)
theorem qX10_length : xMi mX10_length 0 := ⟨⟨xt2 (i := 84) rfl rfl, xt1 (i := 2) rfl rfl, ⟨by decide, by decide⟩, rfl, by decide⟩, xt2 (i := 82) rfl rfl, xt2 (i := 83) rfl rfl⟩
abbrev mX10_at : xM := (yX10_at, cX10_at, 2, some .int)
theorem qX10_at : xMi mX10_at 1 := ⟨⟨xt2 (i := 112) rfl rfl, xt1 (i := 2) rfl rfl, ⟨by decide, by decide⟩, rfl, by decide⟩, xt2 (i := 110) rfl rfl, xt2 (i := 111) rfl rfl⟩
abbrev mX10_write : xM := (yX10_write, cX10_write, 2, none)
theorem qX10_write : xMi mX10_write 1 := ⟨⟨xt2 (i := 88) rfl rfl, xt1 (i := 2) rfl rfl, ⟨by decide, by decide⟩, rfl, by decide⟩, xt2 (i := 86) rfl rfl, xt2 (i := 87) rfl rfl⟩
abbrev mX10_cutTo : xM := (yX10_cutTo, cX10_cutTo, 2, some .boolean)
theorem qX10_cutTo : xMi mX10_cutTo 1 := ⟨⟨xt2 (i := 96) rfl rfl, xt1 (i := 2) rfl rfl, ⟨by decide, by decide⟩, rfl, by decide⟩, xt2 (i := 94) rfl rfl, xt2 (i := 95) rfl rfl⟩
abbrev mX10_clear : xM := (yX10_clear, cX10_clear, 1, none)
theorem qX10_clear : xMi mX10_clear 0 := ⟨⟨xt2 (i := 137) rfl rfl, xt1 (i := 2) rfl rfl, ⟨by decide, by decide⟩, rfl, by decide⟩, xt2 (i := 135) rfl rfl, xt2 (i := 136) rfl rfl⟩
abbrev mX11_init : xM := (yX11_init, cX11_init, 1, none)
theorem qX11_init : xMc mX11_init 0 := ⟨⟨xt1 (i := 27) rfl rfl, xt1 (i := 1) rfl rfl, ⟨by decide, by decide⟩, rfl, by decide⟩, xt1 (i := 26) rfl rfl, rfl, rfl⟩
abbrev mX11_sign : xM := (yX11_sign, cX11_sign, 3, some .int)
theorem qX11_sign : xMi mX11_sign 1 := ⟨⟨xt2 (i := 80) rfl rfl, xt1 (i := 1) rfl rfl, ⟨by decide, by decide⟩, rfl, by decide⟩, xt2 (i := 78) rfl rfl, xt2 (i := 79) rfl rfl⟩
abbrev mX11_end : xM := (yX11_end, cX11_end, 2, some .boolean)
theorem qX11_end : xMi mX11_end 1 := ⟨⟨xt2 (i := 92) rfl rfl, xt1 (i := 1) rfl rfl, ⟨by decide, by decide⟩, rfl, by decide⟩, xt2 (i := 90) rfl rfl, xt2 (i := 91) rfl rfl⟩
abbrev mX11_parties : xM := (yX11_parties, cX11_parties, 3, some .int)
theorem qX11_parties : xMi mX11_parties 0 := ⟨⟨xt2 (i := 100) rfl rfl, xt1 (i := 1) rfl rfl, ⟨by decide, by decide⟩, rfl, by decide⟩, xt2 (i := 98) rfl rfl, xt2 (i := 99) rfl rfl⟩
abbrev mX11_firstBadOfParties : xM := (yX11_firstBadOfParties, cX11_firstBadOfParties, 5, some .int)
theorem qX11_firstBadOfParties : xMi mX11_firstBadOfParties 0 := ⟨⟨xt2 (i := 104) rfl rfl, xt1 (i := 1) rfl rfl, ⟨by decide, by decide⟩, rfl, by decide⟩, xt2 (i := 103) rfl rfl, xp1 (i := 0) (q := (yX11_firstBadOfParties, _)) rfl⟩
abbrev mX11_letCome : xM := (yX11_letCome, cX11_letCome, 4, some .int)
theorem qX11_letCome : xMi mX11_letCome 0 := ⟨⟨xt2 (i := 116) rfl rfl, xt1 (i := 1) rfl rfl, ⟨by decide, by decide⟩, rfl, by decide⟩, xt2 (i := 115) rfl rfl, xp1 (i := 1) (q := (yX11_letCome, _)) rfl⟩
abbrev mX11_rule : xM := (yX11_rule, cX11_rule, 2, some .int)
theorem qX11_rule : xMi mX11_rule 0 := ⟨⟨xt2 (i := 141) rfl rfl, xt1 (i := 1) rfl rfl, ⟨by decide, by decide⟩, rfl, by decide⟩, xt2 (i := 139) rfl rfl, xt2 (i := 140) rfl rfl⟩
abbrev mX11_party : xM := (yX11_party, cX11_party, 3, some .int)
theorem qX11_party : xMi mX11_party 2 := ⟨⟨xt5 (i := 43) rfl rfl, xt1 (i := 1) rfl rfl, ⟨by decide, by decide⟩, rfl, by decide⟩, xt5 (i := 41) rfl rfl, xt5 (i := 42) rfl rfl⟩
abbrev mX11_sheet : xM := (yX11_sheet, cX11_sheet, 8, some .int)
theorem qX11_sheet : xMi mX11_sheet 4 := ⟨⟨xt2 (i := 205) rfl rfl, xt1 (i := 1) rfl rfl, ⟨by decide, by decide⟩, rfl, by decide⟩, xt2 (i := 203) rfl rfl, xt2 (i := 204) rfl rfl⟩
abbrev mX11_sheetEntry : xM := (yX11_sheetEntry, cX11_sheetEntry, 3, some .int)
theorem qX11_sheetEntry : xMs mX11_sheetEntry 2 := ⟨⟨xt2 (i := 208) rfl rfl, xt1 (i := 1) rfl rfl, ⟨by decide, by decide⟩, rfl, by decide⟩, xt2 (i := 207) rfl rfl⟩
abbrev mX11_trip : xM := (yX11_trip, cX11_trip, 1, some .int)
theorem qX11_trip : xMi mX11_trip 0 := ⟨⟨xt2 (i := 225) rfl rfl, xt1 (i := 1) rfl rfl, ⟨by decide, by decide⟩, rfl, by decide⟩, xt2 (i := 223) rfl rfl, xt2 (i := 224) rfl rfl⟩
abbrev mX11_sends : xM := (yX11_sends, cX11_sends, 3, some .int)
theorem qX11_sends : xMi mX11_sends 2 := ⟨⟨xt3 (i := 69) rfl rfl, xt1 (i := 1) rfl rfl, ⟨by decide, by decide⟩, rfl, by decide⟩, xt3 (i := 67) rfl rfl, xt3 (i := 68) rfl rfl⟩
abbrev mX11_runs : xM := (yX11_runs, cX11_runs, 2, some .int)
theorem qX11_runs : xMi mX11_runs 1 := ⟨⟨xt3 (i := 79) rfl rfl, xt1 (i := 1) rfl rfl, ⟨by decide, by decide⟩, rfl, by decide⟩, xt3 (i := 77) rfl rfl, xt3 (i := 78) rfl rfl⟩
abbrev mX11_grips : xM := (yX11_grips, cX11_grips, 2, some .int)
theorem qX11_grips : xMi mX11_grips 1 := ⟨⟨xt3 (i := 104) rfl rfl, xt1 (i := 1) rfl rfl, ⟨by decide, by decide⟩, rfl, by decide⟩, xt3 (i := 102) rfl rfl, xt3 (i := 103) rfl rfl⟩
abbrev mX11_seats : xM := (yX11_seats, cX11_seats, 2, some .int)
theorem qX11_seats : xMi mX11_seats 1 := ⟨⟨xt3 (i := 112) rfl rfl, xt1 (i := 1) rfl rfl, ⟨by decide, by decide⟩, rfl, by decide⟩, xt3 (i := 110) rfl rfl, xt3 (i := 111) rfl rfl⟩
abbrev mX11_leaves : xM := (yX11_leaves, cX11_leaves, 3, some .int)
theorem qX11_leaves : xMi mX11_leaves 2 := ⟨⟨xt3 (i := 120) rfl rfl, xt1 (i := 1) rfl rfl, ⟨by decide, by decide⟩, rfl, by decide⟩, xt3 (i := 118) rfl rfl, xt3 (i := 119) rfl rfl⟩
abbrev mX11_swaps : xM := (yX11_swaps, cX11_swaps, 3, some .int)
theorem qX11_swaps : xMi mX11_swaps 2 := ⟨⟨xt3 (i := 130) rfl rfl, xt1 (i := 1) rfl rfl, ⟨by decide, by decide⟩, rfl, by decide⟩, xt3 (i := 128) rfl rfl, xt3 (i := 129) rfl rfl⟩
abbrev mX11_drains : xM := (yX11_drains, cX11_drains, 2, some .int)
theorem qX11_drains : xMi mX11_drains 1 := ⟨⟨xt3 (i := 147) rfl rfl, xt1 (i := 1) rfl rfl, ⟨by decide, by decide⟩, rfl, by decide⟩, xt3 (i := 145) rfl rfl, xt3 (i := 146) rfl rfl⟩
abbrev mX11_remembered : xM := (yX11_remembered, cX11_remembered, 2, some .int)
theorem qX11_remembered : xMi mX11_remembered 1 := ⟨⟨xt3 (i := 55) rfl rfl, xt1 (i := 1) rfl rfl, ⟨by decide, by decide⟩, rfl, by decide⟩, xt3 (i := 54) rfl rfl, xp1 (i := 10) (q := (yX11_remembered, _)) rfl⟩
abbrev mX11_goNext : xM := (yX11_goNext, cX11_goNext, 1, some .int)
theorem qX11_goNext : xMi mX11_goNext 0 := ⟨⟨xt2 (i := 234) rfl rfl, xt1 (i := 1) rfl rfl, ⟨by decide, by decide⟩, rfl, by decide⟩, xt2 (i := 233) rfl rfl, xp1 (i := 8) (q := (yX11_goNext, _)) rfl⟩
abbrev mX11_goWith : xM := (yX11_goWith, cX11_goWith, 4, some .int)
theorem qX11_goWith : xMi mX11_goWith 2 := ⟨⟨xt3 (i := 3) rfl rfl, xt1 (i := 1) rfl rfl, ⟨by decide, by decide⟩, rfl, by decide⟩, xt3 (i := 2) rfl rfl, xp1 (i := 9) (q := (yX11_goWith, _)) rfl⟩
abbrev mX11_runFor : xM := (yX11_runFor, cX11_runFor, 6, some .int)
theorem qX11_runFor : xMi mX11_runFor 1 := ⟨⟨xt3 (i := 83) rfl rfl, xt1 (i := 1) rfl rfl, ⟨by decide, by decide⟩, rfl, by decide⟩, xt3 (i := 82) rfl rfl, xp1 (i := 12) (q := (yX11_runFor, _)) rfl⟩
abbrev mX11_setGrip : xM := (yX11_setGrip, cX11_setGrip, 3, some .int)
theorem qX11_setGrip : xMi mX11_setGrip 1 := ⟨⟨xt3 (i := 108) rfl rfl, xt1 (i := 1) rfl rfl, ⟨by decide, by decide⟩, rfl, by decide⟩, xt3 (i := 107) rfl rfl, xp1 (i := 13) (q := (yX11_setGrip, _)) rfl⟩
abbrev mX11_setSeats : xM := (yX11_setSeats, cX11_setSeats, 3, some .int)
theorem qX11_setSeats : xMi mX11_setSeats 1 := ⟨⟨xt3 (i := 116) rfl rfl, xt1 (i := 1) rfl rfl, ⟨by decide, by decide⟩, rfl, by decide⟩, xt3 (i := 115) rfl rfl, xp1 (i := 14) (q := (yX11_setSeats, _)) rfl⟩
abbrev mX11_goAway : xM := (yX11_goAway, cX11_goAway, 3, some .int)
theorem qX11_goAway : xMi mX11_goAway 2 := ⟨⟨xt3 (i := 124) rfl rfl, xt1 (i := 1) rfl rfl, ⟨by decide, by decide⟩, rfl, by decide⟩, xt3 (i := 123) rfl rfl, xp1 (i := 15) (q := (yX11_goAway, _)) rfl⟩
abbrev mX11_swapWithNext : xM := (yX11_swapWithNext, cX11_swapWithNext, 3, some .int)
theorem qX11_swapWithNext : xMi mX11_swapWithNext 2 := ⟨⟨xt3 (i := 134) rfl rfl, xt1 (i := 1) rfl rfl, ⟨by decide, by decide⟩, rfl, by decide⟩, xt3 (i := 133) rfl rfl, xp2 (i := 0) (q := (yX11_swapWithNext, _)) rfl⟩
abbrev mX11_letOut : xM := (yX11_letOut, cX11_letOut, 2, some .int)
theorem qX11_letOut : xMi mX11_letOut 1 := ⟨⟨xt3 (i := 151) rfl rfl, xt1 (i := 1) rfl rfl, ⟨by decide, by decide⟩, rfl, by decide⟩, xt3 (i := 150) rfl rfl, xp2 (i := 1) (q := (yX11_letOut, _)) rfl⟩
abbrev mX11_day : xM := (yX11_day, cX11_day, 6, some .int)
theorem qX11_day : xMi mX11_day 0 := ⟨⟨xt3 (i := 155) rfl rfl, xt1 (i := 1) rfl rfl, ⟨by decide, by decide⟩, rfl, by decide⟩, xt3 (i := 153) rfl rfl, xt3 (i := 154) rfl rfl⟩
abbrev mX11_firstBadOfDay : xM := (yX11_firstBadOfDay, cX11_firstBadOfDay, 7, some .int)
theorem qX11_firstBadOfDay : xMi mX11_firstBadOfDay 0 := ⟨⟨xt3 (i := 159) rfl rfl, xt1 (i := 1) rfl rfl, ⟨by decide, by decide⟩, rfl, by decide⟩, xt3 (i := 158) rfl rfl, xp2 (i := 2) (q := (yX11_firstBadOfDay, _)) rfl⟩
abbrev mX11_digitsBehind : xM := (yX11_digitsBehind, cX11_digitsBehind, 1, some .int)
theorem qX11_digitsBehind : xMs mX11_digitsBehind 1 := ⟨⟨xt3 (i := 162) rfl rfl, xt1 (i := 1) rfl rfl, ⟨by decide, by decide⟩, rfl, by decide⟩, xt3 (i := 161) rfl rfl⟩
abbrev mX11_mayStandBehind : xM := (yX11_mayStandBehind, cX11_mayStandBehind, 2, some .boolean)
theorem qX11_mayStandBehind : xMs mX11_mayStandBehind 2 := ⟨⟨xt3 (i := 165) rfl rfl, xt1 (i := 1) rfl rfl, ⟨by decide, by decide⟩, rfl, by decide⟩, xt3 (i := 164) rfl rfl⟩
abbrev mX11_isDigit : xM := (yX11_isDigit, cX11_isDigit, 1, some .boolean)
theorem qX11_isDigit : xMs mX11_isDigit 1 := ⟨⟨xt2 (i := 161) rfl rfl, xt1 (i := 1) rfl rfl, ⟨by decide, by decide⟩, rfl, by decide⟩, xt2 (i := 160) rfl rfl⟩
abbrev mX11_act : xM := (yX11_act, cX11_act, 4, some .int)
theorem qX11_act : xMi mX11_act 1 := ⟨⟨xt3 (i := 170) rfl rfl, xt1 (i := 1) rfl rfl, ⟨by decide, by decide⟩, rfl, by decide⟩, xt3 (i := 169) rfl rfl, xp2 (i := 3) (q := (yX11_act, _)) rfl⟩
abbrev mX11_undo : xM := (yX11_undo, cX11_undo, 1, some .int)
theorem qX11_undo : xMi mX11_undo 0 := ⟨⟨xt3 (i := 174) rfl rfl, xt1 (i := 1) rfl rfl, ⟨by decide, by decide⟩, rfl, by decide⟩, xt3 (i := 172) rfl rfl, xt3 (i := 173) rfl rfl⟩
abbrev mX11_needs : xM := (yX11_needs, cX11_needs, 3, some .int)
theorem qX11_needs : xMi mX11_needs 0 := ⟨⟨xt3 (i := 186) rfl rfl, xt1 (i := 1) rfl rfl, ⟨by decide, by decide⟩, rfl, by decide⟩, xt3 (i := 184) rfl rfl, xt3 (i := 185) rfl rfl⟩
abbrev mX11_later : xM := (yX11_later, cX11_later, 3, some .int)
theorem qX11_later : xMi mX11_later 1 := ⟨⟨xt3 (i := 190) rfl rfl, xt1 (i := 1) rfl rfl, ⟨by decide, by decide⟩, rfl, by decide⟩, xt3 (i := 188) rfl rfl, xt3 (i := 189) rfl rfl⟩
abbrev mX11_done : xM := (yX11_done, cX11_done, 2, some .int)
theorem qX11_done : xMi mX11_done 0 := ⟨⟨xt3 (i := 203) rfl rfl, xt1 (i := 1) rfl rfl, ⟨by decide, by decide⟩, rfl, by decide⟩, xt3 (i := 201) rfl rfl, xt3 (i := 202) rfl rfl⟩
abbrev mX11_runTillNobodyWaits : xM := (yX11_runTillNobodyWaits, cX11_runTillNobodyWaits, 3, some .int)
theorem qX11_runTillNobodyWaits : xMi mX11_runTillNobodyWaits 1 := ⟨⟨xt3 (i := 207) rfl rfl, xt1 (i := 1) rfl rfl, ⟨by decide, by decide⟩, rfl, by decide⟩, xt3 (i := 206) rfl rfl, xp2 (i := 4) (q := (yX11_runTillNobodyWaits, _)) rfl⟩
abbrev mX11_dry : xM := (yX11_dry, cX11_dry, 3, some .int)
theorem qX11_dry : xMi mX11_dry 1 := ⟨⟨xt3 (i := 211) rfl rfl, xt1 (i := 1) rfl rfl, ⟨by decide, by decide⟩, rfl, by decide⟩, xt3 (i := 209) rfl rfl, xt3 (i := 210) rfl rfl⟩
abbrev mX11_when : xM := (yX11_when, cX11_when, 7, some .int)
theorem qX11_when : xMi mX11_when 2 := ⟨⟨xt3 (i := 216) rfl rfl, xt1 (i := 1) rfl rfl, ⟨by decide, by decide⟩, rfl, by decide⟩, xt3 (i := 214) rfl rfl, xt3 (i := 215) rfl rfl⟩
abbrev mX11_enough : xM := (yX11_enough, cX11_enough, 4, some .int)
theorem qX11_enough : xMi mX11_enough 0 := ⟨⟨xt3 (i := 220) rfl rfl, xt1 (i := 1) rfl rfl, ⟨by decide, by decide⟩, rfl, by decide⟩, xt3 (i := 218) rfl rfl, xt3 (i := 219) rfl rfl⟩
abbrev mX11_tripsWithoutRest : xM := (yX11_tripsWithoutRest, cX11_tripsWithoutRest, 3, some .int)
theorem qX11_tripsWithoutRest : xMi mX11_tripsWithoutRest 1 := ⟨⟨xt3 (i := 224) rfl rfl, xt1 (i := 1) rfl rfl, ⟨by decide, by decide⟩, rfl, by decide⟩, xt3 (i := 223) rfl rfl, xp2 (i := 5) (q := (yX11_tripsWithoutRest, _)) rfl⟩
abbrev mX11_waiting : xM := (yX11_waiting, cX11_waiting, 4, some .int)
theorem qX11_waiting : xMi mX11_waiting 0 := ⟨⟨xt3 (i := 228) rfl rfl, xt1 (i := 1) rfl rfl, ⟨by decide, by decide⟩, rfl, by decide⟩, xt3 (i := 226) rfl rfl, xt3 (i := 227) rfl rfl⟩
abbrev mX11_holds : xM := (yX11_holds, cX11_holds, 5, some .int)
theorem qX11_holds : xMi mX11_holds 1 := ⟨⟨xt3 (i := 233) rfl rfl, xt1 (i := 1) rfl rfl, ⟨by decide, by decide⟩, rfl, by decide⟩, xt3 (i := 231) rfl rfl, xt3 (i := 232) rfl rfl⟩
abbrev mX11_soonest : xM := (yX11_soonest, cX11_soonest, 5, some .int)
theorem qX11_soonest : xMi mX11_soonest 0 := ⟨⟨xt3 (i := 237) rfl rfl, xt1 (i := 1) rfl rfl, ⟨by decide, by decide⟩, rfl, by decide⟩, xt3 (i := 235) rfl rfl, xt3 (i := 236) rfl rfl⟩
abbrev mX11_minutesBySeats : xM := (yX11_minutesBySeats, cX11_minutesBySeats, 2, some .int)
theorem qX11_minutesBySeats : xMi mX11_minutesBySeats 1 := ⟨⟨xt4 (i := 1) rfl rfl, xt1 (i := 1) rfl rfl, ⟨by decide, by decide⟩, rfl, by decide⟩, xt4 (i := 0) rfl rfl, xp2 (i := 6) (q := (yX11_minutesBySeats, _)) rfl⟩
abbrev mX11_most : xM := (yX11_most, cX11_most, 11, some .int)
theorem qX11_most : xMi mX11_most 1 := ⟨⟨xt4 (i := 6) rfl rfl, xt1 (i := 1) rfl rfl, ⟨by decide, by decide⟩, rfl, by decide⟩, xt4 (i := 4) rfl rfl, xt4 (i := 5) rfl rfl⟩
abbrev mX11_least : xM := (yX11_least, cX11_least, 3, some .int)
theorem qX11_least : xMi mX11_least 1 := ⟨⟨xt4 (i := 34) rfl rfl, xt1 (i := 1) rfl rfl, ⟨by decide, by decide⟩, rfl, by decide⟩, xt4 (i := 32) rfl rfl, xt4 (i := 33) rfl rfl⟩
abbrev mX11_freely : xM := (yX11_freely, cX11_freely, 2, some .int)
theorem qX11_freely : xMi mX11_freely 0 := ⟨⟨xt4 (i := 69) rfl rfl, xt1 (i := 1) rfl rfl, ⟨by decide, by decide⟩, rfl, by decide⟩, xt4 (i := 67) rfl rfl, xt4 (i := 68) rfl rfl⟩
abbrev mX11_best : xM := (yX11_best, cX11_best, 9, some .int)
theorem qX11_best : xMi mX11_best 0 := ⟨⟨xt4 (i := 77) rfl rfl, xt1 (i := 1) rfl rfl, ⟨by decide, by decide⟩, rfl, by decide⟩, xt4 (i := 75) rfl rfl, xt4 (i := 76) rfl rfl⟩
abbrev mX11_waterOfTrial : xM := (yX11_waterOfTrial, cX11_waterOfTrial, 3, some .int)
theorem qX11_waterOfTrial : xMi mX11_waterOfTrial 0 := ⟨⟨xt4 (i := 81) rfl rfl, xt1 (i := 1) rfl rfl, ⟨by decide, by decide⟩, rfl, by decide⟩, xt4 (i := 80) rfl rfl, xp2 (i := 10) (q := (yX11_waterOfTrial, _)) rfl⟩
abbrev mX11_alike : xM := (yX11_alike, cX11_alike, 8, some .int)
theorem qX11_alike : xMi mX11_alike 0 := ⟨⟨xt4 (i := 89) rfl rfl, xt1 (i := 1) rfl rfl, ⟨by decide, by decide⟩, rfl, by decide⟩, xt4 (i := 87) rfl rfl, xt4 (i := 88) rfl rfl⟩
abbrev mX11_parts : xM := (yX11_parts, cX11_parts, 7, some .int)
theorem qX11_parts : xMi mX11_parts 1 := ⟨⟨xt4 (i := 95) rfl rfl, xt1 (i := 1) rfl rfl, ⟨by decide, by decide⟩, rfl, by decide⟩, xt4 (i := 93) rfl rfl, xt4 (i := 94) rfl rfl⟩
abbrev mX11_spare : xM := (yX11_spare, cX11_spare, 8, some .int)
theorem qX11_spare : xMi mX11_spare 0 := ⟨⟨xt4 (i := 102) rfl rfl, xt1 (i := 1) rfl rfl, ⟨by decide, by decide⟩, rfl, by decide⟩, xt4 (i := 100) rfl rfl, xt4 (i := 101) rfl rfl⟩
abbrev mX11_odds : xM := (yX11_odds, cX11_odds, 11, some .int)
theorem qX11_odds : xMi mX11_odds 2 := ⟨⟨xt4 (i := 106) rfl rfl, xt1 (i := 1) rfl rfl, ⟨by decide, by decide⟩, rfl, by decide⟩, xt4 (i := 104) rfl rfl, xt4 (i := 105) rfl rfl⟩
abbrev mX11_power : xM := (yX11_power, cX11_power, 5, some .long)
theorem qX11_power : xMs mX11_power 2 := ⟨⟨xt4 (i := 109) rfl rfl, xt1 (i := 1) rfl rfl, ⟨by decide, by decide⟩, rfl, by decide⟩, xt4 (i := 108) rfl rfl⟩
abbrev mX11_tellFraction : xM := (yX11_tellFraction, cX11_tellFraction, 7, none)
theorem qX11_tellFraction : xMi mX11_tellFraction 2 := ⟨⟨xt4 (i := 113) rfl rfl, xt1 (i := 1) rfl rfl, ⟨by decide, by decide⟩, rfl, by decide⟩, xt4 (i := 112) rfl rfl, xp2 (i := 11) (q := (yX11_tellFraction, _)) rfl⟩
abbrev mX11_greatestDivisor : xM := (yX11_greatestDivisor, cX11_greatestDivisor, 11, some .long)
theorem qX11_greatestDivisor : xMs mX11_greatestDivisor 2 := ⟨⟨xt4 (i := 116) rfl rfl, xt1 (i := 1) rfl rfl, ⟨by decide, by decide⟩, rfl, by decide⟩, xt4 (i := 115) rfl rfl⟩
abbrev mX11_heard : xM := (yX11_heard, cX11_heard, 3, some .int)
theorem qX11_heard : xMi mX11_heard 2 := ⟨⟨xt4 (i := 120) rfl rfl, xt1 (i := 1) rfl rfl, ⟨by decide, by decide⟩, rfl, by decide⟩, xt4 (i := 118) rfl rfl, xt4 (i := 119) rfl rfl⟩
abbrev mX11_mayBeHeard : xM := (yX11_mayBeHeard, cX11_mayBeHeard, 2, some .boolean)
theorem qX11_mayBeHeard : xMs mX11_mayBeHeard 2 := ⟨⟨xt4 (i := 123) rfl rfl, xt1 (i := 1) rfl rfl, ⟨by decide, by decide⟩, rfl, by decide⟩, xt4 (i := 122) rfl rfl⟩
abbrev mX11_forget : xM := (yX11_forget, cX11_forget, 1, some .int)
theorem qX11_forget : xMi mX11_forget 0 := ⟨⟨xt4 (i := 135) rfl rfl, xt1 (i := 1) rfl rfl, ⟨by decide, by decide⟩, rfl, by decide⟩, xt4 (i := 133) rfl rfl, xt4 (i := 134) rfl rfl⟩
abbrev mX11_fits : xM := (yX11_fits, cX11_fits, 2, some .int)
theorem qX11_fits : xMi mX11_fits 0 := ⟨⟨xt4 (i := 143) rfl rfl, xt1 (i := 1) rfl rfl, ⟨by decide, by decide⟩, rfl, by decide⟩, xt4 (i := 141) rfl rfl, xt4 (i := 142) rfl rfl⟩
abbrev mX11_asks : xM := (yX11_asks, cX11_asks, 8, some .int)
theorem qX11_asks : xMi mX11_asks 0 := ⟨⟨xt4 (i := 160) rfl rfl, xt1 (i := 1) rfl rfl, ⟨by decide, by decide⟩, rfl, by decide⟩, xt4 (i := 158) rfl rfl, xt4 (i := 159) rfl rfl⟩
abbrev mX11_saw : xM := (yX11_saw, cX11_saw, 4, some .int)
theorem qX11_saw : xMi mX11_saw 3 := ⟨⟨xt4 (i := 165) rfl rfl, xt1 (i := 1) rfl rfl, ⟨by decide, by decide⟩, rfl, by decide⟩, xt4 (i := 163) rfl rfl, xt4 (i := 164) rfl rfl⟩
abbrev mX11_denies : xM := (yX11_denies, cX11_denies, 1, some .int)
theorem qX11_denies : xMi mX11_denies 0 := ⟨⟨xt4 (i := 177) rfl rfl, xt1 (i := 1) rfl rfl, ⟨by decide, by decide⟩, rfl, by decide⟩, xt4 (i := 175) rfl rfl, xt4 (i := 176) rfl rfl⟩
abbrev mX11_laws : xM := (yX11_laws, cX11_laws, 4, some .int)
theorem qX11_laws : xMi mX11_laws 0 := ⟨⟨xt4 (i := 185) rfl rfl, xt1 (i := 1) rfl rfl, ⟨by decide, by decide⟩, rfl, by decide⟩, xt4 (i := 183) rfl rfl, xt4 (i := 184) rfl rfl⟩
abbrev mX11_looks : xM := (yX11_looks, cX11_looks, 9, some .int)
theorem qX11_looks : xMi mX11_looks 0 := ⟨⟨xt4 (i := 219) rfl rfl, xt1 (i := 1) rfl rfl, ⟨by decide, by decide⟩, rfl, by decide⟩, xt4 (i := 217) rfl rfl, xt4 (i := 218) rfl rfl⟩
abbrev mX11_pails : xM := (yX11_pails, cX11_pails, 3, some .int)
theorem qX11_pails : xMi mX11_pails 1 := ⟨⟨xt4 (i := 224) rfl rfl, xt1 (i := 1) rfl rfl, ⟨by decide, by decide⟩, rfl, by decide⟩, xt4 (i := 222) rfl rfl, xt4 (i := 223) rfl rfl⟩
abbrev mX11_leastWinningTake : xM := (yX11_leastWinningTake, cX11_leastWinningTake, 2, some .int)
theorem qX11_leastWinningTake : xMi mX11_leastWinningTake 1 := ⟨⟨xt4 (i := 228) rfl rfl, xt1 (i := 1) rfl rfl, ⟨by decide, by decide⟩, rfl, by decide⟩, xt4 (i := 227) rfl rfl, xp2 (i := 13) (q := (yX11_leastWinningTake, _)) rfl⟩
abbrev mX11_rests : xM := (yX11_rests, cX11_rests, 7, some .int)
theorem qX11_rests : xMi mX11_rests 1 := ⟨⟨xt4 (i := 232) rfl rfl, xt1 (i := 1) rfl rfl, ⟨by decide, by decide⟩, rfl, by decide⟩, xt4 (i := 230) rfl rfl, xt4 (i := 231) rfl rfl⟩
abbrev mX11_isBestAgainst : xM := (yX11_isBestAgainst, cX11_isBestAgainst, 5, some .boolean)
theorem qX11_isBestAgainst : xMs mX11_isBestAgainst 3 := ⟨⟨xt4 (i := 235) rfl rfl, xt1 (i := 1) rfl rfl, ⟨by decide, by decide⟩, rfl, by decide⟩, xt4 (i := 234) rfl rfl⟩
abbrev mX11_soaked : xM := (yX11_soaked, cX11_soaked, 4, some .int)
theorem qX11_soaked : xMs mX11_soaked 3 := ⟨⟨xt4 (i := 238) rfl rfl, xt1 (i := 1) rfl rfl, ⟨by decide, by decide⟩, rfl, by decide⟩, xt4 (i := 237) rfl rfl⟩
abbrev mX11_law : xM := (yX11_law, cX11_law, 5, some .int)
theorem qX11_law : xMi mX11_law 0 := ⟨⟨xt5 (i := 2) rfl rfl, xt1 (i := 1) rfl rfl, ⟨by decide, by decide⟩, rfl, by decide⟩, xt5 (i := 0) rfl rfl, xt5 (i := 1) rfl rfl⟩
abbrev mX11_runTwentyBy : xM := (yX11_runTwentyBy, cX11_runTwentyBy, 3, some .int)
theorem qX11_runTwentyBy : xMi mX11_runTwentyBy 1 := ⟨⟨xt5 (i := 6) rfl rfl, xt1 (i := 1) rfl rfl, ⟨by decide, by decide⟩, rfl, by decide⟩, xt5 (i := 5) rfl rfl, xp2 (i := 14) (q := (yX11_runTwentyBy, _)) rfl⟩
abbrev mX11_years : xM := (yX11_years, cX11_years, 5, some .int)
theorem qX11_years : xMi mX11_years 2 := ⟨⟨xt5 (i := 10) rfl rfl, xt1 (i := 1) rfl rfl, ⟨by decide, by decide⟩, rfl, by decide⟩, xt5 (i := 8) rfl rfl, xt5 (i := 9) rfl rfl⟩
abbrev mX11_keep : xM := (yX11_keep, cX11_keep, 3, some .boolean)
theorem qX11_keep : xMi mX11_keep 1 := ⟨⟨xt5 (i := 23) rfl rfl, xt1 (i := 1) rfl rfl, ⟨by decide, by decide⟩, rfl, by decide⟩, xt5 (i := 21) rfl rfl, xt5 (i := 22) rfl rfl⟩
abbrev mX11_again : xM := (yX11_again, cX11_again, 2, some .boolean)
theorem qX11_again : xMi mX11_again 1 := ⟨⟨xt5 (i := 27) rfl rfl, xt1 (i := 1) rfl rfl, ⟨by decide, by decide⟩, rfl, by decide⟩, xt5 (i := 25) rfl rfl, xt5 (i := 26) rfl rfl⟩
abbrev mX11_count : xM := (yX11_count, cX11_count, 2, some .int)
theorem qX11_count : xMi mX11_count 1 := ⟨⟨xt5 (i := 31) rfl rfl, xt1 (i := 1) rfl rfl, ⟨by decide, by decide⟩, rfl, by decide⟩, xt5 (i := 29) rfl rfl, xt5 (i := 30) rfl rfl⟩
abbrev mX11_row : xM := (yX11_row, cX11_row, 2, some .long)
theorem qX11_row : xMi mX11_row 1 := ⟨⟨xt5 (i := 111) rfl rfl, xt1 (i := 1) rfl rfl, ⟨by decide, by decide⟩, rfl, by decide⟩, xt5 (i := 109) rfl rfl, xt5 (i := 110) rfl rfl⟩
abbrev mX12_init : xM := (yX12_init, cX12_init, 1, none)
theorem qX12_init : xMc mX12_init 0 := ⟨⟨xt5 (i := 125) rfl rfl, xt1 (i := 13) rfl rfl, ⟨by decide, by decide⟩, rfl, by decide⟩, xt5 (i := 124) rfl rfl, rfl, rfl⟩
abbrev mX12_thrown : xM := (yX12_thrown, cX12_thrown, 1, some .int)
theorem qX12_thrown : xMi mX12_thrown 0 := ⟨⟨xt6 (i := 12) rfl rfl, xt1 (i := 13) rfl rfl, ⟨by decide, by decide⟩, rfl, by decide⟩, xt6 (i := 10) rfl rfl, xt6 (i := 11) rfl rfl⟩
abbrev mX12_in : xM := (yX12_in, cX12_in, 3, some .boolean)
theorem qX12_in : xMs mX12_in 3 := ⟨⟨xt6 (i := 23) rfl rfl, xt1 (i := 13) rfl rfl, ⟨by decide, by decide⟩, rfl, by decide⟩, xt6 (i := 22) rfl rfl⟩
abbrev mX12_has : xM := (yX12_has, cX12_has, 2, some .boolean)
theorem qX12_has : xMs mX12_has 2 := ⟨⟨xt6 (i := 129) rfl rfl, xt1 (i := 13) rfl rfl, ⟨by decide, by decide⟩, rfl, by decide⟩, xt6 (i := 128) rfl rfl⟩
abbrev mX12_lost : xM := (yX12_lost, cX12_lost, 1, some .int)
theorem qX12_lost : xMi mX12_lost 0 := ⟨⟨xt6 (i := 114) rfl rfl, xt1 (i := 13) rfl rfl, ⟨by decide, by decide⟩, rfl, by decide⟩, xt6 (i := 113) rfl rfl, xp4 (i := 2) (q := (yX12_lost, _)) rfl⟩
abbrev mX12_tell : xM := (yX12_tell, cX12_tell, 3, none)
theorem qX12_tell : xMi mX12_tell 1 := ⟨⟨xt6 (i := 183) rfl rfl, xt1 (i := 13) rfl rfl, ⟨by decide, by decide⟩, rfl, by decide⟩, xt6 (i := 182) rfl rfl, xp4 (i := 9) (q := (yX12_tell, _)) rfl⟩
abbrev mX12_isParty : xM := (yX12_isParty, cX12_isParty, 3, some .boolean)
theorem qX12_isParty : xMi mX12_isParty 2 := ⟨⟨xt6 (i := 110) rfl rfl, xt1 (i := 13) rfl rfl, ⟨by decide, by decide⟩, rfl, by decide⟩, xt6 (i := 109) rfl rfl, xp4 (i := 1) (q := (yX12_isParty, _)) rfl⟩
abbrev mX12_waits : xM := (yX12_waits, cX12_waits, 1, some .int)
theorem qX12_waits : xMs mX12_waits 1 := ⟨⟨xt6 (i := 139) rfl rfl, xt1 (i := 13) rfl rfl, ⟨by decide, by decide⟩, rfl, by decide⟩, xt6 (i := 138) rfl rfl⟩
abbrev mX12_sign : xM := (yX12_sign, cX12_sign, 3, some .int)
theorem qX12_sign : xMi mX12_sign 1 := ⟨⟨xt6 (i := 16) rfl rfl, xt1 (i := 13) rfl rfl, ⟨by decide, by decide⟩, rfl, by decide⟩, xt6 (i := 14) rfl rfl, xt6 (i := 15) rfl rfl⟩
abbrev mX12_end : xM := (yX12_end, cX12_end, 2, some .boolean)
theorem qX12_end : xMi mX12_end 1 := ⟨⟨xt6 (i := 20) rfl rfl, xt1 (i := 13) rfl rfl, ⟨by decide, by decide⟩, rfl, by decide⟩, xt6 (i := 18) rfl rfl, xt6 (i := 19) rfl rfl⟩
abbrev mX12_begin : xM := (yX12_begin, cX12_begin, 4, none)
theorem qX12_begin : xMi mX12_begin 3 := ⟨⟨xt6 (i := 35) rfl rfl, xt1 (i := 13) rfl rfl, ⟨by decide, by decide⟩, rfl, by decide⟩, xt6 (i := 34) rfl rfl, xp3 (i := 1) (q := (yX12_begin, _)) rfl⟩
abbrev mX12_beginText : xM := (yX12_beginText, cX12_beginText, 2, none)
theorem qX12_beginText : xMi mX12_beginText 1 := ⟨⟨xt6 (i := 31) rfl rfl, xt1 (i := 13) rfl rfl, ⟨by decide, by decide⟩, rfl, by decide⟩, xt6 (i := 30) rfl rfl, xp3 (i := 0) (q := (yX12_beginText, _)) rfl⟩
abbrev mX12_here : xM := (yX12_here, cX12_here, 1, some .int)
theorem qX12_here : xMi mX12_here 0 := ⟨⟨xt6 (i := 43) rfl rfl, xt1 (i := 13) rfl rfl, ⟨by decide, by decide⟩, rfl, by decide⟩, xt6 (i := 42) rfl rfl, xp3 (i := 3) (q := (yX12_here, _)) rfl⟩
abbrev mX12_fine : xM := (yX12_fine, cX12_fine, 1, some .boolean)
theorem qX12_fine : xMi mX12_fine 0 := ⟨⟨xt6 (i := 39) rfl rfl, xt1 (i := 13) rfl rfl, ⟨by decide, by decide⟩, rfl, by decide⟩, xt6 (i := 38) rfl rfl, xp3 (i := 2) (q := (yX12_fine, _)) rfl⟩
abbrev mX12_fault : xM := (yX12_fault, cX12_fault, 2, none)
theorem qX12_fault : xMi mX12_fault 1 := ⟨⟨xt6 (i := 51) rfl rfl, xt1 (i := 13) rfl rfl, ⟨by decide, by decide⟩, rfl, by decide⟩, xt6 (i := 50) rfl rfl, xp3 (i := 5) (q := (yX12_fault, _)) rfl⟩
abbrev mX12_passes : xM := (yX12_passes, cX12_passes, 2, some .boolean)
theorem qX12_passes : xMi mX12_passes 1 := ⟨⟨xt6 (i := 59) rfl rfl, xt1 (i := 13) rfl rfl, ⟨by decide, by decide⟩, rfl, by decide⟩, xt6 (i := 58) rfl rfl, xp3 (i := 7) (q := (yX12_passes, _)) rfl⟩
abbrev mX12_need : xM := (yX12_need, cX12_need, 2, none)
theorem qX12_need : xMi mX12_need 1 := ⟨⟨xt6 (i := 95) rfl rfl, xt1 (i := 13) rfl rfl, ⟨by decide, by decide⟩, rfl, by decide⟩, xt6 (i := 94) rfl rfl, xp3 (i := 15) (q := (yX12_need, _)) rfl⟩
abbrev mX12_oneOf : xM := (yX12_oneOf, cX12_oneOf, 3, some .int)
theorem qX12_oneOf : xMi mX12_oneOf 2 := ⟨⟨xt6 (i := 55) rfl rfl, xt1 (i := 13) rfl rfl, ⟨by decide, by decide⟩, rfl, by decide⟩, xt6 (i := 54) rfl rfl, xp3 (i := 6) (q := (yX12_oneOf, _)) rfl⟩
abbrev mX12_number : xM := (yX12_number, cX12_number, 4, some .int)
theorem qX12_number : xMi mX12_number 1 := ⟨⟨xt6 (i := 99) rfl rfl, xt1 (i := 13) rfl rfl, ⟨by decide, by decide⟩, rfl, by decide⟩, xt6 (i := 98) rfl rfl, xp4 (i := 0) (q := (yX12_number, _)) rfl⟩
abbrev mX12_wasRight : xM := (yX12_wasRight, cX12_wasRight, 1, some .boolean)
theorem qX12_wasRight : xMi mX12_wasRight 0 := ⟨⟨xt6 (i := 67) rfl rfl, xt1 (i := 13) rfl rfl, ⟨by decide, by decide⟩, rfl, by decide⟩, xt6 (i := 66) rfl rfl, xp3 (i := 9) (q := (yX12_wasRight, _)) rfl⟩
abbrev mX12_readSide : xM := (yX12_readSide, cX12_readSide, 3, none)
theorem qX12_readSide : xMi mX12_readSide 1 := ⟨⟨xt6 (i := 47) rfl rfl, xt1 (i := 13) rfl rfl, ⟨by decide, by decide⟩, rfl, by decide⟩, xt6 (i := 46) rfl rfl, xp3 (i := 4) (q := (yX12_readSide, _)) rfl⟩
abbrev mX12_parties : xM := (yX12_parties, cX12_parties, 3, some .int)
theorem qX12_parties : xMi mX12_parties 0 := ⟨⟨xt6 (i := 27) rfl rfl, xt1 (i := 13) rfl rfl, ⟨by decide, by decide⟩, rfl, by decide⟩, xt6 (i := 25) rfl rfl, xt6 (i := 26) rfl rfl⟩
abbrev mX12_readBelow : xM := (yX12_readBelow, cX12_readBelow, 2, none)
theorem qX12_readBelow : xMi mX12_readBelow 0 := ⟨⟨xt6 (i := 63) rfl rfl, xt1 (i := 13) rfl rfl, ⟨by decide, by decide⟩, rfl, by decide⟩, xt6 (i := 62) rfl rfl, xp3 (i := 8) (q := (yX12_readBelow, _)) rfl⟩
abbrev mX12_held : xM := (yX12_held, cX12_held, 3, some .int)
theorem qX12_held : xMi mX12_held 1 := ⟨⟨xt6 (i := 79) rfl rfl, xt1 (i := 13) rfl rfl, ⟨by decide, by decide⟩, rfl, by decide⟩, xt6 (i := 78) rfl rfl, xp3 (i := 11) (q := (yX12_held, _)) rfl⟩
abbrev mX12_sum : xM := (yX12_sum, cX12_sum, 5, some .int)
theorem qX12_sum : xMi mX12_sum 1 := ⟨⟨xt6 (i := 83) rfl rfl, xt1 (i := 13) rfl rfl, ⟨by decide, by decide⟩, rfl, by decide⟩, xt6 (i := 82) rfl rfl, xp3 (i := 12) (q := (yX12_sum, _)) rfl⟩
abbrev mX12_product : xM := (yX12_product, cX12_product, 5, some .int)
theorem qX12_product : xMi mX12_product 1 := ⟨⟨xt6 (i := 87) rfl rfl, xt1 (i := 13) rfl rfl, ⟨by decide, by decide⟩, rfl, by decide⟩, xt6 (i := 86) rfl rfl, xp3 (i := 13) (q := (yX12_product, _)) rfl⟩
abbrev mX12_letterOf : xM := (yX12_letterOf, cX12_letterOf, 1, some .int)
theorem qX12_letterOf : xMs mX12_letterOf 1 := ⟨⟨xt6 (i := 102) rfl rfl, xt1 (i := 13) rfl rfl, ⟨by decide, by decide⟩, rfl, by decide⟩, xt6 (i := 101) rfl rfl⟩
abbrev mX12_thing : xM := (yX12_thing, cX12_thing, 4, some .int)
theorem qX12_thing : xMi mX12_thing 1 := ⟨⟨xt6 (i := 91) rfl rfl, xt1 (i := 13) rfl rfl, ⟨by decide, by decide⟩, rfl, by decide⟩, xt6 (i := 90) rfl rfl, xp3 (i := 14) (q := (yX12_thing, _)) rfl⟩
abbrev mX12_readRule : xM := (yX12_readRule, cX12_readRule, 1, some .boolean)
theorem qX12_readRule : xMi mX12_readRule 0 := ⟨⟨xt6 (i := 75) rfl rfl, xt1 (i := 13) rfl rfl, ⟨by decide, by decide⟩, rfl, by decide⟩, xt6 (i := 74) rfl rfl, xp3 (i := 10) (q := (yX12_readRule, _)) rfl⟩
abbrev mX12_rule : xM := (yX12_rule, cX12_rule, 3, some .int)
theorem qX12_rule : xMi mX12_rule 0 := ⟨⟨xt6 (i := 71) rfl rfl, xt1 (i := 13) rfl rfl, ⟨by decide, by decide⟩, rfl, by decide⟩, xt6 (i := 69) rfl rfl, xt6 (i := 70) rfl rfl⟩
abbrev mX12_weightOf : xM := (yX12_weightOf, cX12_weightOf, 5, some .int)
theorem qX12_weightOf : xMs mX12_weightOf 3 := ⟨⟨xt6 (i := 126) rfl rfl, xt1 (i := 13) rfl rfl, ⟨by decide, by decide⟩, rfl, by decide⟩, xt6 (i := 125) rfl rfl⟩
abbrev mX12_allOf : xM := (yX12_allOf, cX12_allOf, 2, some .int)
theorem qX12_allOf : xMs mX12_allOf 2 := ⟨⟨xt6 (i := 123) rfl rfl, xt1 (i := 13) rfl rfl, ⟨by decide, by decide⟩, rfl, by decide⟩, xt6 (i := 122) rfl rfl⟩
abbrev mX12_spring : xM := (yX12_spring, cX12_spring, 3, some .int)
theorem qX12_spring : xMi mX12_spring 1 := ⟨⟨xt6 (i := 174) rfl rfl, xt1 (i := 13) rfl rfl, ⟨by decide, by decide⟩, rfl, by decide⟩, xt6 (i := 173) rfl rfl, xp4 (i := 7) (q := (yX12_spring, _)) rfl⟩
abbrev mX12_party : xM := (yX12_party, cX12_party, 3, some .int)
theorem qX12_party : xMi mX12_party 2 := ⟨⟨xt6 (i := 106) rfl rfl, xt1 (i := 13) rfl rfl, ⟨by decide, by decide⟩, rfl, by decide⟩, xt6 (i := 104) rfl rfl, xt6 (i := 105) rfl rfl⟩
abbrev mX12_sheet : xM := (yX12_sheet, cX12_sheet, 8, some .int)
theorem qX12_sheet : xMi mX12_sheet 4 := ⟨⟨xt6 (i := 118) rfl rfl, xt1 (i := 13) rfl rfl, ⟨by decide, by decide⟩, rfl, by decide⟩, xt6 (i := 116) rfl rfl, xt6 (i := 117) rfl rfl⟩
abbrev mX12_lay : xM := (yX12_lay, cX12_lay, 4, none)
theorem qX12_lay : xMs mX12_lay 3 := ⟨⟨xt6 (i := 155) rfl rfl, xt1 (i := 13) rfl rfl, ⟨by decide, by decide⟩, rfl, by decide⟩, xt6 (i := 154) rfl rfl⟩
abbrev mX12_remember : xM := (yX12_remember, cX12_remember, 3, none)
theorem qX12_remember : xMi mX12_remember 1 := ⟨⟨xt6 (i := 152) rfl rfl, xt1 (i := 13) rfl rfl, ⟨by decide, by decide⟩, rfl, by decide⟩, xt6 (i := 151) rfl rfl, xp4 (i := 3) (q := (yX12_remember, _)) rfl⟩
abbrev mX12_goMinute : xM := (yX12_goMinute, cX12_goMinute, 2, none)
theorem qX12_goMinute : xMi mX12_goMinute 1 := ⟨⟨xt6 (i := 170) rfl rfl, xt1 (i := 13) rfl rfl, ⟨by decide, by decide⟩, rfl, by decide⟩, xt6 (i := 169) rfl rfl, xp4 (i := 6) (q := (yX12_goMinute, _)) rfl⟩
abbrev mX12_water : xM := (yX12_water, cX12_water, 3, some .int)
theorem qX12_water : xMs mX12_water 3 := ⟨⟨xt6 (i := 148) rfl rfl, xt1 (i := 13) rfl rfl, ⟨by decide, by decide⟩, rfl, by decide⟩, xt6 (i := 147) rfl rfl⟩
abbrev mX12_goOut : xM := (yX12_goOut, cX12_goOut, 5, none)
theorem qX12_goOut : xMs mX12_goOut 3 := ⟨⟨xt6 (i := 166) rfl rfl, xt1 (i := 13) rfl rfl, ⟨by decide, by decide⟩, rfl, by decide⟩, xt6 (i := 165) rfl rfl⟩
abbrev mX12_goTrip : xM := (yX12_goTrip, cX12_goTrip, 4, some .int)
theorem qX12_goTrip : xMi mX12_goTrip 3 := ⟨⟨xt6 (i := 163) rfl rfl, xt1 (i := 13) rfl rfl, ⟨by decide, by decide⟩, rfl, by decide⟩, xt6 (i := 162) rfl rfl, xp4 (i := 5) (q := (yX12_goTrip, _)) rfl⟩
abbrev mX12_nextOf : xM := (yX12_nextOf, cX12_nextOf, 2, some .int)
theorem qX12_nextOf : xMs mX12_nextOf 2 := ⟨⟨xt6 (i := 145) rfl rfl, xt1 (i := 13) rfl rfl, ⟨by decide, by decide⟩, rfl, by decide⟩, xt6 (i := 144) rfl rfl⟩
abbrev mX12_nextWater : xM := (yX12_nextWater, cX12_nextWater, 1, some .int)
theorem qX12_nextWater : xMs mX12_nextWater 1 := ⟨⟨xt6 (i := 142) rfl rfl, xt1 (i := 13) rfl rfl, ⟨by decide, by decide⟩, rfl, by decide⟩, xt6 (i := 141) rfl rfl⟩
abbrev mX12_goNext : xM := (yX12_goNext, cX12_goNext, 2, some .int)
theorem qX12_goNext : xMi mX12_goNext 1 := ⟨⟨xt6 (i := 159) rfl rfl, xt1 (i := 13) rfl rfl, ⟨by decide, by decide⟩, rfl, by decide⟩, xt6 (i := 158) rfl rfl, xp4 (i := 4) (q := (yX12_goNext, _)) rfl⟩
abbrev mX12_canGo : xM := (yX12_canGo, cX12_canGo, 1, some .boolean)
theorem qX12_canGo : xMs mX12_canGo 1 := ⟨⟨xt6 (i := 206) rfl rfl, xt1 (i := 13) rfl rfl, ⟨by decide, by decide⟩, rfl, by decide⟩, xt6 (i := 205) rfl rfl⟩
abbrev mX12_goRunning : xM := (yX12_goRunning, cX12_goRunning, 3, some .boolean)
theorem qX12_goRunning : xMi mX12_goRunning 1 := ⟨⟨xt6 (i := 203) rfl rfl, xt1 (i := 13) rfl rfl, ⟨by decide, by decide⟩, rfl, by decide⟩, xt6 (i := 202) rfl rfl, xp4 (i := 12) (q := (yX12_goRunning, _)) rfl⟩
abbrev mX12_tellTrip : xM := (yX12_tellTrip, cX12_tellTrip, 3, some .int)
theorem qX12_tellTrip : xMi mX12_tellTrip 2 := ⟨⟨xt6 (i := 179) rfl rfl, xt1 (i := 13) rfl rfl, ⟨by decide, by decide⟩, rfl, by decide⟩, xt6 (i := 178) rfl rfl, xp4 (i := 8) (q := (yX12_tellTrip, _)) rfl⟩
abbrev mX12_refusesTrip : xM := (yX12_refusesTrip, cX12_refusesTrip, 1, some .int)
theorem qX12_refusesTrip : xMs mX12_refusesTrip 1 := ⟨⟨xt6 (i := 136) rfl rfl, xt1 (i := 13) rfl rfl, ⟨by decide, by decide⟩, rfl, by decide⟩, xt6 (i := 135) rfl rfl⟩
abbrev mX12_trip : xM := (yX12_trip, cX12_trip, 3, some .int)
theorem qX12_trip : xMi mX12_trip 0 := ⟨⟨xt6 (i := 133) rfl rfl, xt1 (i := 13) rfl rfl, ⟨by decide, by decide⟩, rfl, by decide⟩, xt6 (i := 131) rfl rfl, xt6 (i := 132) rfl rfl⟩
abbrev mX12_isGroup : xM := (yX12_isGroup, cX12_isGroup, 4, some .boolean)
theorem qX12_isGroup : xMi mX12_isGroup 3 := ⟨⟨xt6 (i := 191) rfl rfl, xt1 (i := 13) rfl rfl, ⟨by decide, by decide⟩, rfl, by decide⟩, xt6 (i := 190) rfl rfl, xp4 (i := 10) (q := (yX12_isGroup, _)) rfl⟩
abbrev mX12_sends : xM := (yX12_sends, cX12_sends, 4, some .int)
theorem qX12_sends : xMi mX12_sends 2 := ⟨⟨xt6 (i := 187) rfl rfl, xt1 (i := 13) rfl rfl, ⟨by decide, by decide⟩, rfl, by decide⟩, xt6 (i := 185) rfl rfl, xt6 (i := 186) rfl rfl⟩
abbrev mX12_goRuns : xM := (yX12_goRuns, cX12_goRuns, 6, some .int)
theorem qX12_goRuns : xMi mX12_goRuns 2 := ⟨⟨xt6 (i := 199) rfl rfl, xt1 (i := 13) rfl rfl, ⟨by decide, by decide⟩, rfl, by decide⟩, xt6 (i := 198) rfl rfl, xp4 (i := 11) (q := (yX12_goRuns, _)) rfl⟩
abbrev mX12_runs : xM := (yX12_runs, cX12_runs, 3, some .int)
theorem qX12_runs : xMi mX12_runs 1 := ⟨⟨xt6 (i := 195) rfl rfl, xt1 (i := 13) rfl rfl, ⟨by decide, by decide⟩, rfl, by decide⟩, xt6 (i := 193) rfl rfl, xt6 (i := 194) rfl rfl⟩
abbrev mX12_refusesGrip : xM := (yX12_refusesGrip, cX12_refusesGrip, 2, some .int)
theorem qX12_refusesGrip : xMi mX12_refusesGrip 1 := ⟨⟨xt6 (i := 214) rfl rfl, xt1 (i := 13) rfl rfl, ⟨by decide, by decide⟩, rfl, by decide⟩, xt6 (i := 213) rfl rfl, xp4 (i := 13) (q := (yX12_refusesGrip, _)) rfl⟩
abbrev mX12_grips : xM := (yX12_grips, cX12_grips, 4, some .int)
theorem qX12_grips : xMi mX12_grips 1 := ⟨⟨xt6 (i := 210) rfl rfl, xt1 (i := 13) rfl rfl, ⟨by decide, by decide⟩, rfl, by decide⟩, xt6 (i := 208) rfl rfl, xt6 (i := 209) rfl rfl⟩
abbrev mX12_refusesSeats : xM := (yX12_refusesSeats, cX12_refusesSeats, 2, some .int)
theorem qX12_refusesSeats : xMi mX12_refusesSeats 1 := ⟨⟨xt6 (i := 222) rfl rfl, xt1 (i := 13) rfl rfl, ⟨by decide, by decide⟩, rfl, by decide⟩, xt6 (i := 221) rfl rfl, xp4 (i := 14) (q := (yX12_refusesSeats, _)) rfl⟩
abbrev mX12_seats : xM := (yX12_seats, cX12_seats, 4, some .int)
theorem qX12_seats : xMi mX12_seats 1 := ⟨⟨xt6 (i := 218) rfl rfl, xt1 (i := 13) rfl rfl, ⟨by decide, by decide⟩, rfl, by decide⟩, xt6 (i := 216) rfl rfl, xt6 (i := 217) rfl rfl⟩
abbrev mX12_leaves : xM := (yX12_leaves, cX12_leaves, 3, some .int)
theorem qX12_leaves : xMi mX12_leaves 2 := ⟨⟨xt6 (i := 226) rfl rfl, xt1 (i := 13) rfl rfl, ⟨by decide, by decide⟩, rfl, by decide⟩, xt6 (i := 224) rfl rfl, xt6 (i := 225) rfl rfl⟩
abbrev mX12_refusesSwap : xM := (yX12_refusesSwap, cX12_refusesSwap, 3, some .int)
theorem qX12_refusesSwap : xMi mX12_refusesSwap 2 := ⟨⟨xt6 (i := 234) rfl rfl, xt1 (i := 13) rfl rfl, ⟨by decide, by decide⟩, rfl, by decide⟩, xt6 (i := 233) rfl rfl, xp4 (i := 15) (q := (yX12_refusesSwap, _)) rfl⟩
abbrev mX12_change : xM := (yX12_change, cX12_change, 4, none)
theorem qX12_change : xMs mX12_change 3 := ⟨⟨xt6 (i := 237) rfl rfl, xt1 (i := 13) rfl rfl, ⟨by decide, by decide⟩, rfl, by decide⟩, xt6 (i := 236) rfl rfl⟩
abbrev mX12_swaps : xM := (yX12_swaps, cX12_swaps, 4, some .int)
theorem qX12_swaps : xMi mX12_swaps 2 := ⟨⟨xt6 (i := 230) rfl rfl, xt1 (i := 13) rfl rfl, ⟨by decide, by decide⟩, rfl, by decide⟩, xt6 (i := 228) rfl rfl, xt6 (i := 229) rfl rfl⟩
abbrev mX12_refusesDrain : xM := (yX12_refusesDrain, cX12_refusesDrain, 2, some .int)
theorem qX12_refusesDrain : xMi mX12_refusesDrain 1 := ⟨⟨xt7 (i := 5) rfl rfl, xt1 (i := 13) rfl rfl, ⟨by decide, by decide⟩, rfl, by decide⟩, xt7 (i := 4) rfl rfl, xp5 (i := 0) (q := (yX12_refusesDrain, _)) rfl⟩
abbrev mX12_drains : xM := (yX12_drains, cX12_drains, 3, some .int)
theorem qX12_drains : xMi mX12_drains 1 := ⟨⟨xt7 (i := 1) rfl rfl, xt1 (i := 13) rfl rfl, ⟨by decide, by decide⟩, rfl, by decide⟩, xt6 (i := 239) rfl rfl, xt7 (i := 0) rfl rfl⟩
abbrev mX12_day : xM := (yX12_day, cX12_day, 3, some .int)
theorem qX12_day : xMi mX12_day 0 := ⟨⟨xt7 (i := 9) rfl rfl, xt1 (i := 13) rfl rfl, ⟨by decide, by decide⟩, rfl, by decide⟩, xt7 (i := 7) rfl rfl, xt7 (i := 8) rfl rfl⟩
abbrev mX12_readAct : xM := (yX12_readAct, cX12_readAct, 3, none)
theorem qX12_readAct : xMi mX12_readAct 1 := ⟨⟨xt7 (i := 13) rfl rfl, xt1 (i := 13) rfl rfl, ⟨by decide, by decide⟩, rfl, by decide⟩, xt7 (i := 12) rfl rfl, xp5 (i := 1) (q := (yX12_readAct, _)) rfl⟩
abbrev mX12_act : xM := (yX12_act, cX12_act, 4, some .boolean)
theorem qX12_act : xMi mX12_act 3 := ⟨⟨xt7 (i := 17) rfl rfl, xt1 (i := 13) rfl rfl, ⟨by decide, by decide⟩, rfl, by decide⟩, xt7 (i := 16) rfl rfl, xp5 (i := 2) (q := (yX12_act, _)) rfl⟩
abbrev mX12_undo : xM := (yX12_undo, cX12_undo, 2, some .int)
theorem qX12_undo : xMi mX12_undo 0 := ⟨⟨xt7 (i := 21) rfl rfl, xt1 (i := 13) rfl rfl, ⟨by decide, by decide⟩, rfl, by decide⟩, xt7 (i := 19) rfl rfl, xt7 (i := 20) rfl rfl⟩
abbrev mX12_needs : xM := (yX12_needs, cX12_needs, 1, some .int)
theorem qX12_needs : xMi mX12_needs 0 := ⟨⟨xt7 (i := 25) rfl rfl, xt1 (i := 13) rfl rfl, ⟨by decide, by decide⟩, rfl, by decide⟩, xt7 (i := 23) rfl rfl, xt7 (i := 24) rfl rfl⟩
abbrev mX12_later : xM := (yX12_later, cX12_later, 2, some .int)
theorem qX12_later : xMi mX12_later 1 := ⟨⟨xt7 (i := 29) rfl rfl, xt1 (i := 13) rfl rfl, ⟨by decide, by decide⟩, rfl, by decide⟩, xt7 (i := 27) rfl rfl, xt7 (i := 28) rfl rfl⟩
abbrev mX12_done : xM := (yX12_done, cX12_done, 3, some .int)
theorem qX12_done : xMi mX12_done 0 := ⟨⟨xt7 (i := 33) rfl rfl, xt1 (i := 13) rfl rfl, ⟨by decide, by decide⟩, rfl, by decide⟩, xt7 (i := 31) rfl rfl, xt7 (i := 32) rfl rfl⟩
abbrev mX12_dry : xM := (yX12_dry, cX12_dry, 3, some .int)
theorem qX12_dry : xMi mX12_dry 1 := ⟨⟨xt7 (i := 37) rfl rfl, xt1 (i := 13) rfl rfl, ⟨by decide, by decide⟩, rfl, by decide⟩, xt7 (i := 35) rfl rfl, xt7 (i := 36) rfl rfl⟩
abbrev mX12_when : xM := (yX12_when, cX12_when, 7, some .int)
theorem qX12_when : xMi mX12_when 2 := ⟨⟨xt7 (i := 41) rfl rfl, xt1 (i := 13) rfl rfl, ⟨by decide, by decide⟩, rfl, by decide⟩, xt7 (i := 39) rfl rfl, xt7 (i := 40) rfl rfl⟩
abbrev mX12_enough : xM := (yX12_enough, cX12_enough, 3, some .int)
theorem qX12_enough : xMi mX12_enough 0 := ⟨⟨xt7 (i := 45) rfl rfl, xt1 (i := 13) rfl rfl, ⟨by decide, by decide⟩, rfl, by decide⟩, xt7 (i := 43) rfl rfl, xt7 (i := 44) rfl rfl⟩
abbrev mX12_waiting : xM := (yX12_waiting, cX12_waiting, 5, some .int)
theorem qX12_waiting : xMi mX12_waiting 0 := ⟨⟨xt7 (i := 49) rfl rfl, xt1 (i := 13) rfl rfl, ⟨by decide, by decide⟩, rfl, by decide⟩, xt7 (i := 47) rfl rfl, xt7 (i := 48) rfl rfl⟩
abbrev mX12_holds : xM := (yX12_holds, cX12_holds, 5, some .int)
theorem qX12_holds : xMi mX12_holds 1 := ⟨⟨xt7 (i := 53) rfl rfl, xt1 (i := 13) rfl rfl, ⟨by decide, by decide⟩, rfl, by decide⟩, xt7 (i := 51) rfl rfl, xt7 (i := 52) rfl rfl⟩
abbrev mX12_soonest : xM := (yX12_soonest, cX12_soonest, 4, some .int)
theorem qX12_soonest : xMi mX12_soonest 0 := ⟨⟨xt7 (i := 57) rfl rfl, xt1 (i := 13) rfl rfl, ⟨by decide, by decide⟩, rfl, by decide⟩, xt7 (i := 55) rfl rfl, xt7 (i := 56) rfl rfl⟩
abbrev mX12_most : xM := (yX12_most, cX12_most, 10, some .int)
theorem qX12_most : xMi mX12_most 1 := ⟨⟨xt7 (i := 61) rfl rfl, xt1 (i := 13) rfl rfl, ⟨by decide, by decide⟩, rfl, by decide⟩, xt7 (i := 59) rfl rfl, xt7 (i := 60) rfl rfl⟩
abbrev mX12_layWeighs : xM := (yX12_layWeighs, cX12_layWeighs, 3, none)
theorem qX12_layWeighs : xMi mX12_layWeighs 0 := ⟨⟨xt7 (i := 74) rfl rfl, xt1 (i := 13) rfl rfl, ⟨by decide, by decide⟩, rfl, by decide⟩, xt7 (i := 73) rfl rfl, xp5 (i := 4) (q := (yX12_layWeighs, _)) rfl⟩
abbrev mX12_leastOf : xM := (yX12_leastOf, cX12_leastOf, 8, some .int)
theorem qX12_leastOf : xMi mX12_leastOf 2 := ⟨⟨xt7 (i := 86) rfl rfl, xt1 (i := 13) rfl rfl, ⟨by decide, by decide⟩, rfl, by decide⟩, xt7 (i := 85) rfl rfl, xp5 (i := 7) (q := (yX12_leastOf, _)) rfl⟩
abbrev mX12_whole : xM := (yX12_whole, cX12_whole, 1, some .int)
theorem qX12_whole : xMi mX12_whole 0 := ⟨⟨xt7 (i := 82) rfl rfl, xt1 (i := 13) rfl rfl, ⟨by decide, by decide⟩, rfl, by decide⟩, xt7 (i := 81) rfl rfl, xp5 (i := 6) (q := (yX12_whole, _)) rfl⟩
abbrev mX12_layNone : xM := (yX12_layNone, cX12_layNone, 2, none)
theorem qX12_layNone : xMi mX12_layNone 0 := ⟨⟨xt7 (i := 70) rfl rfl, xt1 (i := 13) rfl rfl, ⟨by decide, by decide⟩, rfl, by decide⟩, xt7 (i := 69) rfl rfl, xp5 (i := 3) (q := (yX12_layNone, _)) rfl⟩
abbrev mX12_layMore : xM := (yX12_layMore, cX12_layMore, 4, none)
theorem qX12_layMore : xMi mX12_layMore 1 := ⟨⟨xt7 (i := 78) rfl rfl, xt1 (i := 13) rfl rfl, ⟨by decide, by decide⟩, rfl, by decide⟩, xt7 (i := 77) rfl rfl, xp5 (i := 5) (q := (yX12_layMore, _)) rfl⟩
abbrev mX12_tellFirst : xM := (yX12_tellFirst, cX12_tellFirst, 2, some .int)
theorem qX12_tellFirst : xMi mX12_tellFirst 1 := ⟨⟨xt7 (i := 90) rfl rfl, xt1 (i := 13) rfl rfl, ⟨by decide, by decide⟩, rfl, by decide⟩, xt7 (i := 89) rfl rfl, xp5 (i := 8) (q := (yX12_tellFirst, _)) rfl⟩
abbrev mX12_least : xM := (yX12_least, cX12_least, 3, some .int)
theorem qX12_least : xMi mX12_least 1 := ⟨⟨xt7 (i := 66) rfl rfl, xt1 (i := 13) rfl rfl, ⟨by decide, by decide⟩, rfl, by decide⟩, xt7 (i := 64) rfl rfl, xt7 (i := 65) rfl rfl⟩
abbrev mX12_freely : xM := (yX12_freely, cX12_freely, 2, some .int)
theorem qX12_freely : xMi mX12_freely 0 := ⟨⟨xt7 (i := 94) rfl rfl, xt1 (i := 13) rfl rfl, ⟨by decide, by decide⟩, rfl, by decide⟩, xt7 (i := 92) rfl rfl, xt7 (i := 93) rfl rfl⟩
abbrev mX12_allWater : xM := (yX12_allWater, cX12_allWater, 5, some .int)
theorem qX12_allWater : xMi mX12_allWater 1 := ⟨⟨xt7 (i := 102) rfl rfl, xt1 (i := 13) rfl rfl, ⟨by decide, by decide⟩, rfl, by decide⟩, xt7 (i := 101) rfl rfl, xp5 (i := 9) (q := (yX12_allWater, _)) rfl⟩
abbrev mX12_best : xM := (yX12_best, cX12_best, 9, some .int)
theorem qX12_best : xMi mX12_best 0 := ⟨⟨xt7 (i := 98) rfl rfl, xt1 (i := 13) rfl rfl, ⟨by decide, by decide⟩, rfl, by decide⟩, xt7 (i := 96) rfl rfl, xt7 (i := 97) rfl rfl⟩
abbrev mX12_parts : xM := (yX12_parts, cX12_parts, 5, some .int)
theorem qX12_parts : xMi mX12_parts 1 := ⟨⟨xt7 (i := 106) rfl rfl, xt1 (i := 13) rfl rfl, ⟨by decide, by decide⟩, rfl, by decide⟩, xt7 (i := 104) rfl rfl, xt7 (i := 105) rfl rfl⟩
abbrev mX12_spare : xM := (yX12_spare, cX12_spare, 7, some .int)
theorem qX12_spare : xMi mX12_spare 0 := ⟨⟨xt7 (i := 111) rfl rfl, xt1 (i := 13) rfl rfl, ⟨by decide, by decide⟩, rfl, by decide⟩, xt7 (i := 109) rfl rfl, xt7 (i := 110) rfl rfl⟩
abbrev mX12_alike : xM := (yX12_alike, cX12_alike, 8, some .int)
theorem qX12_alike : xMi mX12_alike 0 := ⟨⟨xt7 (i := 115) rfl rfl, xt1 (i := 13) rfl rfl, ⟨by decide, by decide⟩, rfl, by decide⟩, xt7 (i := 113) rfl rfl, xt7 (i := 114) rfl rfl⟩
abbrev mX12_common : xM := (yX12_common, cX12_common, 4, some .long)
theorem qX12_common : xMs mX12_common 2 := ⟨⟨xt7 (i := 123) rfl rfl, xt1 (i := 13) rfl rfl, ⟨by decide, by decide⟩, rfl, by decide⟩, xt7 (i := 122) rfl rfl⟩
abbrev mX12_odds : xM := (yX12_odds, cX12_odds, 16, some .int)
theorem qX12_odds : xMi mX12_odds 2 := ⟨⟨xt7 (i := 119) rfl rfl, xt1 (i := 13) rfl rfl, ⟨by decide, by decide⟩, rfl, by decide⟩, xt7 (i := 117) rfl rfl, xt7 (i := 118) rfl rfl⟩
abbrev mX12_lowOf : xM := (yX12_lowOf, cX12_lowOf, 1, some .int)
theorem qX12_lowOf : xMs mX12_lowOf 1 := ⟨⟨xt7 (i := 130) rfl rfl, xt1 (i := 13) rfl rfl, ⟨by decide, by decide⟩, rfl, by decide⟩, xt7 (i := 129) rfl rfl⟩
abbrev mX12_highOf : xM := (yX12_highOf, cX12_highOf, 1, some .int)
theorem qX12_highOf : xMs mX12_highOf 1 := ⟨⟨xt7 (i := 133) rfl rfl, xt1 (i := 13) rfl rfl, ⟨by decide, by decide⟩, rfl, by decide⟩, xt7 (i := 132) rfl rfl⟩
abbrev mX12_heard : xM := (yX12_heard, cX12_heard, 3, some .int)
theorem qX12_heard : xMi mX12_heard 2 := ⟨⟨xt7 (i := 127) rfl rfl, xt1 (i := 13) rfl rfl, ⟨by decide, by decide⟩, rfl, by decide⟩, xt7 (i := 125) rfl rfl, xt7 (i := 126) rfl rfl⟩
abbrev mX12_forget : xM := (yX12_forget, cX12_forget, 2, some .int)
theorem qX12_forget : xMi mX12_forget 0 := ⟨⟨xt7 (i := 137) rfl rfl, xt1 (i := 13) rfl rfl, ⟨by decide, by decide⟩, rfl, by decide⟩, xt7 (i := 135) rfl rfl, xt7 (i := 136) rfl rfl⟩
abbrev mX12_isSo : xM := (yX12_isSo, cX12_isSo, 6, some .boolean)
theorem qX12_isSo : xMi mX12_isSo 3 := ⟨⟨xt7 (i := 149) rfl rfl, xt1 (i := 13) rfl rfl, ⟨by decide, by decide⟩, rfl, by decide⟩, xt7 (i := 148) rfl rfl, xp5 (i := 11) (q := (yX12_isSo, _)) rfl⟩
abbrev mX12_fitting : xM := (yX12_fitting, cX12_fitting, 5, some .int)
theorem qX12_fitting : xMi mX12_fitting 0 := ⟨⟨xt7 (i := 145) rfl rfl, xt1 (i := 13) rfl rfl, ⟨by decide, by decide⟩, rfl, by decide⟩, xt7 (i := 144) rfl rfl, xp5 (i := 10) (q := (yX12_fitting, _)) rfl⟩
abbrev mX12_fits : xM := (yX12_fits, cX12_fits, 2, some .int)
theorem qX12_fits : xMi mX12_fits 0 := ⟨⟨xt7 (i := 141) rfl rfl, xt1 (i := 13) rfl rfl, ⟨by decide, by decide⟩, rfl, by decide⟩, xt7 (i := 139) rfl rfl, xt7 (i := 140) rfl rfl⟩
abbrev mX12_asks : xM := (yX12_asks, cX12_asks, 7, some .int)
theorem qX12_asks : xMi mX12_asks 0 := ⟨⟨xt7 (i := 153) rfl rfl, xt1 (i := 13) rfl rfl, ⟨by decide, by decide⟩, rfl, by decide⟩, xt7 (i := 151) rfl rfl, xt7 (i := 152) rfl rfl⟩
abbrev mX12_saw : xM := (yX12_saw, cX12_saw, 4, some .int)
theorem qX12_saw : xMi mX12_saw 3 := ⟨⟨xt7 (i := 157) rfl rfl, xt1 (i := 13) rfl rfl, ⟨by decide, by decide⟩, rfl, by decide⟩, xt7 (i := 155) rfl rfl, xt7 (i := 156) rfl rfl⟩
abbrev mX12_denies : xM := (yX12_denies, cX12_denies, 2, some .int)
theorem qX12_denies : xMi mX12_denies 0 := ⟨⟨xt7 (i := 161) rfl rfl, xt1 (i := 13) rfl rfl, ⟨by decide, by decide⟩, rfl, by decide⟩, xt7 (i := 159) rfl rfl, xt7 (i := 160) rfl rfl⟩
abbrev mX12_runsBy : xM := (yX12_runsBy, cX12_runsBy, 2, some .boolean)
theorem qX12_runsBy : xMs mX12_runsBy 2 := ⟨⟨xt7 (i := 172) rfl rfl, xt1 (i := 13) rfl rfl, ⟨by decide, by decide⟩, rfl, by decide⟩, xt7 (i := 171) rfl rfl⟩
abbrev mX12_isLaw : xM := (yX12_isLaw, cX12_isLaw, 3, some .boolean)
theorem qX12_isLaw : xMi mX12_isLaw 1 := ⟨⟨xt7 (i := 169) rfl rfl, xt1 (i := 13) rfl rfl, ⟨by decide, by decide⟩, rfl, by decide⟩, xt7 (i := 168) rfl rfl, xp5 (i := 12) (q := (yX12_isLaw, _)) rfl⟩
abbrev mX12_laws : xM := (yX12_laws, cX12_laws, 3, some .int)
theorem qX12_laws : xMi mX12_laws 0 := ⟨⟨xt7 (i := 165) rfl rfl, xt1 (i := 13) rfl rfl, ⟨by decide, by decide⟩, rfl, by decide⟩, xt7 (i := 163) rfl rfl, xt7 (i := 164) rfl rfl⟩
abbrev mX12_looks : xM := (yX12_looks, cX12_looks, 7, some .int)
theorem qX12_looks : xMi mX12_looks 0 := ⟨⟨xt7 (i := 176) rfl rfl, xt1 (i := 13) rfl rfl, ⟨by decide, by decide⟩, rfl, by decide⟩, xt7 (i := 174) rfl rfl, xt7 (i := 175) rfl rfl⟩
abbrev mX12_take : xM := (yX12_take, cX12_take, 2, some .int)
theorem qX12_take : xMi mX12_take 1 := ⟨⟨xt7 (i := 184) rfl rfl, xt1 (i := 13) rfl rfl, ⟨by decide, by decide⟩, rfl, by decide⟩, xt7 (i := 183) rfl rfl, xp5 (i := 13) (q := (yX12_take, _)) rfl⟩
abbrev mX12_pails : xM := (yX12_pails, cX12_pails, 3, some .int)
theorem qX12_pails : xMi mX12_pails 1 := ⟨⟨xt7 (i := 180) rfl rfl, xt1 (i := 13) rfl rfl, ⟨by decide, by decide⟩, rfl, by decide⟩, xt7 (i := 178) rfl rfl, xt7 (i := 179) rfl rfl⟩
abbrev mX12_gets : xM := (yX12_gets, cX12_gets, 3, some .int)
theorem qX12_gets : xMs mX12_gets 3 := ⟨⟨xt7 (i := 194) rfl rfl, xt1 (i := 13) rfl rfl, ⟨by decide, by decide⟩, rfl, by decide⟩, xt7 (i := 193) rfl rfl⟩
abbrev mX12_isBest : xM := (yX12_isBest, cX12_isBest, 4, some .boolean)
theorem qX12_isBest : xMs mX12_isBest 3 := ⟨⟨xt7 (i := 191) rfl rfl, xt1 (i := 13) rfl rfl, ⟨by decide, by decide⟩, rfl, by decide⟩, xt7 (i := 190) rfl rfl⟩
abbrev mX12_rests : xM := (yX12_rests, cX12_rests, 5, some .int)
theorem qX12_rests : xMi mX12_rests 1 := ⟨⟨xt7 (i := 188) rfl rfl, xt1 (i := 13) rfl rfl, ⟨by decide, by decide⟩, rfl, by decide⟩, xt7 (i := 186) rfl rfl, xt7 (i := 187) rfl rfl⟩
abbrev mX12_law : xM := (yX12_law, cX12_law, 7, some .int)
theorem qX12_law : xMi mX12_law 0 := ⟨⟨xt7 (i := 198) rfl rfl, xt1 (i := 13) rfl rfl, ⟨by decide, by decide⟩, rfl, by decide⟩, xt7 (i := 196) rfl rfl, xt7 (i := 197) rfl rfl⟩
abbrev mX12_draw : xM := (yX12_draw, cX12_draw, 2, some .int)
theorem qX12_draw : xMi mX12_draw 1 := ⟨⟨xt7 (i := 206) rfl rfl, xt1 (i := 13) rfl rfl, ⟨by decide, by decide⟩, rfl, by decide⟩, xt7 (i := 205) rfl rfl, xp5 (i := 14) (q := (yX12_draw, _)) rfl⟩
abbrev mX12_years : xM := (yX12_years, cX12_years, 7, some .int)
theorem qX12_years : xMi mX12_years 2 := ⟨⟨xt7 (i := 202) rfl rfl, xt1 (i := 13) rfl rfl, ⟨by decide, by decide⟩, rfl, by decide⟩, xt7 (i := 200) rfl rfl, xt7 (i := 201) rfl rfl⟩
abbrev mX12_keep : xM := (yX12_keep, cX12_keep, 2, some .boolean)
theorem qX12_keep : xMi mX12_keep 1 := ⟨⟨xt7 (i := 211) rfl rfl, xt1 (i := 13) rfl rfl, ⟨by decide, by decide⟩, rfl, by decide⟩, xt7 (i := 209) rfl rfl, xt7 (i := 210) rfl rfl⟩
abbrev mX12_again : xM := (yX12_again, cX12_again, 3, some .boolean)
theorem qX12_again : xMi mX12_again 1 := ⟨⟨xt7 (i := 215) rfl rfl, xt1 (i := 13) rfl rfl, ⟨by decide, by decide⟩, rfl, by decide⟩, xt7 (i := 213) rfl rfl, xt7 (i := 214) rfl rfl⟩
abbrev mX12_count : xM := (yX12_count, cX12_count, 2, some .int)
theorem qX12_count : xMi mX12_count 1 := ⟨⟨xt7 (i := 219) rfl rfl, xt1 (i := 13) rfl rfl, ⟨by decide, by decide⟩, rfl, by decide⟩, xt7 (i := 217) rfl rfl, xt7 (i := 218) rfl rfl⟩
abbrev mX12_row : xM := (yX12_row, cX12_row, 2, some .long)
theorem qX12_row : xMi mX12_row 1 := ⟨⟨xt7 (i := 223) rfl rfl, xt1 (i := 13) rfl rfl, ⟨by decide, by decide⟩, rfl, by decide⟩, xt7 (i := 221) rfl rfl, xt7 (i := 222) rfl rfl⟩
abbrev mJ6_numberOfTrailingZeros_0f7a4 : xM := (yJ6_numberOfTrailingZeros_0f7a4, cJ6_numberOfTrailingZeros_0f7a4, 2, some .int)
theorem qJ6_numberOfTrailingZeros_0f7a4 : xMs mJ6_numberOfTrailingZeros_0f7a4 1 := ⟨⟨xt4 (i := 206) rfl rfl, xt1 (i := 21) rfl rfl, ⟨by decide, by decide⟩, rfl, by decide⟩, xt4 (i := 205) rfl rfl⟩
abbrev mJ6_bitCount_0f7a4 : xM := (yJ6_bitCount_0f7a4, cJ6_bitCount_0f7a4, 1, some .int)
theorem qJ6_bitCount_0f7a4 : xMs mJ6_bitCount_0f7a4 1 := ⟨⟨xt3 (i := 48) rfl rfl, xt1 (i := 21) rfl rfl, ⟨by decide, by decide⟩, rfl, by decide⟩, xt3 (i := 47) rfl rfl⟩
abbrev mJ13_numberOfTrailingZeros_95d88 : xM := (yJ13_numberOfTrailingZeros_95d88, cJ13_numberOfTrailingZeros_95d88, 3, some .int)
theorem qJ13_numberOfTrailingZeros_95d88 : xMs mJ13_numberOfTrailingZeros_95d88 1 := ⟨⟨xt4 (i := 203) rfl rfl, xt1 (i := 22) rfl rfl, ⟨by decide, by decide⟩, rfl, by decide⟩, xt4 (i := 202) rfl rfl⟩
abbrev mJ13_bitCount_95d88 : xM := (yJ13_bitCount_95d88, cJ13_bitCount_95d88, 2, some .int)
theorem qJ13_bitCount_95d88 : xMs mJ13_bitCount_95d88 1 := ⟨⟨xt4 (i := 212) rfl rfl, xt1 (i := 22) rfl rfl, ⟨by decide, by decide⟩, rfl, by decide⟩, xt4 (i := 211) rfl rfl⟩
abbrev mJ9_abs_0f7a4 : xM := (yJ9_abs_0f7a4, cJ9_abs_0f7a4, 1, some .int)
theorem qJ9_abs_0f7a4 : xMs mJ9_abs_0f7a4 1 := ⟨⟨xt4 (i := 98) rfl rfl, xt1 (i := 14) rfl rfl, ⟨by decide, by decide⟩, rfl, by decide⟩, xt4 (i := 97) rfl rfl⟩
abbrev mJ9_max_7cf53 : xM := (yJ9_max_7cf53, cJ9_max_7cf53, 2, some .int)
theorem qJ9_max_7cf53 : xMs mJ9_max_7cf53 2 := ⟨⟨xt2 (i := 212) rfl rfl, xt1 (i := 14) rfl rfl, ⟨by decide, by decide⟩, rfl, by decide⟩, xt2 (i := 211) rfl rfl⟩
abbrev mJ9_min_7cf53 : xM := (yJ9_min_7cf53, cJ9_min_7cf53, 2, some .int)
theorem qJ9_min_7cf53 : xMs mJ9_min_7cf53 2 := ⟨⟨xt2 (i := 153) rfl rfl, xt1 (i := 14) rfl rfl, ⟨by decide, by decide⟩, rfl, by decide⟩, xt2 (i := 152) rfl rfl⟩
theorem fX10_9 : xLf RX10 9 10 0 (.array .int) true := ⟨RX10, TX10, 2, tyX10, clX10, by decide, Or.inl (xt1 (i := 37) rfl rfl), rfl, rfl, fun _ => rfl⟩
theorem fX10_13 : xLf RX10 13 10 1 (.int) false := ⟨RX10, TX10, 2, tyX10, clX10, by decide, Or.inl (xt1 (i := 38) rfl rfl), rfl, rfl, fun h => nomatch h⟩
theorem fX4_7 : xLf RX4 7 4 0 (.array .long) true := ⟨RX4, TX4, 2, tyX4, clX4, by decide, Or.inl (xt1 (i := 51) rfl rfl), rfl, rfl, fun _ => rfl⟩
theorem fX4_13 : xLf RX4 13 4 1 (.int) false := ⟨RX4, TX4, 2, tyX4, clX4, by decide, Or.inl (xt1 (i := 52) rfl rfl), rfl, rfl, fun h => nomatch h⟩
theorem fX3_9 : xLf RX3 9 3 0 (.array .int) true := ⟨RX3, TX3, 9, tyX3, clX3, by decide, Or.inl (xt1 (i := 65) rfl rfl), rfl, rfl, fun _ => rfl⟩
theorem fX3_15 : xLf RX3 15 3 1 (.array .int) true := ⟨RX3, TX3, 9, tyX3, clX3, by decide, Or.inl (xt1 (i := 66) rfl rfl), rfl, rfl, fun _ => rfl⟩
theorem fX3_18 : xLf RX3 18 3 2 (.int) false := ⟨RX3, TX3, 9, tyX3, clX3, by decide, Or.inl (xt1 (i := 67) rfl rfl), rfl, rfl, fun h => nomatch h⟩
theorem fX1_31 : xLf RX1 31 3 2 (.int) false := ⟨RX3, TX3, 9, tyX3, clX3, by decide, Or.inr ⟨rfl, _, xt1 (i := 68) rfl rfl⟩, rfl, rfl, fun h => nomatch h⟩
theorem fX11_256 : xLf RX11 256 3 2 (.int) false := ⟨RX3, TX3, 9, tyX3, clX3, by decide, Or.inr ⟨rfl, _, xt1 (i := 69) rfl rfl⟩, rfl, rfl, fun h => nomatch h⟩
theorem fX3_22 : xLf RX3 22 3 3 (.int) false := ⟨RX3, TX3, 9, tyX3, clX3, by decide, Or.inl (xt1 (i := 70) rfl rfl), rfl, rfl, fun h => nomatch h⟩
theorem fX1_35 : xLf RX1 35 3 3 (.int) false := ⟨RX3, TX3, 9, tyX3, clX3, by decide, Or.inr ⟨rfl, _, xt1 (i := 71) rfl rfl⟩, rfl, rfl, fun h => nomatch h⟩
theorem fX7_64 : xLf RX7 64 3 3 (.int) false := ⟨RX3, TX3, 9, tyX3, clX3, by decide, Or.inr ⟨rfl, _, xt1 (i := 72) rfl rfl⟩, rfl, rfl, fun h => nomatch h⟩
theorem fX11_253 : xLf RX11 253 3 3 (.int) false := ⟨RX3, TX3, 9, tyX3, clX3, by decide, Or.inr ⟨rfl, _, xt1 (i := 73) rfl rfl⟩, rfl, rfl, fun h => nomatch h⟩
theorem fX3_25 : xLf RX3 25 3 4 (.int) false := ⟨RX3, TX3, 9, tyX3, clX3, by decide, Or.inl (xt1 (i := 74) rfl rfl), rfl, rfl, fun h => nomatch h⟩
theorem fX7_54 : xLf RX7 54 3 4 (.int) false := ⟨RX3, TX3, 9, tyX3, clX3, by decide, Or.inr ⟨rfl, _, xt1 (i := 75) rfl rfl⟩, rfl, rfl, fun h => nomatch h⟩
theorem fX11_221 : xLf RX11 221 3 4 (.int) false := ⟨RX3, TX3, 9, tyX3, clX3, by decide, Or.inr ⟨rfl, _, xt1 (i := 76) rfl rfl⟩, rfl, rfl, fun h => nomatch h⟩
theorem fX3_34 : xLf RX3 34 3 5 (.int) false := ⟨RX3, TX3, 9, tyX3, clX3, by decide, Or.inl (xt1 (i := 77) rfl rfl), rfl, rfl, fun h => nomatch h⟩
theorem fX11_287 : xLf RX11 287 3 5 (.int) false := ⟨RX3, TX3, 9, tyX3, clX3, by decide, Or.inr ⟨rfl, _, xt1 (i := 78) rfl rfl⟩, rfl, rfl, fun h => nomatch h⟩
theorem fX3_37 : xLf RX3 37 3 6 (.int) false := ⟨RX3, TX3, 9, tyX3, clX3, by decide, Or.inl (xt1 (i := 79) rfl rfl), rfl, rfl, fun h => nomatch h⟩
theorem fX11_290 : xLf RX11 290 3 6 (.int) false := ⟨RX3, TX3, 9, tyX3, clX3, by decide, Or.inr ⟨rfl, _, xt1 (i := 80) rfl rfl⟩, rfl, rfl, fun h => nomatch h⟩
theorem fX3_40 : xLf RX3 40 3 7 (.int) false := ⟨RX3, TX3, 9, tyX3, clX3, by decide, Or.inl (xt1 (i := 81) rfl rfl), rfl, rfl, fun h => nomatch h⟩
theorem fX7_67 : xLf RX7 67 3 7 (.int) false := ⟨RX3, TX3, 9, tyX3, clX3, by decide, Or.inr ⟨rfl, _, xt1 (i := 82) rfl rfl⟩, rfl, rfl, fun h => nomatch h⟩
theorem fX11_299 : xLf RX11 299 3 7 (.int) false := ⟨RX3, TX3, 9, tyX3, clX3, by decide, Or.inr ⟨rfl, _, xt1 (i := 83) rfl rfl⟩, rfl, rfl, fun h => nomatch h⟩
theorem fX3_43 : xLf RX3 43 3 8 (.int) false := ⟨RX3, TX3, 9, tyX3, clX3, by decide, Or.inl (xt1 (i := 84) rfl rfl), rfl, rfl, fun h => nomatch h⟩
theorem fX7_49 : xLf RX7 49 3 8 (.int) false := ⟨RX3, TX3, 9, tyX3, clX3, by decide, Or.inr ⟨rfl, _, xt1 (i := 85) rfl rfl⟩, rfl, rfl, fun h => nomatch h⟩
theorem fX11_437 : xLf RX11 437 3 8 (.int) false := ⟨RX3, TX3, 9, tyX3, clX3, by decide, Or.inr ⟨rfl, _, xt1 (i := 86) rfl rfl⟩, rfl, rfl, fun h => nomatch h⟩
theorem fX5_11 : xLf RX5 11 5 0 (.array (.object "CliffCars$Hill")) true := ⟨RX5, TX5, 2, tyX5, clX5, by decide, Or.inl (xt1 (i := 114) rfl rfl), rfl, rfl, fun _ => rfl⟩
theorem fX5_15 : xLf RX5 15 5 1 (.int) false := ⟨RX5, TX5, 2, tyX5, clX5, by decide, Or.inl (xt1 (i := 115) rfl rfl), rfl, rfl, fun h => nomatch h⟩
theorem fX7_11 : xLf RX7 11 7 0 (.array .int) true := ⟨RX7, TX7, 3, tyX7, clX7, by decide, Or.inl (xt1 (i := 127) rfl rfl), rfl, rfl, fun _ => rfl⟩
theorem fX7_15 : xLf RX7 15 7 1 (.array .int) true := ⟨RX7, TX7, 3, tyX7, clX7, by decide, Or.inl (xt1 (i := 128) rfl rfl), rfl, rfl, fun _ => rfl⟩
theorem fX7_18 : xLf RX7 18 7 2 (.int) false := ⟨RX7, TX7, 3, tyX7, clX7, by decide, Or.inl (xt1 (i := 129) rfl rfl), rfl, rfl, fun h => nomatch h⟩
theorem fX8_17 : xLf RX8 17 8 0 (.object "CliffCars$Slip") true := ⟨RX8, TX8, 8, tyX8, clX8, by decide, Or.inl (xt1 (i := 143) rfl rfl), rfl, rfl, fun _ => rfl⟩
theorem fX8_21 : xLf RX8 21 8 1 (.object "CliffCars$Rule") true := ⟨RX8, TX8, 8, tyX8, clX8, by decide, Or.inl (xt1 (i := 144) rfl rfl), rfl, rfl, fun _ => rfl⟩
theorem fX8_11 : xLf RX8 11 8 2 (.array .int) true := ⟨RX8, TX8, 8, tyX8, clX8, by decide, Or.inl (xt1 (i := 145) rfl rfl), rfl, rfl, fun _ => rfl⟩
theorem fX8_34 : xLf RX8 34 8 3 (.int) false := ⟨RX8, TX8, 8, tyX8, clX8, by decide, Or.inl (xt1 (i := 146) rfl rfl), rfl, rfl, fun h => nomatch h⟩
theorem fX8_38 : xLf RX8 38 8 4 (.int) false := ⟨RX8, TX8, 8, tyX8, clX8, by decide, Or.inl (xt1 (i := 147) rfl rfl), rfl, rfl, fun h => nomatch h⟩
theorem fX8_41 : xLf RX8 41 8 5 (.int) false := ⟨RX8, TX8, 8, tyX8, clX8, by decide, Or.inl (xt1 (i := 148) rfl rfl), rfl, rfl, fun h => nomatch h⟩
theorem fX8_44 : xLf RX8 44 8 6 (.int) false := ⟨RX8, TX8, 8, tyX8, clX8, by decide, Or.inl (xt1 (i := 149) rfl rfl), rfl, rfl, fun h => nomatch h⟩
theorem fX8_47 : xLf RX8 47 8 7 (.boolean) false := ⟨RX8, TX8, 8, tyX8, clX8, by decide, Or.inl (xt1 (i := 150) rfl rfl), rfl, rfl, fun h => nomatch h⟩
theorem fX2_11 : xLf RX2 11 2 0 (.array .int) true := ⟨RX2, TX2, 3, tyX2, clX2, by decide, Or.inl (xt1 (i := 174) rfl rfl), rfl, rfl, fun _ => rfl⟩
theorem fX2_15 : xLf RX2 15 2 1 (.array .int) true := ⟨RX2, TX2, 3, tyX2, clX2, by decide, Or.inl (xt1 (i := 175) rfl rfl), rfl, rfl, fun _ => rfl⟩
theorem fX2_18 : xLf RX2 18 2 2 (.int) false := ⟨RX2, TX2, 3, tyX2, clX2, by decide, Or.inl (xt1 (i := 176) rfl rfl), rfl, rfl, fun h => nomatch h⟩
theorem fX9_9 : xLf RX9 9 9 0 (.array .int) true := ⟨RX9, TX9, 3, tyX9, clX9, by decide, Or.inl (xt1 (i := 190) rfl rfl), rfl, rfl, fun _ => rfl⟩
theorem fX9_13 : xLf RX9 13 9 1 (.array .boolean) true := ⟨RX9, TX9, 3, tyX9, clX9, by decide, Or.inl (xt1 (i := 191) rfl rfl), rfl, rfl, fun _ => rfl⟩
theorem fX9_17 : xLf RX9 17 9 2 (.int) false := ⟨RX9, TX9, 3, tyX9, clX9, by decide, Or.inl (xt1 (i := 192) rfl rfl), rfl, rfl, fun h => nomatch h⟩
theorem fX1_9 : xLf RX1 9 1 0 (.array .int) true := ⟨RX1, TX1, 6, tyX1, clX1, by decide, Or.inl (xt1 (i := 207) rfl rfl), rfl, rfl, fun _ => rfl⟩
theorem fX1_15 : xLf RX1 15 1 1 (.array .int) true := ⟨RX1, TX1, 6, tyX1, clX1, by decide, Or.inl (xt1 (i := 208) rfl rfl), rfl, rfl, fun _ => rfl⟩
theorem fX1_24 : xLf RX1 24 1 2 (.int) false := ⟨RX1, TX1, 6, tyX1, clX1, by decide, Or.inl (xt1 (i := 209) rfl rfl), rfl, rfl, fun h => nomatch h⟩
theorem fX6_27 : xLf RX6 27 1 2 (.int) false := ⟨RX1, TX1, 6, tyX1, clX1, by decide, Or.inr ⟨rfl, _, xt1 (i := 210) rfl rfl⟩, rfl, rfl, fun h => nomatch h⟩
theorem fX11_320 : xLf RX11 320 1 2 (.int) false := ⟨RX1, TX1, 6, tyX1, clX1, by decide, Or.inr ⟨rfl, _, xt1 (i := 211) rfl rfl⟩, rfl, rfl, fun h => nomatch h⟩
theorem fX1_28 : xLf RX1 28 1 3 (.int) false := ⟨RX1, TX1, 6, tyX1, clX1, by decide, Or.inl (xt1 (i := 212) rfl rfl), rfl, rfl, fun h => nomatch h⟩
theorem fX6_32 : xLf RX6 32 1 3 (.int) false := ⟨RX1, TX1, 6, tyX1, clX1, by decide, Or.inr ⟨rfl, _, xt1 (i := 213) rfl rfl⟩, rfl, rfl, fun h => nomatch h⟩
theorem fX11_323 : xLf RX11 323 1 3 (.int) false := ⟨RX1, TX1, 6, tyX1, clX1, by decide, Or.inr ⟨rfl, _, xt1 (i := 214) rfl rfl⟩, rfl, rfl, fun h => nomatch h⟩
theorem fX1_34 : xLf RX1 34 1 4 (.int) false := ⟨RX1, TX1, 6, tyX1, clX1, by decide, Or.inl (xt1 (i := 215) rfl rfl), rfl, rfl, fun h => nomatch h⟩
theorem fX6_49 : xLf RX6 49 1 4 (.int) false := ⟨RX1, TX1, 6, tyX1, clX1, by decide, Or.inr ⟨rfl, _, xt1 (i := 216) rfl rfl⟩, rfl, rfl, fun h => nomatch h⟩
theorem fX1_38 : xLf RX1 38 1 5 (.int) false := ⟨RX1, TX1, 6, tyX1, clX1, by decide, Or.inl (xt1 (i := 217) rfl rfl), rfl, rfl, fun h => nomatch h⟩
theorem fX6_18 : xLf RX6 18 6 0 (.object "CliffCars$Groups") true := ⟨RX6, TX6, 6, tyX6, clX6, by decide, Or.inl (xt1 (i := 237) rfl rfl), rfl, rfl, fun _ => rfl⟩
theorem fX6_9 : xLf RX6 9 6 1 (.array .int) true := ⟨RX6, TX6, 6, tyX6, clX6, by decide, Or.inl (xt1 (i := 238) rfl rfl), rfl, rfl, fun _ => rfl⟩
theorem fX6_15 : xLf RX6 15 6 2 (.array .int) true := ⟨RX6, TX6, 6, tyX6, clX6, by decide, Or.inl (xt1 (i := 239) rfl rfl), rfl, rfl, fun _ => rfl⟩
theorem fX6_23 : xLf RX6 23 6 3 (.int) false := ⟨RX6, TX6, 6, tyX6, clX6, by decide, Or.inl (xt2 (i := 0) rfl rfl), rfl, rfl, fun h => nomatch h⟩
theorem fX6_73 : xLf RX6 73 6 4 (.int) false := ⟨RX6, TX6, 6, tyX6, clX6, by decide, Or.inl (xt2 (i := 1) rfl rfl), rfl, rfl, fun h => nomatch h⟩
theorem fX11_340 : xLf RX11 340 6 4 (.int) false := ⟨RX6, TX6, 6, tyX6, clX6, by decide, Or.inr ⟨rfl, _, xt2 (i := 2) rfl rfl⟩, rfl, rfl, fun h => nomatch h⟩
theorem fX6_76 : xLf RX6 76 6 5 (.int) false := ⟨RX6, TX6, 6, tyX6, clX6, by decide, Or.inl (xt2 (i := 3) rfl rfl), rfl, rfl, fun h => nomatch h⟩
theorem fX11_343 : xLf RX11 343 6 5 (.int) false := ⟨RX6, TX6, 6, tyX6, clX6, by decide, Or.inr ⟨rfl, _, xt2 (i := 4) rfl rfl⟩, rfl, rfl, fun h => nomatch h⟩
theorem fX0_7 : xLf RX0 7 0 0 (.int) false := ⟨RX0, TX0, 1, tyX0, clX0, by decide, Or.inl (xt2 (i := 24) rfl rfl), rfl, rfl, fun h => nomatch h⟩
theorem fX11_12 : xLf RX11 12 11 0 (.object "CliffCars$Slip") true := ⟨RX11, TX11, 16, tyX11, clX11, by decide, Or.inl (xt2 (i := 28) rfl rfl), rfl, rfl, fun _ => rfl⟩
theorem fX11_19 : xLf RX11 19 11 1 (.object "CliffCars$Numbers") true := ⟨RX11, TX11, 16, tyX11, clX11, by decide, Or.inl (xt2 (i := 29) rfl rfl), rfl, rfl, fun _ => rfl⟩
theorem fX11_26 : xLf RX11 26 11 2 (.object "CliffCars$Hill") true := ⟨RX11, TX11, 16, tyX11, clX11, by decide, Or.inl (xt2 (i := 30) rfl rfl), rfl, rfl, fun _ => rfl⟩
theorem fX11_30 : xLf RX11 30 11 3 (.object "CliffCars$Hill") true := ⟨RX11, TX11, 16, tyX11, clX11, by decide, Or.inl (xt2 (i := 31) rfl rfl), rfl, rfl, fun _ => rfl⟩
theorem fX11_33 : xLf RX11 33 11 4 (.object "CliffCars$Hill") true := ⟨RX11, TX11, 16, tyX11, clX11, by decide, Or.inl (xt2 (i := 32) rfl rfl), rfl, rfl, fun _ => rfl⟩
theorem fX11_39 : xLf RX11 39 11 5 (.object "CliffCars$Past") true := ⟨RX11, TX11, 16, tyX11, clX11, by decide, Or.inl (xt2 (i := 33) rfl rfl), rfl, rfl, fun _ => rfl⟩
theorem fX11_43 : xLf RX11 43 11 6 (.array (.object "CliffCars$Hill")) true := ⟨RX11, TX11, 16, tyX11, clX11, by decide, Or.inl (xt2 (i := 34) rfl rfl), rfl, rfl, fun _ => rfl⟩
theorem fX11_50 : xLf RX11 50 11 7 (.object "CliffCars$Rule") true := ⟨RX11, TX11, 16, tyX11, clX11, by decide, Or.inl (xt2 (i := 35) rfl rfl), rfl, rfl, fun _ => rfl⟩
theorem fX11_54 : xLf RX11 54 11 8 (.object "CliffCars$Rule") true := ⟨RX11, TX11, 16, tyX11, clX11, by decide, Or.inl (xt2 (i := 36) rfl rfl), rfl, rfl, fun _ => rfl⟩
theorem fX11_62 : xLf RX11 62 11 9 (.object "CliffCars$RuleReader") true := ⟨RX11, TX11, 16, tyX11, clX11, by decide, Or.inl (xt2 (i := 37) rfl rfl), rfl, rfl, fun _ => rfl⟩
theorem fX11_69 : xLf RX11 69 11 10 (.object "CliffCars$Hearsay") true := ⟨RX11, TX11, 16, tyX11, clX11, by decide, Or.inl (xt2 (i := 38) rfl rfl), rfl, rfl, fun _ => rfl⟩
theorem fX11_76 : xLf RX11 76 11 11 (.object "CliffCars$Sightings") true := ⟨RX11, TX11, 16, tyX11, clX11, by decide, Or.inl (xt2 (i := 39) rfl rfl), rfl, rfl, fun _ => rfl⟩
theorem fX11_83 : xLf RX11 83 11 12 (.object "CliffCars$Groups") true := ⟨RX11, TX11, 16, tyX11, clX11, by decide, Or.inl (xt2 (i := 40) rfl rfl), rfl, rfl, fun _ => rfl⟩
theorem fX11_92 : xLf RX11 92 11 13 (.object "CliffCars$Plan") true := ⟨RX11, TX11, 16, tyX11, clX11, by decide, Or.inl (xt2 (i := 41) rfl rfl), rfl, rfl, fun _ => rfl⟩
theorem fX11_99 : xLf RX11 99 11 14 (.object "CliffCars$Dice") true := ⟨RX11, TX11, 16, tyX11, clX11, by decide, Or.inl (xt2 (i := 42) rfl rfl), rfl, rfl, fun _ => rfl⟩
theorem fX11_103 : xLf RX11 103 11 15 (.array .boolean) true := ⟨RX11, TX11, 16, tyX11, clX11, by decide, Or.inl (xt2 (i := 43) rfl rfl), rfl, rfl, fun _ => rfl⟩
theorem fX12_9 : xLf RX12 9 12 0 (.array .int) true := ⟨RX12, TX12, 40, tyX12, clX12, by decide, Or.inl (xt5 (i := 127) rfl rfl), rfl, rfl, fun _ => rfl⟩
theorem fX12_13 : xLf RX12 13 12 1 (.array .byte) true := ⟨RX12, TX12, 40, tyX12, clX12, by decide, Or.inl (xt5 (i := 128) rfl rfl), rfl, rfl, fun _ => rfl⟩
theorem fX12_93 : xLf RX12 93 12 2 (.int) false := ⟨RX12, TX12, 40, tyX12, clX12, by decide, Or.inl (xt5 (i := 129) rfl rfl), rfl, rfl, fun h => nomatch h⟩
theorem fX12_17 : xLf RX12 17 12 3 (.array .long) true := ⟨RX12, TX12, 40, tyX12, clX12, by decide, Or.inl (xt5 (i := 130) rfl rfl), rfl, rfl, fun _ => rfl⟩
theorem fX12_86 : xLf RX12 86 12 4 (.int) false := ⟨RX12, TX12, 40, tyX12, clX12, by decide, Or.inl (xt5 (i := 131) rfl rfl), rfl, rfl, fun h => nomatch h⟩
theorem fX12_82 : xLf RX12 82 12 5 (.int) false := ⟨RX12, TX12, 40, tyX12, clX12, by decide, Or.inl (xt5 (i := 132) rfl rfl), rfl, rfl, fun h => nomatch h⟩
theorem fX12_96 : xLf RX12 96 12 6 (.array .byte) false := ⟨RX12, TX12, 40, tyX12, clX12, by decide, Or.inl (xt5 (i := 133) rfl rfl), rfl, rfl, fun h => nomatch h⟩
theorem fX12_99 : xLf RX12 99 12 7 (.int) false := ⟨RX12, TX12, 40, tyX12, clX12, by decide, Or.inl (xt5 (i := 134) rfl rfl), rfl, rfl, fun h => nomatch h⟩
theorem fX12_102 : xLf RX12 102 12 8 (.int) false := ⟨RX12, TX12, 40, tyX12, clX12, by decide, Or.inl (xt5 (i := 135) rfl rfl), rfl, rfl, fun h => nomatch h⟩
theorem fX12_105 : xLf RX12 105 12 9 (.int) false := ⟨RX12, TX12, 40, tyX12, clX12, by decide, Or.inl (xt5 (i := 136) rfl rfl), rfl, rfl, fun h => nomatch h⟩
theorem fX12_108 : xLf RX12 108 12 10 (.int) false := ⟨RX12, TX12, 40, tyX12, clX12, by decide, Or.inl (xt5 (i := 137) rfl rfl), rfl, rfl, fun h => nomatch h⟩
theorem fX12_21 : xLf RX12 21 12 11 (.array .int) true := ⟨RX12, TX12, 40, tyX12, clX12, by decide, Or.inl (xt5 (i := 138) rfl rfl), rfl, rfl, fun _ => rfl⟩
theorem fX12_24 : xLf RX12 24 12 12 (.array .int) true := ⟨RX12, TX12, 40, tyX12, clX12, by decide, Or.inl (xt5 (i := 139) rfl rfl), rfl, rfl, fun _ => rfl⟩
theorem fX12_27 : xLf RX12 27 12 13 (.array .byte) false := ⟨RX12, TX12, 40, tyX12, clX12, by decide, Or.inl (xt5 (i := 140) rfl rfl), rfl, rfl, fun h => nomatch h⟩
theorem fX12_30 : xLf RX12 30 12 14 (.array .byte) false := ⟨RX12, TX12, 40, tyX12, clX12, by decide, Or.inl (xt5 (i := 141) rfl rfl), rfl, rfl, fun h => nomatch h⟩
theorem fX12_180 : xLf RX12 180 12 15 (.int) false := ⟨RX12, TX12, 40, tyX12, clX12, by decide, Or.inl (xt5 (i := 142) rfl rfl), rfl, rfl, fun h => nomatch h⟩
theorem fX12_173 : xLf RX12 173 12 16 (.boolean) false := ⟨RX12, TX12, 40, tyX12, clX12, by decide, Or.inl (xt5 (i := 143) rfl rfl), rfl, rfl, fun h => nomatch h⟩
theorem fX12_33 : xLf RX12 33 12 17 (.array .int) true := ⟨RX12, TX12, 40, tyX12, clX12, by decide, Or.inl (xt5 (i := 144) rfl rfl), rfl, rfl, fun _ => rfl⟩
theorem fX12_36 : xLf RX12 36 12 18 (.array .int) true := ⟨RX12, TX12, 40, tyX12, clX12, by decide, Or.inl (xt5 (i := 145) rfl rfl), rfl, rfl, fun _ => rfl⟩
theorem fX12_147 : xLf RX12 147 12 19 (.int) false := ⟨RX12, TX12, 40, tyX12, clX12, by decide, Or.inl (xt5 (i := 146) rfl rfl), rfl, rfl, fun h => nomatch h⟩
theorem fX12_39 : xLf RX12 39 12 20 (.array .int) true := ⟨RX12, TX12, 40, tyX12, clX12, by decide, Or.inl (xt5 (i := 147) rfl rfl), rfl, rfl, fun _ => rfl⟩
theorem fX12_42 : xLf RX12 42 12 21 (.array .int) true := ⟨RX12, TX12, 40, tyX12, clX12, by decide, Or.inl (xt5 (i := 148) rfl rfl), rfl, rfl, fun _ => rfl⟩
theorem fX12_270 : xLf RX12 270 12 22 (.int) false := ⟨RX12, TX12, 40, tyX12, clX12, by decide, Or.inl (xt5 (i := 149) rfl rfl), rfl, rfl, fun h => nomatch h⟩
theorem fX12_45 : xLf RX12 45 12 23 (.array .int) true := ⟨RX12, TX12, 40, tyX12, clX12, by decide, Or.inl (xt5 (i := 150) rfl rfl), rfl, rfl, fun _ => rfl⟩
theorem fX12_48 : xLf RX12 48 12 24 (.array .int) true := ⟨RX12, TX12, 40, tyX12, clX12, by decide, Or.inl (xt5 (i := 151) rfl rfl), rfl, rfl, fun _ => rfl⟩
theorem fX12_51 : xLf RX12 51 12 25 (.array .int) true := ⟨RX12, TX12, 40, tyX12, clX12, by decide, Or.inl (xt5 (i := 152) rfl rfl), rfl, rfl, fun _ => rfl⟩
theorem fX12_54 : xLf RX12 54 12 26 (.array .int) true := ⟨RX12, TX12, 40, tyX12, clX12, by decide, Or.inl (xt5 (i := 153) rfl rfl), rfl, rfl, fun _ => rfl⟩
theorem fX12_301 : xLf RX12 301 12 27 (.int) false := ⟨RX12, TX12, 40, tyX12, clX12, by decide, Or.inl (xt5 (i := 154) rfl rfl), rfl, rfl, fun h => nomatch h⟩
theorem fX12_304 : xLf RX12 304 12 28 (.int) false := ⟨RX12, TX12, 40, tyX12, clX12, by decide, Or.inl (xt5 (i := 155) rfl rfl), rfl, rfl, fun h => nomatch h⟩
theorem fX12_57 : xLf RX12 57 12 29 (.array .int) true := ⟨RX12, TX12, 40, tyX12, clX12, by decide, Or.inl (xt5 (i := 156) rfl rfl), rfl, rfl, fun _ => rfl⟩
theorem fX12_60 : xLf RX12 60 12 30 (.array .int) true := ⟨RX12, TX12, 40, tyX12, clX12, by decide, Or.inl (xt5 (i := 157) rfl rfl), rfl, rfl, fun _ => rfl⟩
theorem fX12_63 : xLf RX12 63 12 31 (.array .int) true := ⟨RX12, TX12, 40, tyX12, clX12, by decide, Or.inl (xt5 (i := 158) rfl rfl), rfl, rfl, fun _ => rfl⟩
theorem fX12_345 : xLf RX12 345 12 32 (.int) false := ⟨RX12, TX12, 40, tyX12, clX12, by decide, Or.inl (xt5 (i := 159) rfl rfl), rfl, rfl, fun h => nomatch h⟩
theorem fX12_66 : xLf RX12 66 12 33 (.array .int) true := ⟨RX12, TX12, 40, tyX12, clX12, by decide, Or.inl (xt5 (i := 160) rfl rfl), rfl, rfl, fun _ => rfl⟩
theorem fX12_69 : xLf RX12 69 12 34 (.array .int) true := ⟨RX12, TX12, 40, tyX12, clX12, by decide, Or.inl (xt5 (i := 161) rfl rfl), rfl, rfl, fun _ => rfl⟩
theorem fX12_354 : xLf RX12 354 12 35 (.int) false := ⟨RX12, TX12, 40, tyX12, clX12, by decide, Or.inl (xt5 (i := 162) rfl rfl), rfl, rfl, fun h => nomatch h⟩
theorem fX12_72 : xLf RX12 72 12 36 (.array .boolean) true := ⟨RX12, TX12, 40, tyX12, clX12, by decide, Or.inl (xt5 (i := 163) rfl rfl), rfl, rfl, fun _ => rfl⟩
theorem fX12_374 : xLf RX12 374 12 37 (.int) false := ⟨RX12, TX12, 40, tyX12, clX12, by decide, Or.inl (xt5 (i := 164) rfl rfl), rfl, rfl, fun h => nomatch h⟩
theorem fX12_76 : xLf RX12 76 12 38 (.array .int) true := ⟨RX12, TX12, 40, tyX12, clX12, by decide, Or.inl (xt5 (i := 165) rfl rfl), rfl, rfl, fun _ => rfl⟩
theorem fX12_79 : xLf RX12 79 12 39 (.array .boolean) true := ⟨RX12, TX12, 40, tyX12, clX12, by decide, Or.inl (xt5 (i := 166) rfl rfl), rfl, rfl, fun _ => rfl⟩
theorem kL_19 : xLk RL 19 yX11_init := Or.inl (xt1 (i := 25) rfl rfl)
theorem kX11_11 : xLk RX11 11 yX10_init := Or.inr ⟨_, xt1 (i := 33) rfl rfl⟩
theorem kX11_18 : xLk RX11 18 yX4_init := Or.inr ⟨_, xt1 (i := 47) rfl rfl⟩
theorem kX11_25 : xLk RX11 25 yX3_init := Or.inr ⟨_, xt1 (i := 61) rfl rfl⟩
theorem kX11_38 : xLk RX11 38 yX5_init := Or.inr ⟨_, xt1 (i := 108) rfl rfl⟩
theorem kX11_49 : xLk RX11 49 yX7_init := Or.inr ⟨_, xt1 (i := 123) rfl rfl⟩
theorem kX11_59 : xLk RX11 59 yX8_init := Or.inl (xt1 (i := 139) rfl rfl)
theorem kX11_68 : xLk RX11 68 yX2_init := Or.inr ⟨_, xt1 (i := 170) rfl rfl⟩
theorem kX11_75 : xLk RX11 75 yX9_init := Or.inr ⟨_, xt1 (i := 186) rfl rfl⟩
theorem kX11_82 : xLk RX11 82 yX1_init := Or.inr ⟨_, xt1 (i := 203) rfl rfl⟩
theorem kX11_89 : xLk RX11 89 yX6_init := Or.inl (xt1 (i := 233) rfl rfl)
theorem kX11_98 : xLk RX11 98 yX0_init := Or.inr ⟨_, xt2 (i := 20) rfl rfl⟩
theorem kL_23 : xLk RL 23 yX11_sign := Or.inl (xt2 (i := 77) rfl rfl)
theorem kX11_107 : xLk RX11 107 yX10_length := Or.inl (xt2 (i := 81) rfl rfl)
theorem kX11_111 : xLk RX11 111 yX10_write := Or.inl (xt2 (i := 85) rfl rfl)
theorem kL_28 : xLk RL 28 yX11_end := Or.inl (xt2 (i := 89) rfl rfl)
theorem kX11_115 : xLk RX11 115 yX10_cutTo := Or.inl (xt2 (i := 93) rfl rfl)
theorem kL_33 : xLk RL 33 yX11_parties := Or.inl (xt2 (i := 97) rfl rfl)
theorem kX11_119 : xLk RX11 119 yX11_firstBadOfParties := Or.inl (xt2 (i := 101) rfl rfl)
theorem kX11_131 : xLk RX11 131 yX3_waits := Or.inl (xt2 (i := 105) rfl rfl)
theorem kX11_135 : xLk RX11 135 yX10_at := Or.inl (xt2 (i := 109) rfl rfl)
theorem kX11_122 : xLk RX11 122 yX11_letCome := Or.inl (xt2 (i := 113) rfl rfl)
theorem kX11_138 : xLk RX11 138 yX3_letCome := Or.inl (xt2 (i := 117) rfl rfl)
theorem kX3_46 : xLk RX3 46 yX3_waits := Or.inl (xt2 (i := 121) rfl rfl)
theorem kX3_58 : xLk RX3 58 yX3_weigh := Or.inl (xt2 (i := 122) rfl rfl)
theorem kX3_54 : xLk RX3 54 yX3_has := Or.inl (xt2 (i := 126) rfl rfl)
theorem kX11_125 : xLk RX11 125 yX5_forgetAll := Or.inl (xt2 (i := 130) rfl rfl)
theorem kX11_128 : xLk RX11 128 yX10_clear := Or.inl (xt2 (i := 134) rfl rfl)
theorem kL_38 : xLk RL 38 yX11_rule := Or.inl (xt2 (i := 138) rfl rfl)
theorem kX11_141 : xLk RX11 141 yX8_read := Or.inl (xt2 (i := 142) rfl rfl)
theorem kX8_25 : xLk RX8 25 yX7_clear := Or.inl (xt2 (i := 146) rfl rfl)
theorem kX8_28 : xLk RX8 28 yX10_length := Or.inl (xt2 (i := 150) rfl rfl)
theorem kX8_51 : xLk RX8 51 yJ9_min_7cf53 := Or.inl (xt2 (i := 151) rfl rfl)
theorem kX8_57 : xLk RX8 57 yX10_at := Or.inl (xt2 (i := 154) rfl rfl)
theorem kX8_61 : xLk RX8 61 yX8_takeThing := Or.inl (xt2 (i := 155) rfl rfl)
theorem kX8_72 : xLk RX8 72 yX11_isDigit := Or.inr ⟨_, xt2 (i := 159) rfl rfl⟩
theorem kX8_75 : xLk RX8 75 yX8_takeNumber := Or.inl (xt2 (i := 162) rfl rfl)
theorem kX8_81 : xLk RX8 81 yX7_add := Or.inl (xt2 (i := 166) rfl rfl)
theorem kX8_78 : xLk RX8 78 yX7_names := Or.inl (xt2 (i := 170) rfl rfl)
theorem kX8_84 : xLk RX8 84 yX8_putBy := Or.inl (xt2 (i := 173) rfl rfl)
theorem kX8_65 : xLk RX8 65 yX8_takeJoin := Or.inl (xt2 (i := 177) rfl rfl)
theorem kX8_87 : xLk RX8 87 yX8_tightness := Or.inl (xt2 (i := 181) rfl rfl)
theorem kX8_68 : xLk RX8 68 yX8_bringBack := Or.inl (xt2 (i := 184) rfl rfl)
theorem kX8_90 : xLk RX8 90 yX8_dropBracket := Or.inl (xt2 (i := 188) rfl rfl)
theorem kX8_93 : xLk RX8 93 yX7_joins := Or.inl (xt2 (i := 192) rfl rfl)
theorem kX11_144 : xLk RX11 144 yX7_copyFrom := Or.inl (xt2 (i := 195) rfl rfl)
theorem kL_51 : xLk RL 51 yX11_sheet := Or.inl (xt2 (i := 202) rfl rfl)
theorem kX11_158 : xLk RX11 158 yX11_sheetEntry := Or.inl (xt2 (i := 206) rfl rfl)
theorem kX11_171 : xLk RX11 171 yJ9_min_7cf53 := Or.inl (xt2 (i := 209) rfl rfl)
theorem kX11_176 : xLk RX11 176 yJ9_max_7cf53 := Or.inl (xt2 (i := 210) rfl rfl)
theorem kX11_161 : xLk RX11 161 yX3_weigh := Or.inl (xt2 (i := 213) rfl rfl)
theorem kX11_165 : xLk RX11 165 yX3_allOf := Or.inl (xt2 (i := 214) rfl rfl)
theorem kX11_168 : xLk RX11 168 yX3_weightOf := Or.inl (xt2 (i := 218) rfl rfl)
theorem kL_56 : xLk RL 56 yX11_trip := Or.inl (xt2 (i := 222) rfl rfl)
theorem kX11_179 : xLk RX11 179 yX3_copyFrom := Or.inl (xt2 (i := 226) rfl rfl)
theorem kX11_182 : xLk RX11 182 yX11_goNext := Or.inl (xt2 (i := 231) rfl rfl)
theorem kX11_215 : xLk RX11 215 yX3_nextOf := Or.inl (xt2 (i := 235) rfl rfl)
theorem kX3_62 : xLk RX3 62 yJ9_min_7cf53 := Or.inl (xt2 (i := 239) rfl rfl)
theorem kX11_191 : xLk RX11 191 yX11_goWith := Or.inl (xt3 (i := 0) rfl rfl)
theorem kX11_218 : xLk RX11 218 yX3_waterFor := Or.inl (xt3 (i := 4) rfl rfl)
theorem kX3_76 : xLk RX3 76 yX3_weightOf := Or.inl (xt3 (i := 8) rfl rfl)
theorem kX3_79 : xLk RX3 79 yJ9_max_7cf53 := Or.inl (xt3 (i := 9) rfl rfl)
theorem kX11_225 : xLk RX11 225 yX3_travel := Or.inl (xt3 (i := 10) rfl rfl)
theorem kX3_92 : xLk RX3 92 yX3_waterFor := Or.inl (xt3 (i := 14) rfl rfl)
theorem kX3_88 : xLk RX3 88 yX3_takeAway := Or.inl (xt3 (i := 15) rfl rfl)
theorem kX11_229 : xLk RX11 229 yX7_spring := Or.inl (xt3 (i := 19) rfl rfl)
theorem kX7_28 : xLk RX7 28 yX7_joins := Or.inl (xt3 (i := 23) rfl rfl)
theorem kX7_32 : xLk RX7 32 yX7_join := Or.inl (xt3 (i := 24) rfl rfl)
theorem kX7_36 : xLk RX7 36 yX7_named := Or.inl (xt3 (i := 27) rfl rfl)
theorem kX7_57 : xLk RX7 57 yX3_waits := Or.inl (xt3 (i := 30) rfl rfl)
theorem kX7_61 : xLk RX7 61 yX3_weightOf := Or.inl (xt3 (i := 31) rfl rfl)
theorem kX7_40 : xLk RX7 40 yJ9_min_7cf53 := Or.inl (xt3 (i := 32) rfl rfl)
theorem kX7_46 : xLk RX7 46 yJ9_max_7cf53 := Or.inl (xt3 (i := 33) rfl rfl)
theorem kX11_233 : xLk RX11 233 yX3_passMinute := Or.inl (xt3 (i := 34) rfl rfl)
theorem kX11_236 : xLk RX11 236 yX4_tell__ := Or.inl (xt3 (i := 38) rfl rfl)
theorem kX4_21 : xLk RX4 21 yX4_tell_ := Or.inl (xt3 (i := 42) rfl rfl)
theorem kX11_240 : xLk RX11 240 yJ6_bitCount_0f7a4 := Or.inl (xt3 (i := 46) rfl rfl)
theorem kX11_185 : xLk RX11 185 yX11_remembered := Or.inl (xt3 (i := 52) rfl rfl)
theorem kX11_212 : xLk RX11 212 yX5_remember := Or.inl (xt3 (i := 56) rfl rfl)
theorem kX5_19 : xLk RX5 19 yX5_dropOldest := Or.inl (xt3 (i := 60) rfl rfl)
theorem kX5_22 : xLk RX5 22 yX3_init := Or.inr ⟨_, xt3 (i := 64) rfl rfl⟩
theorem kX5_23 : xLk RX5 23 yX3_copyFrom := Or.inl (xt3 (i := 65) rfl rfl)
theorem kL_60 : xLk RL 60 yX11_sends := Or.inl (xt3 (i := 66) rfl rfl)
theorem kX11_188 : xLk RX11 188 yX3_mayBoard := Or.inl (xt3 (i := 70) rfl rfl)
theorem kX3_68 : xLk RX3 68 yX3_allOf := Or.inl (xt3 (i := 74) rfl rfl)
theorem kX3_71 : xLk RX3 71 yJ6_bitCount_0f7a4 := Or.inl (xt3 (i := 75) rfl rfl)
theorem kL_64 : xLk RL 64 yX11_runs := Or.inl (xt3 (i := 76) rfl rfl)
theorem kX11_194 : xLk RX11 194 yX11_runFor := Or.inl (xt3 (i := 80) rfl rfl)
theorem kX11_245 : xLk RX11 245 yX3_nobodyWaits := Or.inl (xt3 (i := 84) rfl rfl)
theorem kX3_50 : xLk RX3 50 yX3_waitsInAll := Or.inl (xt3 (i := 88) rfl rfl)
theorem kX11_249 : xLk RX11 249 yX3_runMinute := Or.inl (xt3 (i := 92) rfl rfl)
theorem kX3_85 : xLk RX3 85 yX3_nextOf := Or.inl (xt3 (i := 96) rfl rfl)
theorem kX3_95 : xLk RX3 95 yX3_nobodyWaits := Or.inl (xt3 (i := 97) rfl rfl)
theorem kX3_99 : xLk RX3 99 yX3_travel := Or.inl (xt3 (i := 98) rfl rfl)
theorem kX3_102 : xLk RX3 102 yX7_spring := Or.inl (xt3 (i := 99) rfl rfl)
theorem kX3_108 : xLk RX3 108 yX3_passMinute := Or.inl (xt3 (i := 100) rfl rfl)
theorem kL_68 : xLk RL 68 yX11_grips := Or.inl (xt3 (i := 101) rfl rfl)
theorem kX11_197 : xLk RX11 197 yX11_setGrip := Or.inl (xt3 (i := 105) rfl rfl)
theorem kL_72 : xLk RL 72 yX11_seats := Or.inl (xt3 (i := 109) rfl rfl)
theorem kX11_200 : xLk RX11 200 yX11_setSeats := Or.inl (xt3 (i := 113) rfl rfl)
theorem kL_76 : xLk RL 76 yX11_leaves := Or.inl (xt3 (i := 117) rfl rfl)
theorem kX11_203 : xLk RX11 203 yX11_goAway := Or.inl (xt3 (i := 121) rfl rfl)
theorem kX11_148 : xLk RX11 148 yX3_has := Or.inl (xt3 (i := 125) rfl rfl)
theorem kX11_259 : xLk RX11 259 yX3_takeAway := Or.inl (xt3 (i := 126) rfl rfl)
theorem kL_80 : xLk RL 80 yX11_swaps := Or.inl (xt3 (i := 127) rfl rfl)
theorem kX11_206 : xLk RX11 206 yX11_swapWithNext := Or.inl (xt3 (i := 131) rfl rfl)
theorem kX11_262 : xLk RX11 262 yX3_exchange := Or.inl (xt3 (i := 135) rfl rfl)
theorem kX3_82 : xLk RX3 82 yX3_weightAt := Or.inl (xt3 (i := 139) rfl rfl)
theorem kX11_154 : xLk RX11 154 yX3_weightAt := Or.inl (xt3 (i := 143) rfl rfl)
theorem kL_84 : xLk RL 84 yX11_drains := Or.inl (xt3 (i := 144) rfl rfl)
theorem kX11_209 : xLk RX11 209 yX11_letOut := Or.inl (xt3 (i := 148) rfl rfl)
theorem kL_88 : xLk RL 88 yX11_day := Or.inl (xt3 (i := 152) rfl rfl)
theorem kX11_265 : xLk RX11 265 yX11_firstBadOfDay := Or.inl (xt3 (i := 156) rfl rfl)
theorem kX11_271 : xLk RX11 271 yX11_digitsBehind := Or.inl (xt3 (i := 160) rfl rfl)
theorem kX11_274 : xLk RX11 274 yX11_mayStandBehind := Or.inl (xt3 (i := 163) rfl rfl)
theorem kX11_277 : xLk RX11 277 yX11_isDigit := Or.inl (xt3 (i := 166) rfl rfl)
theorem kX11_268 : xLk RX11 268 yX11_act := Or.inl (xt3 (i := 167) rfl rfl)
theorem kL_92 : xLk RL 92 yX11_undo := Or.inl (xt3 (i := 171) rfl rfl)
theorem kX11_280 : xLk RX11 280 yX5_bringBack := Or.inl (xt3 (i := 175) rfl rfl)
theorem kX11_284 : xLk RX11 284 yX5_size := Or.inl (xt3 (i := 179) rfl rfl)
theorem kL_96 : xLk RL 96 yX11_needs := Or.inl (xt3 (i := 183) rfl rfl)
theorem kL_100 : xLk RL 100 yX11_later := Or.inl (xt3 (i := 187) rfl rfl)
theorem kX11_293 : xLk RX11 293 yX4_tell____ := Or.inl (xt3 (i := 191) rfl rfl)
theorem kX4_28 : xLk RX4 28 yX4_tell___ := Or.inl (xt3 (i := 195) rfl rfl)
theorem kX4_25 : xLk RX4 25 yX4_tell__ := Or.inl (xt3 (i := 199) rfl rfl)
theorem kL_104 : xLk RL 104 yX11_done := Or.inl (xt3 (i := 200) rfl rfl)
theorem kX11_296 : xLk RX11 296 yX11_runTillNobodyWaits := Or.inl (xt3 (i := 204) rfl rfl)
theorem kL_108 : xLk RL 108 yX11_dry := Or.inl (xt3 (i := 208) rfl rfl)
theorem kX11_302 : xLk RX11 302 yX4_tell_ := Or.inl (xt3 (i := 212) rfl rfl)
theorem kL_112 : xLk RL 112 yX11_when := Or.inl (xt3 (i := 213) rfl rfl)
theorem kL_116 : xLk RL 116 yX11_enough := Or.inl (xt3 (i := 217) rfl rfl)
theorem kX11_305 : xLk RX11 305 yX11_tripsWithoutRest := Or.inl (xt3 (i := 221) rfl rfl)
theorem kL_120 : xLk RL 120 yX11_waiting := Or.inl (xt3 (i := 225) rfl rfl)
theorem kX11_308 : xLk RX11 308 yX3_waitsInAll := Or.inl (xt3 (i := 229) rfl rfl)
theorem kL_124 : xLk RL 124 yX11_holds := Or.inl (xt3 (i := 230) rfl rfl)
theorem kL_128 : xLk RL 128 yX11_soonest := Or.inl (xt3 (i := 234) rfl rfl)
theorem kX11_311 : xLk RX11 311 yX11_minutesBySeats := Or.inl (xt3 (i := 238) rfl rfl)
theorem kX11_314 : xLk RX11 314 yX4_tell___ := Or.inl (xt4 (i := 2) rfl rfl)
theorem kL_132 : xLk RL 132 yX11_most := Or.inl (xt4 (i := 3) rfl rfl)
theorem kX11_317 : xLk RX11 317 yX1_readFrom := Or.inl (xt4 (i := 7) rfl rfl)
theorem kX1_18 : xLk RX1 18 yX3_allOf := Or.inl (xt4 (i := 11) rfl rfl)
theorem kX1_39 : xLk RX1 39 yX3_weightOf := Or.inl (xt4 (i := 12) rfl rfl)
theorem kX11_326 : xLk RX11 326 yX1_waterFor := Or.inl (xt4 (i := 13) rfl rfl)
theorem kX1_48 : xLk RX1 48 yX1_weightBelow := Or.inl (xt4 (i := 17) rfl rfl)
theorem kX1_51 : xLk RX1 51 yX1_weightAbove := Or.inl (xt4 (i := 21) rfl rfl)
theorem kX1_54 : xLk RX1 54 yJ9_max_7cf53 := Or.inl (xt4 (i := 25) rfl rfl)
theorem kX11_327 : xLk RX11 327 yX1_mayGo := Or.inl (xt4 (i := 26) rfl rfl)
theorem kX1_43 : xLk RX1 43 yJ6_bitCount_0f7a4 := Or.inl (xt4 (i := 30) rfl rfl)
theorem kL_136 : xLk RL 136 yX11_least := Or.inl (xt4 (i := 31) rfl rfl)
theorem kX11_330 : xLk RX11 330 yX6_start := Or.inl (xt4 (i := 35) rfl rfl)
theorem kX11_333 : xLk RX11 333 yX6_allowOneTripMore := Or.inl (xt4 (i := 40) rfl rfl)
theorem kX6_35 : xLk RX6 35 yX6_haveSeats := Or.inl (xt4 (i := 44) rfl rfl)
theorem kX6_52 : xLk RX6 52 yJ6_bitCount_0f7a4 := Or.inl (xt4 (i := 48) rfl rfl)
theorem kX6_39 : xLk RX6 39 yX6_leastFor := Or.inl (xt4 (i := 49) rfl rfl)
theorem kX6_58 : xLk RX6 58 yX6_leastWith := Or.inl (xt4 (i := 53) rfl rfl)
theorem kX6_67 : xLk RX6 67 yX1_waterFor := Or.inl (xt4 (i := 57) rfl rfl)
theorem kX6_62 : xLk RX6 62 yJ9_min_7cf53 := Or.inl (xt4 (i := 58) rfl rfl)
theorem kX11_336 : xLk RX11 336 yX6_chooseFirst := Or.inl (xt4 (i := 60) rfl rfl)
theorem kX6_70 : xLk RX6 70 yX1_mayGo := Or.inl (xt4 (i := 64) rfl rfl)
theorem kL_140 : xLk RL 140 yX11_freely := Or.inl (xt4 (i := 66) rfl rfl)
theorem kX11_346 : xLk RX11 346 yX4_tell := Or.inl (xt4 (i := 70) rfl rfl)
theorem kL_144 : xLk RL 144 yX11_best := Or.inl (xt4 (i := 74) rfl rfl)
theorem kX11_348 : xLk RX11 348 yX11_waterOfTrial := Or.inl (xt4 (i := 78) rfl rfl)
theorem kX11_351 : xLk RX11 351 yX3_takeNext := Or.inl (xt4 (i := 82) rfl rfl)
theorem kL_148 : xLk RL 148 yX11_alike := Or.inl (xt4 (i := 86) rfl rfl)
theorem kX11_354 : xLk RX11 354 yX1_weightAbove := Or.inl (xt4 (i := 90) rfl rfl)
theorem kX11_357 : xLk RX11 357 yX1_weightBelow := Or.inl (xt4 (i := 91) rfl rfl)
theorem kL_152 : xLk RL 152 yX11_parts := Or.inl (xt4 (i := 92) rfl rfl)
theorem kX11_360 : xLk RX11 360 yJ9_abs_0f7a4 := Or.inl (xt4 (i := 96) rfl rfl)
theorem kL_156 : xLk RL 156 yX11_spare := Or.inl (xt4 (i := 99) rfl rfl)
theorem kL_160 : xLk RL 160 yX11_odds := Or.inl (xt4 (i := 103) rfl rfl)
theorem kX11_363 : xLk RX11 363 yX11_power := Or.inl (xt4 (i := 107) rfl rfl)
theorem kX11_367 : xLk RX11 367 yX11_tellFraction := Or.inl (xt4 (i := 110) rfl rfl)
theorem kX11_370 : xLk RX11 370 yX11_greatestDivisor := Or.inl (xt4 (i := 114) rfl rfl)
theorem kL_164 : xLk RL 164 yX11_heard := Or.inl (xt4 (i := 117) rfl rfl)
theorem kX11_374 : xLk RX11 374 yX11_mayBeHeard := Or.inl (xt4 (i := 121) rfl rfl)
theorem kX11_377 : xLk RX11 377 yX2_add := Or.inl (xt4 (i := 124) rfl rfl)
theorem kX11_380 : xLk RX11 380 yX2_size := Or.inl (xt4 (i := 128) rfl rfl)
theorem kL_168 : xLk RL 168 yX11_forget := Or.inl (xt4 (i := 132) rfl rfl)
theorem kX11_381 : xLk RX11 381 yX2_clear := Or.inl (xt4 (i := 136) rfl rfl)
theorem kL_172 : xLk RL 172 yX11_fits := Or.inl (xt4 (i := 140) rfl rfl)
theorem kX11_383 : xLk RX11 383 yX2_fittingOf := Or.inl (xt4 (i := 144) rfl rfl)
theorem kX2_22 : xLk RX2 22 yX3_allOf := Or.inl (xt4 (i := 148) rfl rfl)
theorem kX2_28 : xLk RX2 28 yX3_suchAs := Or.inl (xt4 (i := 149) rfl rfl)
theorem kX3_112 : xLk RX3 112 yX3_isSo := Or.inl (xt4 (i := 153) rfl rfl)
theorem kL_176 : xLk RL 176 yX11_asks := Or.inl (xt4 (i := 157) rfl rfl)
theorem kX11_386 : xLk RX11 386 yX3_suchAs := Or.inl (xt4 (i := 161) rfl rfl)
theorem kL_180 : xLk RL 180 yX11_saw := Or.inl (xt4 (i := 162) rfl rfl)
theorem kX11_389 : xLk RX11 389 yX9_add := Or.inl (xt4 (i := 166) rfl rfl)
theorem kX11_392 : xLk RX11 392 yX9_size := Or.inl (xt4 (i := 170) rfl rfl)
theorem kL_185 : xLk RL 185 yX11_denies := Or.inl (xt4 (i := 174) rfl rfl)
theorem kX11_393 : xLk RX11 393 yX9_clear := Or.inl (xt4 (i := 178) rfl rfl)
theorem kL_189 : xLk RL 189 yX11_laws := Or.inl (xt4 (i := 182) rfl rfl)
theorem kX11_394 : xLk RX11 394 yX9_fittingLaws := Or.inl (xt4 (i := 186) rfl rfl)
theorem kX9_23 : xLk RX9 23 yX9_lawsThatRun := Or.inl (xt4 (i := 191) rfl rfl)
theorem kX9_29 : xLk RX9 29 yX9_leastOf := Or.inl (xt4 (i := 194) rfl rfl)
theorem kX9_33 : xLk RX9 33 yX9_greatestOf := Or.inl (xt4 (i := 197) rfl rfl)
theorem kX11_398 : xLk RX11 398 yJ13_numberOfTrailingZeros_95d88 := Or.inl (xt4 (i := 201) rfl rfl)
theorem kJ13_311 : xLk RJ13 311 yJ6_numberOfTrailingZeros_0f7a4 := Or.inl (xt4 (i := 204) rfl rfl)
theorem kX11_404 : xLk RX11 404 yX9_leastOf := Or.inl (xt4 (i := 208) rfl rfl)
theorem kX11_407 : xLk RX11 407 yX9_greatestOf := Or.inl (xt4 (i := 209) rfl rfl)
theorem kX11_410 : xLk RX11 410 yJ13_bitCount_95d88 := Or.inl (xt4 (i := 210) rfl rfl)
theorem kL_193 : xLk RL 193 yX11_looks := Or.inl (xt4 (i := 216) rfl rfl)
theorem kX11_412 : xLk RX11 412 yX9_lawsThatRun := Or.inl (xt4 (i := 220) rfl rfl)
theorem kL_197 : xLk RL 197 yX11_pails := Or.inl (xt4 (i := 221) rfl rfl)
theorem kX11_416 : xLk RX11 416 yX11_leastWinningTake := Or.inl (xt4 (i := 225) rfl rfl)
theorem kL_201 : xLk RL 201 yX11_rests := Or.inl (xt4 (i := 229) rfl rfl)
theorem kX11_419 : xLk RX11 419 yX11_isBestAgainst := Or.inl (xt4 (i := 233) rfl rfl)
theorem kX11_423 : xLk RX11 423 yX11_soaked := Or.inl (xt4 (i := 236) rfl rfl)
theorem kL_205 : xLk RL 205 yX11_law := Or.inl (xt4 (i := 239) rfl rfl)
theorem kX11_427 : xLk RX11 427 yX11_runTwentyBy := Or.inl (xt5 (i := 3) rfl rfl)
theorem kL_209 : xLk RL 209 yX11_years := Or.inl (xt5 (i := 7) rfl rfl)
theorem kX11_431 : xLk RX11 431 yX0_startFrom := Or.inl (xt5 (i := 11) rfl rfl)
theorem kX11_434 : xLk RX11 434 yX0_draw := Or.inl (xt5 (i := 15) rfl rfl)
theorem kL_213 : xLk RL 213 yX11_keep := Or.inl (xt5 (i := 20) rfl rfl)
theorem kL_217 : xLk RL 217 yX11_again := Or.inl (xt5 (i := 24) rfl rfl)
theorem kL_221 : xLk RL 221 yX11_count := Or.inl (xt5 (i := 28) rfl rfl)
theorem kX11_440 : xLk RX11 440 yX4_size := Or.inl (xt5 (i := 32) rfl rfl)
theorem kL_42 : xLk RL 42 yL_party := Or.inl (xt5 (i := 36) rfl rfl)
theorem kL_7 : xLk RL 7 yX11_party := Or.inl (xt5 (i := 40) rfl rfl)
theorem kL_225 : xLk RL 225 yL_row := Or.inl (xt5 (i := 105) rfl rfl)
theorem kL_15 : xLk RL 15 yX11_row := Or.inl (xt5 (i := 108) rfl rfl)
theorem kX11_441 : xLk RX11 441 yX4_has := Or.inl (xt5 (i := 112) rfl rfl)
theorem kX11_443 : xLk RX11 443 yX4_at := Or.inl (xt5 (i := 116) rfl rfl)
theorem kX4_17 : xLk RX4 17 yX4_has := Or.inl (xt5 (i := 120) rfl rfl)
theorem kL_22 : xLk RL 22 yX12_init := Or.inl (xt5 (i := 123) rfl rfl)
theorem kL_48 : xLk RL 48 yX12_thrown := Or.inl (xt6 (i := 9) rfl rfl)
theorem kL_27 : xLk RL 27 yX12_sign := Or.inl (xt6 (i := 13) rfl rfl)
theorem kL_32 : xLk RL 32 yX12_end := Or.inl (xt6 (i := 17) rfl rfl)
theorem kX12_89 : xLk RX12 89 yX12_in := Or.inl (xt6 (i := 21) rfl rfl)
theorem kL_37 : xLk RL 37 yX12_parties := Or.inl (xt6 (i := 24) rfl rfl)
theorem kX12_135 : xLk RX12 135 yX12_beginText := Or.inl (xt6 (i := 28) rfl rfl)
theorem kX12_111 : xLk RX12 111 yX12_begin := Or.inl (xt6 (i := 32) rfl rfl)
theorem kX12_115 : xLk RX12 115 yX12_fine := Or.inl (xt6 (i := 36) rfl rfl)
theorem kX12_119 : xLk RX12 119 yX12_here := Or.inl (xt6 (i := 40) rfl rfl)
theorem kX12_138 : xLk RX12 138 yX12_readSide := Or.inl (xt6 (i := 44) rfl rfl)
theorem kX12_127 : xLk RX12 127 yX12_fault := Or.inl (xt6 (i := 48) rfl rfl)
theorem kX12_131 : xLk RX12 131 yX12_oneOf := Or.inl (xt6 (i := 52) rfl rfl)
theorem kX12_123 : xLk RX12 123 yX12_passes := Or.inl (xt6 (i := 56) rfl rfl)
theorem kX12_141 : xLk RX12 141 yX12_readBelow := Or.inl (xt6 (i := 60) rfl rfl)
theorem kX12_144 : xLk RX12 144 yX12_wasRight := Or.inl (xt6 (i := 64) rfl rfl)
theorem kL_41 : xLk RL 41 yX12_rule := Or.inl (xt6 (i := 68) rfl rfl)
theorem kX12_177 : xLk RX12 177 yX12_readRule := Or.inl (xt6 (i := 72) rfl rfl)
theorem kX12_160 : xLk RX12 160 yX12_held := Or.inl (xt6 (i := 76) rfl rfl)
theorem kX12_150 : xLk RX12 150 yX12_sum := Or.inl (xt6 (i := 80) rfl rfl)
theorem kX12_154 : xLk RX12 154 yX12_product := Or.inl (xt6 (i := 84) rfl rfl)
theorem kX12_157 : xLk RX12 157 yX12_thing := Or.inl (xt6 (i := 88) rfl rfl)
theorem kX12_163 : xLk RX12 163 yX12_need := Or.inl (xt6 (i := 92) rfl rfl)
theorem kX12_167 : xLk RX12 167 yX12_number := Or.inl (xt6 (i := 96) rfl rfl)
theorem kX12_170 : xLk RX12 170 yX12_letterOf := Or.inl (xt6 (i := 100) rfl rfl)
theorem kL_47 : xLk RL 47 yX12_party := Or.inl (xt6 (i := 103) rfl rfl)
theorem kX12_204 : xLk RX12 204 yX12_isParty := Or.inl (xt6 (i := 107) rfl rfl)
theorem kX12_207 : xLk RX12 207 yX12_lost := Or.inl (xt6 (i := 111) rfl rfl)
theorem kL_55 : xLk RL 55 yX12_sheet := Or.inl (xt6 (i := 115) rfl rfl)
theorem kX12_195 : xLk RX12 195 yJ9_min_7cf53 := Or.inl (xt6 (i := 119) rfl rfl)
theorem kX12_201 : xLk RX12 201 yJ9_max_7cf53 := Or.inl (xt6 (i := 120) rfl rfl)
theorem kX12_187 : xLk RX12 187 yX12_allOf := Or.inl (xt6 (i := 121) rfl rfl)
theorem kX12_191 : xLk RX12 191 yX12_weightOf := Or.inl (xt6 (i := 124) rfl rfl)
theorem kX12_183 : xLk RX12 183 yX12_has := Or.inl (xt6 (i := 127) rfl rfl)
theorem kL_59 : xLk RL 59 yX12_trip := Or.inl (xt6 (i := 130) rfl rfl)
theorem kX12_257 : xLk RX12 257 yX12_refusesTrip := Or.inl (xt6 (i := 134) rfl rfl)
theorem kX12_240 : xLk RX12 240 yX12_waits := Or.inl (xt6 (i := 137) rfl rfl)
theorem kX12_243 : xLk RX12 243 yX12_nextWater := Or.inl (xt6 (i := 140) rfl rfl)
theorem kX12_234 : xLk RX12 234 yX12_nextOf := Or.inl (xt6 (i := 143) rfl rfl)
theorem kX12_218 : xLk RX12 218 yX12_water := Or.inl (xt6 (i := 146) rfl rfl)
theorem kX12_260 : xLk RX12 260 yX12_remember := Or.inl (xt6 (i := 149) rfl rfl)
theorem kX12_210 : xLk RX12 210 yX12_lay := Or.inl (xt6 (i := 153) rfl rfl)
theorem kX12_250 : xLk RX12 250 yX12_goNext := Or.inl (xt6 (i := 156) rfl rfl)
theorem kX12_237 : xLk RX12 237 yX12_goTrip := Or.inl (xt6 (i := 160) rfl rfl)
theorem kX12_221 : xLk RX12 221 yX12_goOut := Or.inl (xt6 (i := 164) rfl rfl)
theorem kX12_225 : xLk RX12 225 yX12_goMinute := Or.inl (xt6 (i := 167) rfl rfl)
theorem kX12_214 : xLk RX12 214 yX12_spring := Or.inl (xt6 (i := 171) rfl rfl)
theorem kX12_229 : xLk RX12 229 yJ6_bitCount_0f7a4 := Or.inl (xt6 (i := 175) rfl rfl)
theorem kX12_263 : xLk RX12 263 yX12_tellTrip := Or.inl (xt6 (i := 176) rfl rfl)
theorem kX12_253 : xLk RX12 253 yX12_tell := Or.inl (xt6 (i := 180) rfl rfl)
theorem kL_63 : xLk RL 63 yX12_sends := Or.inl (xt6 (i := 184) rfl rfl)
theorem kX12_266 : xLk RX12 266 yX12_isGroup := Or.inl (xt6 (i := 188) rfl rfl)
theorem kL_67 : xLk RL 67 yX12_runs := Or.inl (xt6 (i := 192) rfl rfl)
theorem kX12_276 : xLk RX12 276 yX12_goRuns := Or.inl (xt6 (i := 196) rfl rfl)
theorem kX12_273 : xLk RX12 273 yX12_goRunning := Or.inl (xt6 (i := 200) rfl rfl)
theorem kX12_246 : xLk RX12 246 yX12_canGo := Or.inl (xt6 (i := 204) rfl rfl)
theorem kL_71 : xLk RL 71 yX12_grips := Or.inl (xt6 (i := 207) rfl rfl)
theorem kX12_279 : xLk RX12 279 yX12_refusesGrip := Or.inl (xt6 (i := 211) rfl rfl)
theorem kL_75 : xLk RL 75 yX12_seats := Or.inl (xt6 (i := 215) rfl rfl)
theorem kX12_282 : xLk RX12 282 yX12_refusesSeats := Or.inl (xt6 (i := 219) rfl rfl)
theorem kL_79 : xLk RL 79 yX12_leaves := Or.inl (xt6 (i := 223) rfl rfl)
theorem kL_83 : xLk RL 83 yX12_swaps := Or.inl (xt6 (i := 227) rfl rfl)
theorem kX12_285 : xLk RX12 285 yX12_refusesSwap := Or.inl (xt6 (i := 231) rfl rfl)
theorem kX12_288 : xLk RX12 288 yX12_change := Or.inl (xt6 (i := 235) rfl rfl)
theorem kL_87 : xLk RL 87 yX12_drains := Or.inl (xt6 (i := 238) rfl rfl)
theorem kX12_291 : xLk RX12 291 yX12_refusesDrain := Or.inl (xt7 (i := 2) rfl rfl)
theorem kL_91 : xLk RL 91 yX12_day := Or.inl (xt7 (i := 6) rfl rfl)
theorem kX12_294 : xLk RX12 294 yX12_readAct := Or.inl (xt7 (i := 10) rfl rfl)
theorem kX12_297 : xLk RX12 297 yX12_act := Or.inl (xt7 (i := 14) rfl rfl)
theorem kL_95 : xLk RL 95 yX12_undo := Or.inl (xt7 (i := 18) rfl rfl)
theorem kL_99 : xLk RL 99 yX12_needs := Or.inl (xt7 (i := 22) rfl rfl)
theorem kL_103 : xLk RL 103 yX12_later := Or.inl (xt7 (i := 26) rfl rfl)
theorem kL_107 : xLk RL 107 yX12_done := Or.inl (xt7 (i := 30) rfl rfl)
theorem kL_111 : xLk RL 111 yX12_dry := Or.inl (xt7 (i := 34) rfl rfl)
theorem kL_115 : xLk RL 115 yX12_when := Or.inl (xt7 (i := 38) rfl rfl)
theorem kL_119 : xLk RL 119 yX12_enough := Or.inl (xt7 (i := 42) rfl rfl)
theorem kL_123 : xLk RL 123 yX12_waiting := Or.inl (xt7 (i := 46) rfl rfl)
theorem kL_127 : xLk RL 127 yX12_holds := Or.inl (xt7 (i := 50) rfl rfl)
theorem kL_131 : xLk RL 131 yX12_soonest := Or.inl (xt7 (i := 54) rfl rfl)
theorem kL_135 : xLk RL 135 yX12_most := Or.inl (xt7 (i := 58) rfl rfl)
theorem kL_139 : xLk RL 139 yX12_least := Or.inl (xt7 (i := 63) rfl rfl)
theorem kX12_317 : xLk RX12 317 yX12_layNone := Or.inl (xt7 (i := 67) rfl rfl)
theorem kX12_307 : xLk RX12 307 yX12_layWeighs := Or.inl (xt7 (i := 71) rfl rfl)
theorem kX12_320 : xLk RX12 320 yX12_layMore := Or.inl (xt7 (i := 75) rfl rfl)
theorem kX12_310 : xLk RX12 310 yX12_whole := Or.inl (xt7 (i := 79) rfl rfl)
theorem kX12_313 : xLk RX12 313 yX12_leastOf := Or.inl (xt7 (i := 83) rfl rfl)
theorem kX12_324 : xLk RX12 324 yX12_tellFirst := Or.inl (xt7 (i := 87) rfl rfl)
theorem kL_143 : xLk RL 143 yX12_freely := Or.inl (xt7 (i := 91) rfl rfl)
theorem kL_147 : xLk RL 147 yX12_best := Or.inl (xt7 (i := 95) rfl rfl)
theorem kX12_327 : xLk RX12 327 yX12_allWater := Or.inl (xt7 (i := 99) rfl rfl)
theorem kL_155 : xLk RL 155 yX12_parts := Or.inl (xt7 (i := 103) rfl rfl)
theorem kX12_330 : xLk RX12 330 yJ9_abs_0f7a4 := Or.inl (xt7 (i := 107) rfl rfl)
theorem kL_159 : xLk RL 159 yX12_spare := Or.inl (xt7 (i := 108) rfl rfl)
theorem kL_151 : xLk RL 151 yX12_alike := Or.inl (xt7 (i := 112) rfl rfl)
theorem kL_163 : xLk RL 163 yX12_odds := Or.inl (xt7 (i := 116) rfl rfl)
theorem kX12_333 : xLk RX12 333 yX12_common := Or.inl (xt7 (i := 121) rfl rfl)
theorem kL_167 : xLk RL 167 yX12_heard := Or.inl (xt7 (i := 124) rfl rfl)
theorem kX12_339 : xLk RX12 339 yX12_lowOf := Or.inl (xt7 (i := 128) rfl rfl)
theorem kX12_342 : xLk RX12 342 yX12_highOf := Or.inl (xt7 (i := 131) rfl rfl)
theorem kL_171 : xLk RL 171 yX12_forget := Or.inl (xt7 (i := 134) rfl rfl)
theorem kL_175 : xLk RL 175 yX12_fits := Or.inl (xt7 (i := 138) rfl rfl)
theorem kX12_351 : xLk RX12 351 yX12_fitting := Or.inl (xt7 (i := 142) rfl rfl)
theorem kX12_348 : xLk RX12 348 yX12_isSo := Or.inl (xt7 (i := 146) rfl rfl)
theorem kL_179 : xLk RL 179 yX12_asks := Or.inl (xt7 (i := 150) rfl rfl)
theorem kL_184 : xLk RL 184 yX12_saw := Or.inl (xt7 (i := 154) rfl rfl)
theorem kL_188 : xLk RL 188 yX12_denies := Or.inl (xt7 (i := 158) rfl rfl)
theorem kL_192 : xLk RL 192 yX12_laws := Or.inl (xt7 (i := 162) rfl rfl)
theorem kX12_360 : xLk RX12 360 yX12_isLaw := Or.inl (xt7 (i := 166) rfl rfl)
theorem kX12_357 : xLk RX12 357 yX12_runsBy := Or.inl (xt7 (i := 170) rfl rfl)
theorem kL_196 : xLk RL 196 yX12_looks := Or.inl (xt7 (i := 173) rfl rfl)
theorem kL_200 : xLk RL 200 yX12_pails := Or.inl (xt7 (i := 177) rfl rfl)
theorem kX12_364 : xLk RX12 364 yX12_take := Or.inl (xt7 (i := 181) rfl rfl)
theorem kL_204 : xLk RL 204 yX12_rests := Or.inl (xt7 (i := 185) rfl rfl)
theorem kX12_371 : xLk RX12 371 yX12_isBest := Or.inl (xt7 (i := 189) rfl rfl)
theorem kX12_367 : xLk RX12 367 yX12_gets := Or.inl (xt7 (i := 192) rfl rfl)
theorem kL_208 : xLk RL 208 yX12_law := Or.inl (xt7 (i := 195) rfl rfl)
theorem kL_212 : xLk RL 212 yX12_years := Or.inl (xt7 (i := 199) rfl rfl)
theorem kX12_378 : xLk RX12 378 yX12_draw := Or.inl (xt7 (i := 203) rfl rfl)
theorem kL_216 : xLk RL 216 yX12_keep := Or.inl (xt7 (i := 208) rfl rfl)
theorem kL_220 : xLk RL 220 yX12_again := Or.inl (xt7 (i := 212) rfl rfl)
theorem kL_224 : xLk RL 224 yX12_count := Or.inl (xt7 (i := 216) rfl rfl)
theorem kL_228 : xLk RL 228 yX12_row := Or.inl (xt7 (i := 220) rfl rfl)
theorem wz_L : Cond.initialized "CliffCarsLaw" ∈ xW := xt1 (i := 0) rfl rfl
theorem wz_X11 : Cond.initialized "CliffCars" ∈ xW := xt1 (i := 1) rfl rfl
theorem wz_X10 : Cond.initialized "CliffCars$Slip" ∈ xW := xt1 (i := 2) rfl rfl
theorem wz_X4 : Cond.initialized "CliffCars$Numbers" ∈ xW := xt1 (i := 3) rfl rfl
theorem wz_X3 : Cond.initialized "CliffCars$Hill" ∈ xW := xt1 (i := 4) rfl rfl
theorem wz_X5 : Cond.initialized "CliffCars$Past" ∈ xW := xt1 (i := 5) rfl rfl
theorem wz_X7 : Cond.initialized "CliffCars$Rule" ∈ xW := xt1 (i := 6) rfl rfl
theorem wz_X8 : Cond.initialized "CliffCars$RuleReader" ∈ xW := xt1 (i := 7) rfl rfl
theorem wz_X2 : Cond.initialized "CliffCars$Hearsay" ∈ xW := xt1 (i := 8) rfl rfl
theorem wz_X9 : Cond.initialized "CliffCars$Sightings" ∈ xW := xt1 (i := 9) rfl rfl
theorem wz_X1 : Cond.initialized "CliffCars$Groups" ∈ xW := xt1 (i := 10) rfl rfl
theorem wz_X6 : Cond.initialized "CliffCars$Plan" ∈ xW := xt1 (i := 11) rfl rfl
theorem wz_X0 : Cond.initialized "CliffCars$Dice" ∈ xW := xt1 (i := 12) rfl rfl
theorem wz_X12 : Cond.initialized "CliffCarsModel" ∈ xW := xt1 (i := 13) rfl rfl
theorem wz_J9 : Cond.initialized "java/lang/Math" ∈ xW := xt1 (i := 14) rfl rfl
theorem wz_J10 : Cond.initialized "java/lang/System" ∈ xW := xt1 (i := 15) rfl rfl
theorem wz_javalangThrowable : Cond.initialized "java/lang/Throwable" ∈ xW := xt1 (i := 16) rfl rfl
theorem wz_javalangException : Cond.initialized "java/lang/Exception" ∈ xW := xt1 (i := 17) rfl rfl
theorem wz_javalangRuntimeException : Cond.initialized "java/lang/RuntimeException" ∈ xW := xt1 (i := 18) rfl rfl
theorem wz_javautilNoSuchElementException : Cond.initialized "java/util/NoSuchElementException" ∈ xW := xt1 (i := 19) rfl rfl
theorem wz_Jxd2413 : Cond.initialized "java/lang/Number" ∈ xW := xt1 (i := 20) rfl rfl
theorem wz_J6 : Cond.initialized "java/lang/Integer" ∈ xW := xt1 (i := 21) rfl rfl
theorem wz_J13 : Cond.initialized "java/lang/Long" ∈ xW := xt1 (i := 22) rfl rfl
theorem wL_8 : Cond.classLink RL 8 "CliffCars" ∈ xW := xt1 (i := 23) rfl rfl
theorem wi_X11 : Cond.instantiable "CliffCars" 16 ∈ xW := xt1 (i := 24) rfl rfl
theorem koX11_3 : Cond.methodLink RX11 3 Lib.objectInit ∈ xW := xt1 (i := 28) rfl rfl
theorem oi : Cond.instanceMethod Lib.objectInit ∈ xW := xt1 (i := 29) rfl rfl
theorem oc : Cond.code Lib.objectInit ⟨#[0xb1]⟩ 1 none ∈ xW := xt1 (i := 30) rfl rfl
theorem wX11_9 : Cond.classLink RX11 9 "CliffCars$Slip" ∈ xW := xt1 (i := 31) rfl rfl
theorem wi_X10 : Cond.instantiable "CliffCars$Slip" 2 ∈ xW := xt1 (i := 32) rfl rfl
theorem koX10_1 : Cond.methodLink RX10 1 Lib.objectInit ∈ xW := xt1 (i := 36) rfl rfl
theorem wa_int : Cond.arrayClass .int ∈ xW := xt1 (i := 44) rfl rfl
theorem wX11_16 : Cond.classLink RX11 16 "CliffCars$Numbers" ∈ xW := xt1 (i := 45) rfl rfl
theorem wi_X4 : Cond.instantiable "CliffCars$Numbers" 2 ∈ xW := xt1 (i := 46) rfl rfl
theorem koX4_1 : Cond.methodLink RX4 1 Lib.objectInit ∈ xW := xt1 (i := 50) rfl rfl
theorem wa_long : Cond.arrayClass .long ∈ xW := xt1 (i := 58) rfl rfl
theorem wX11_23 : Cond.classLink RX11 23 "CliffCars$Hill" ∈ xW := xt1 (i := 59) rfl rfl
theorem wi_X3 : Cond.instantiable "CliffCars$Hill" 9 ∈ xW := xt1 (i := 60) rfl rfl
theorem koX3_3 : Cond.methodLink RX3 3 Lib.objectInit ∈ xW := xt1 (i := 64) rfl rfl
theorem wX11_36 : Cond.classLink RX11 36 "CliffCars$Past" ∈ xW := xt1 (i := 106) rfl rfl
theorem wi_X5 : Cond.instantiable "CliffCars$Past" 2 ∈ xW := xt1 (i := 107) rfl rfl
theorem koX5_1 : Cond.methodLink RX5 1 Lib.objectInit ∈ xW := xt1 (i := 111) rfl rfl
theorem wX5_9 : Cond.classLink RX5 9 "CliffCars$Hill" ∈ xW := xt1 (i := 112) rfl rfl
theorem wo_Hill : Cond.arrayOver (.object RX3) ∈ xW := xt1 (i := 113) rfl rfl
theorem wX11_47 : Cond.classLink RX11 47 "CliffCars$Rule" ∈ xW := xt1 (i := 121) rfl rfl
theorem wi_X7 : Cond.instantiable "CliffCars$Rule" 3 ∈ xW := xt1 (i := 122) rfl rfl
theorem koX7_3 : Cond.methodLink RX7 3 Lib.objectInit ∈ xW := xt1 (i := 126) rfl rfl
theorem wX11_57 : Cond.classLink RX11 57 "CliffCars$RuleReader" ∈ xW := xt1 (i := 137) rfl rfl
theorem wi_X8 : Cond.instantiable "CliffCars$RuleReader" 8 ∈ xW := xt1 (i := 138) rfl rfl
theorem koX8_3 : Cond.methodLink RX8 3 Lib.objectInit ∈ xW := xt1 (i := 142) rfl rfl
theorem wX11_66 : Cond.classLink RX11 66 "CliffCars$Hearsay" ∈ xW := xt1 (i := 168) rfl rfl
theorem wi_X2 : Cond.instantiable "CliffCars$Hearsay" 3 ∈ xW := xt1 (i := 169) rfl rfl
theorem koX2_3 : Cond.methodLink RX2 3 Lib.objectInit ∈ xW := xt1 (i := 173) rfl rfl
theorem wX11_73 : Cond.classLink RX11 73 "CliffCars$Sightings" ∈ xW := xt1 (i := 184) rfl rfl
theorem wi_X9 : Cond.instantiable "CliffCars$Sightings" 3 ∈ xW := xt1 (i := 185) rfl rfl
theorem koX9_3 : Cond.methodLink RX9 3 Lib.objectInit ∈ xW := xt1 (i := 189) rfl rfl
theorem wa_boolean : Cond.arrayClass .boolean ∈ xW := xt1 (i := 200) rfl rfl
theorem wX11_80 : Cond.classLink RX11 80 "CliffCars$Groups" ∈ xW := xt1 (i := 201) rfl rfl
theorem wi_X1 : Cond.instantiable "CliffCars$Groups" 6 ∈ xW := xt1 (i := 202) rfl rfl
theorem koX1_3 : Cond.methodLink RX1 3 Lib.objectInit ∈ xW := xt1 (i := 206) rfl rfl
theorem wX11_87 : Cond.classLink RX11 87 "CliffCars$Plan" ∈ xW := xt1 (i := 231) rfl rfl
theorem wi_X6 : Cond.instantiable "CliffCars$Plan" 6 ∈ xW := xt1 (i := 232) rfl rfl
theorem koX6_3 : Cond.methodLink RX6 3 Lib.objectInit ∈ xW := xt1 (i := 236) rfl rfl
theorem wX11_96 : Cond.classLink RX11 96 "CliffCars$Dice" ∈ xW := xt2 (i := 18) rfl rfl
theorem wi_X0 : Cond.instantiable "CliffCars$Dice" 1 ∈ xW := xt2 (i := 19) rfl rfl
theorem koX0_1 : Cond.methodLink RX0 1 Lib.objectInit ∈ xW := xt2 (i := 23) rfl rfl
theorem kmX8_51 : Cond.methodLink RX8 51 Lib.Math.min.name ∈ xW := xt2 (i := 151) rfl rfl
theorem ms_min : Cond.static Lib.Math.min.name ∈ xW := xt2 (i := 152) rfl rfl
theorem mc_min : Cond.code Lib.Math.min.name Lib.Math.min.code 2 (some .int) ∈ xW := xt2 (i := 153) rfl rfl
theorem kcX7_22 : Cond.methodLink RX7 22 arraycopyName ∈ xW := xt2 (i := 199) rfl rfl
theorem ms_arraycopy : Cond.static arraycopyName ∈ xW := xt2 (i := 200) rfl rfl
theorem mn_arraycopy : Cond.native arraycopyName ∈ xW := xt2 (i := 201) rfl rfl
theorem kmX11_171 : Cond.methodLink RX11 171 Lib.Math.min.name ∈ xW := xt2 (i := 209) rfl rfl
theorem kmX11_176 : Cond.methodLink RX11 176 Lib.Math.max.name ∈ xW := xt2 (i := 210) rfl rfl
theorem ms_max : Cond.static Lib.Math.max.name ∈ xW := xt2 (i := 211) rfl rfl
theorem mc_max : Cond.code Lib.Math.max.name Lib.Math.max.code 2 (some .int) ∈ xW := xt2 (i := 212) rfl rfl
theorem kcX3_28 : Cond.methodLink RX3 28 arraycopyName ∈ xW := xt2 (i := 230) rfl rfl
theorem kmX3_62 : Cond.methodLink RX3 62 Lib.Math.min.name ∈ xW := xt2 (i := 239) rfl rfl
theorem kmX3_79 : Cond.methodLink RX3 79 Lib.Math.max.name ∈ xW := xt3 (i := 9) rfl rfl
theorem kmX7_40 : Cond.methodLink RX7 40 Lib.Math.min.name ∈ xW := xt3 (i := 32) rfl rfl
theorem kmX7_46 : Cond.methodLink RX7 46 Lib.Math.max.name ∈ xW := xt3 (i := 33) rfl rfl
theorem nJ6_265 : Cond.constant RJ6 265 (1431655765) ∈ xW := xt3 (i := 49) rfl rfl
theorem nJ6_266 : Cond.constant RJ6 266 (858993459) ∈ xW := xt3 (i := 50) rfl rfl
theorem nJ6_267 : Cond.constant RJ6 267 (252645135) ∈ xW := xt3 (i := 51) rfl rfl
theorem kmX1_54 : Cond.methodLink RX1 54 Lib.Math.max.name ∈ xW := xt4 (i := 25) rfl rfl
theorem nX6_22 : Cond.constant RX6 22 (1048576) ∈ xW := xt4 (i := 39) rfl rfl
theorem kmX6_62 : Cond.methodLink RX6 62 Lib.Math.min.name ∈ xW := xt4 (i := 58) rfl rfl
theorem kcX6_43 : Cond.methodLink RX6 43 arraycopyName ∈ xW := xt4 (i := 59) rfl rfl
theorem nX11_339 : Cond.constant RX11 339 (1048576) ∈ xW := xt4 (i := 65) rfl rfl
theorem kmX11_360 : Cond.methodLink RX11 360 Lib.Math.abs.name ∈ xW := xt4 (i := 96) rfl rfl
theorem ms_abs : Cond.static Lib.Math.abs.name ∈ xW := xt4 (i := 97) rfl rfl
theorem mc_abs : Cond.code Lib.Math.abs.name Lib.Math.abs.code 1 (some .int) ∈ xW := xt4 (i := 98) rfl rfl
theorem nX9_21 : Cond.constantLong RX9 21 (1099511627775) ∈ xW := xt4 (i := 190) rfl rfl
theorem nX9_27 : Cond.constantLong RX9 27 (-1) ∈ xW := xt4 (i := 200) rfl rfl
theorem nJ6_264 : Cond.constant RJ6 264 (65536) ∈ xW := xt4 (i := 207) rfl rfl
theorem nJ13_314 : Cond.constantLong RJ13 314 (6148914691236517205) ∈ xW := xt4 (i := 213) rfl rfl
theorem nJ13_316 : Cond.constantLong RJ13 316 (3689348814741910323) ∈ xW := xt4 (i := 214) rfl rfl
theorem nJ13_318 : Cond.constantLong RJ13 318 (1085102592571150095) ∈ xW := xt4 (i := 215) rfl rfl
theorem nX0_13 : Cond.constant RX0 13 (1103515245) ∈ xW := xt5 (i := 19) rfl rfl
theorem wL_13 : Cond.classLink RL 13 "java/util/NoSuchElementException" ∈ xW := xt5 (i := 39) rfl rfl
theorem wX11_151 : Cond.classLink RX11 151 "java/util/NoSuchElementException" ∈ xW := xt5 (i := 44) rfl rfl
theorem wi_javautilNoSuchElementException : Cond.instantiable "java/util/NoSuchElementException" 6 ∈ xW := xt5 (i := 45) rfl rfl
theorem wi_javalangThrowable : Cond.instantiable "java/lang/Throwable" 6 ∈ xW := xt5 (i := 81) rfl rfl
theorem wL_20 : Cond.classLink RL 20 "CliffCarsModel" ∈ xW := xt5 (i := 121) rfl rfl
theorem wi_X12 : Cond.instantiable "CliffCarsModel" 40 ∈ xW := xt5 (i := 122) rfl rfl
theorem koX12_3 : Cond.methodLink RX12 3 Lib.objectInit ∈ xW := xt5 (i := 126) rfl rfl
theorem wa_byte : Cond.arrayClass .byte ∈ xW := xt6 (i := 8) rfl rfl
theorem kmX12_195 : Cond.methodLink RX12 195 Lib.Math.min.name ∈ xW := xt6 (i := 119) rfl rfl
theorem kmX12_201 : Cond.methodLink RX12 201 Lib.Math.max.name ∈ xW := xt6 (i := 120) rfl rfl
theorem nX12_300 : Cond.constant RX12 300 (1000000) ∈ xW := xt7 (i := 62) rfl rfl
theorem kmX12_330 : Cond.methodLink RX12 330 Lib.Math.abs.name ∈ xW := xt7 (i := 107) rfl rfl
theorem nX12_337 : Cond.constantLong RX12 337 (10) ∈ xW := xt7 (i := 120) rfl rfl
theorem nX12_377 : Cond.constant RX12 377 (1103515245) ∈ xW := xt7 (i := 207) rfl rfl
