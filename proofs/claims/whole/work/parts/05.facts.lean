def LAY : lyT := [.inl (7, [some (some 1), some (some 5), some (some 16), some (some 17), some (some 21), some (some 23), none]),
  .inl (5, [some (some 2), some (some 3), some (some 4), none, none]),
  .inr (false, 144),
  .inr (false, 144),
  .inr (false, 432),
  .inl (3, [some (some 1), some (some 6), some (some 7), some (some 8), some (some 9), some (some 10), some (some 11), some (some 12), some (some 13), some (some 14), some (some 15), none]),
  .inr (false, 144),
  .inr (false, 144),
  .inr (false, 144),
  .inr (false, 144),
  .inr (false, 144),
  .inr (false, 1024),
  .inr (false, 8),
  .inr (false, 8),
  .inr (false, 8),
  .inr (false, 8),
  .inl (0, [some (some 1), some (some 5)]),
  .inl (6, [some (some 1), some (some 18), some (some 19), some (some 20), none, none]),
  .inr (false, 144),
  .inr (false, 144),
  .inr (false, 144),
  .inl (1, [some (some 1), some (some 22), none]),
  .inr (false, 144),
  .inl (4, [some (some 1), some (some 21), some (some 24), some (some 52), some (some 53), none, none, none, none, none, none, none]),
  .inl (2, [some (some 25), some (some 46), some (some 47), some (some 48), some (some 49), some (some 50), some (some 51), none, none, none]),
  .inl (2, [some (some 26), some (some 40), some (some 41), some (some 42), some (some 43), some (some 44), some (some 45), none, none, none]),
  .inl (2, [some (some 27), some (some 34), some (some 35), some (some 36), some (some 37), some (some 38), some (some 39), none, none, none]),
  .inl (2, [some none, some (some 28), some (some 29), some (some 30), some (some 31), some (some 32), some (some 33), none, none, none]),
  .inr (false, 144),
  .inr (false, 144),
  .inr (false, 144),
  .inr (false, 1024),
  .inr (false, 12),
  .inr (false, 12),
  .inr (false, 144),
  .inr (false, 144),
  .inr (false, 144),
  .inr (false, 1024),
  .inr (false, 12),
  .inr (false, 12),
  .inr (false, 144),
  .inr (false, 144),
  .inr (false, 144),
  .inr (false, 1024),
  .inr (false, 12),
  .inr (false, 12),
  .inr (false, 144),
  .inr (false, 144),
  .inr (false, 144),
  .inr (false, 1024),
  .inr (false, 12),
  .inr (false, 12),
  .inr (false, 3),
  .inr (false, 4),
  .inl (8, [none, none, some (some 55), some (some 56), some (some 57), some (some 58), some (some 59), some (some 60), none, some (some 61), some (some 62), some (some 63), some (some 64), some (some 65), some (some 66), some (some 67), none, none, some (some 68), some (some 69), some (some 70), some (some 71), some (some 72), some (some 73), some (some 74), none, some (some 75), some (some 76), some (some 77), some (some 78), none, none, none, none, none]),
  .inr (false, 144),
  .inr (false, 144),
  .inr (false, 144),
  .inr (false, 144),
  .inr (true, 144),
  .inr (false, 432),
  .inr (false, 1152),
  .inr (false, 1152),
  .inr (false, 1152),
  .inr (false, 1152),
  .inr (true, 1152),
  .inr (false, 3456),
  .inr (true, 144),
  .inr (true, 144),
  .inr (true, 144),
  .inr (false, 144),
  .inr (false, 576),
  .inr (false, 576),
  .inr (false, 576),
  .inr (false, 16384),
  .inr (false, 16),
  .inr (false, 16),
  .inr (false, 4),
  .inr (false, 4)]
set_option maxRecDepth 10000 in
theorem tbt1 {w : Cond} (i : Nat) (e : tables_1_1[i]? = some w) (g : goodWord w = true) : w ∈ TB := by
  have h := List.mem_of_getElem? e
  exact List.mem_filter.mpr ⟨List.mem_append_right _ (show w ∈ tables_1_1 ++ (tables_1_2 ++ (tables_1_3 ++ (tables_1_4 ++ (tables_1_5 ++ tables_1_6)))) from List.mem_append_left _ h), g⟩
set_option maxRecDepth 10000 in
theorem tbt2 {w : Cond} (i : Nat) (e : tables_1_2[i]? = some w) (g : goodWord w = true) : w ∈ TB := by
  have h := List.mem_of_getElem? e
  exact List.mem_filter.mpr ⟨List.mem_append_right _ (show w ∈ tables_1_1 ++ (tables_1_2 ++ (tables_1_3 ++ (tables_1_4 ++ (tables_1_5 ++ tables_1_6)))) from List.mem_append_right _ (List.mem_append_left _ h)), g⟩
set_option maxRecDepth 10000 in
theorem tbt3 {w : Cond} (i : Nat) (e : tables_1_3[i]? = some w) (g : goodWord w = true) : w ∈ TB := by
  have h := List.mem_of_getElem? e
  exact List.mem_filter.mpr ⟨List.mem_append_right _ (show w ∈ tables_1_1 ++ (tables_1_2 ++ (tables_1_3 ++ (tables_1_4 ++ (tables_1_5 ++ tables_1_6)))) from List.mem_append_right _ (List.mem_append_right _ (List.mem_append_left _ h))), g⟩
set_option maxRecDepth 10000 in
theorem tbt4 {w : Cond} (i : Nat) (e : tables_1_4[i]? = some w) (g : goodWord w = true) : w ∈ TB := by
  have h := List.mem_of_getElem? e
  exact List.mem_filter.mpr ⟨List.mem_append_right _ (show w ∈ tables_1_1 ++ (tables_1_2 ++ (tables_1_3 ++ (tables_1_4 ++ (tables_1_5 ++ tables_1_6)))) from List.mem_append_right _ (List.mem_append_right _ (List.mem_append_right _ (List.mem_append_left _ h)))), g⟩
set_option maxRecDepth 10000 in
theorem tbt5 {w : Cond} (i : Nat) (e : tables_1_5[i]? = some w) (g : goodWord w = true) : w ∈ TB := by
  have h := List.mem_of_getElem? e
  exact List.mem_filter.mpr ⟨List.mem_append_right _ (show w ∈ tables_1_1 ++ (tables_1_2 ++ (tables_1_3 ++ (tables_1_4 ++ (tables_1_5 ++ tables_1_6)))) from List.mem_append_right _ (List.mem_append_right _ (List.mem_append_right _ (List.mem_append_right _ (List.mem_append_left _ h))))), g⟩
set_option maxRecDepth 10000 in
theorem tbt6 {w : Cond} (i : Nat) (e : tables_1_6[i]? = some w) (g : goodWord w = true) : w ∈ TB := by
  have h := List.mem_of_getElem? e
  exact List.mem_filter.mpr ⟨List.mem_append_right _ (show w ∈ tables_1_1 ++ (tables_1_2 ++ (tables_1_3 ++ (tables_1_4 ++ (tables_1_5 ++ tables_1_6)))) from List.mem_append_right _ (List.mem_append_right _ (List.mem_append_right _ (List.mem_append_right _ (List.mem_append_right _ (h)))))), g⟩
set_option maxRecDepth 10000 in
theorem tbp1 {y : MethodName} {n : Nat} (i : Nat) (e : lw_privs_1[i]? = some (y, n)) : Cond.selects y.cls y y ∈ TB := by
  have h := List.mem_of_getElem? e
  exact List.mem_filter.mpr ⟨List.mem_append_left _ (List.mem_map.mpr ⟨(y, n), (show (y, n) ∈ lw_privs_1 ++ (lw_privs_2 ++ (lw_privs_3 ++ (lw_privs_4))) from List.mem_append_left _ h), rfl⟩), rfl⟩
set_option maxRecDepth 10000 in
theorem tbp2 {y : MethodName} {n : Nat} (i : Nat) (e : lw_privs_2[i]? = some (y, n)) : Cond.selects y.cls y y ∈ TB := by
  have h := List.mem_of_getElem? e
  exact List.mem_filter.mpr ⟨List.mem_append_left _ (List.mem_map.mpr ⟨(y, n), (show (y, n) ∈ lw_privs_1 ++ (lw_privs_2 ++ (lw_privs_3 ++ (lw_privs_4))) from List.mem_append_right _ (List.mem_append_left _ h)), rfl⟩), rfl⟩
set_option maxRecDepth 10000 in
theorem tbp3 {y : MethodName} {n : Nat} (i : Nat) (e : lw_privs_3[i]? = some (y, n)) : Cond.selects y.cls y y ∈ TB := by
  have h := List.mem_of_getElem? e
  exact List.mem_filter.mpr ⟨List.mem_append_left _ (List.mem_map.mpr ⟨(y, n), (show (y, n) ∈ lw_privs_1 ++ (lw_privs_2 ++ (lw_privs_3 ++ (lw_privs_4))) from List.mem_append_right _ (List.mem_append_right _ (List.mem_append_left _ h))), rfl⟩), rfl⟩
set_option maxRecDepth 10000 in
theorem tbp4 {y : MethodName} {n : Nat} (i : Nat) (e : lw_privs_4[i]? = some (y, n)) : Cond.selects y.cls y y ∈ TB := by
  have h := List.mem_of_getElem? e
  exact List.mem_filter.mpr ⟨List.mem_append_left _ (List.mem_map.mpr ⟨(y, n), (show (y, n) ∈ lw_privs_1 ++ (lw_privs_2 ++ (lw_privs_3 ++ (lw_privs_4))) from List.mem_append_right _ (List.mem_append_right _ (List.mem_append_right _ (h)))), rfl⟩), rfl⟩
set_option maxRecDepth 10000 in
theorem uwk_X0_0 : u_lay RX0 TX0 0 ∈ TB := (tbt1 105 rfl rfl)
set_option maxRecDepth 10000 in
theorem uwk_X0_1 : u_lay RX0 TX0 1 ∈ TB := (tbt1 107 rfl rfl)
set_option maxRecDepth 10000 in
theorem uw_X0 : ∀ w ∈ u_ws RX0 TX0 2, w ∈ TB := by
  intro w hw
  obtain ⟨k, hk, rfl⟩ := List.mem_map.mp hw
  have hk := List.mem_range.mp hk
  match k, hk with
  | 0, _ => exact uwk_X0_0
  | 1, _ => exact uwk_X0_1
  | k + 2, h => exact absurd h (by omega)
set_option maxRecDepth 10000 in
theorem uwk_X1_0 : u_lay RX1 TX1 0 ∈ TB := (tbt1 148 rfl rfl)
set_option maxRecDepth 10000 in
theorem uwk_X1_1 : u_lay RX1 TX1 1 ∈ TB := (tbt1 150 rfl rfl)
set_option maxRecDepth 10000 in
theorem uwk_X1_2 : u_lay RX1 TX1 2 ∈ TB := (tbt1 152 rfl rfl)
set_option maxRecDepth 10000 in
theorem uw_X1 : ∀ w ∈ u_ws RX1 TX1 3, w ∈ TB := by
  intro w hw
  obtain ⟨k, hk, rfl⟩ := List.mem_map.mp hw
  have hk := List.mem_range.mp hk
  match k, hk with
  | 0, _ => exact uwk_X1_0
  | 1, _ => exact uwk_X1_1
  | 2, _ => exact uwk_X1_2
  | k + 3, h => exact absurd h (by omega)
set_option maxRecDepth 10000 in
theorem uwk_X2_0 : u_lay RX2 TX2 0 ∈ TB := (tbt1 178 rfl rfl)
set_option maxRecDepth 10000 in
theorem uwk_X2_1 : u_lay RX2 TX2 1 ∈ TB := (tbt1 180 rfl rfl)
set_option maxRecDepth 10000 in
theorem uwk_X2_2 : u_lay RX2 TX2 2 ∈ TB := (tbt1 182 rfl rfl)
set_option maxRecDepth 10000 in
theorem uwk_X2_3 : u_lay RX2 TX2 3 ∈ TB := (tbt1 184 rfl rfl)
set_option maxRecDepth 10000 in
theorem uwk_X2_4 : u_lay RX2 TX2 4 ∈ TB := (tbt1 186 rfl rfl)
set_option maxRecDepth 10000 in
theorem uwk_X2_5 : u_lay RX2 TX2 5 ∈ TB := (tbt1 188 rfl rfl)
set_option maxRecDepth 10000 in
theorem uwk_X2_6 : u_lay RX2 TX2 6 ∈ TB := (tbt1 190 rfl rfl)
set_option maxRecDepth 10000 in
theorem uwk_X2_7 : u_lay RX2 TX2 7 ∈ TB := (tbt1 192 rfl rfl)
set_option maxRecDepth 10000 in
theorem uwk_X2_8 : u_lay RX2 TX2 8 ∈ TB := (tbt1 194 rfl rfl)
set_option maxRecDepth 10000 in
theorem uwk_X2_9 : u_lay RX2 TX2 9 ∈ TB := (tbt1 196 rfl rfl)
set_option maxRecDepth 10000 in
theorem uw_X2 : ∀ w ∈ u_ws RX2 TX2 10, w ∈ TB := by
  intro w hw
  obtain ⟨k, hk, rfl⟩ := List.mem_map.mp hw
  have hk := List.mem_range.mp hk
  match k, hk with
  | 0, _ => exact uwk_X2_0
  | 1, _ => exact uwk_X2_1
  | 2, _ => exact uwk_X2_2
  | 3, _ => exact uwk_X2_3
  | 4, _ => exact uwk_X2_4
  | 5, _ => exact uwk_X2_5
  | 6, _ => exact uwk_X2_6
  | 7, _ => exact uwk_X2_7
  | 8, _ => exact uwk_X2_8
  | 9, _ => exact uwk_X2_9
  | k + 10, h => exact absurd h (by omega)
set_option maxRecDepth 10000 in
theorem uwk_X4_0 : u_lay RX4 TX4 0 ∈ TB := (tbt1 72 rfl rfl)
set_option maxRecDepth 10000 in
theorem uwk_X4_1 : u_lay RX4 TX4 1 ∈ TB := (tbt1 74 rfl rfl)
set_option maxRecDepth 10000 in
theorem uwk_X4_2 : u_lay RX4 TX4 2 ∈ TB := (tbt1 76 rfl rfl)
set_option maxRecDepth 10000 in
theorem uwk_X4_3 : u_lay RX4 TX4 3 ∈ TB := (tbt1 78 rfl rfl)
set_option maxRecDepth 10000 in
theorem uwk_X4_4 : u_lay RX4 TX4 4 ∈ TB := (tbt1 80 rfl rfl)
set_option maxRecDepth 10000 in
theorem uwk_X4_5 : u_lay RX4 TX4 5 ∈ TB := (tbt1 82 rfl rfl)
set_option maxRecDepth 10000 in
theorem uwk_X4_6 : u_lay RX4 TX4 6 ∈ TB := (tbt1 84 rfl rfl)
set_option maxRecDepth 10000 in
theorem uwk_X4_7 : u_lay RX4 TX4 7 ∈ TB := (tbt1 86 rfl rfl)
set_option maxRecDepth 10000 in
theorem uwk_X4_8 : u_lay RX4 TX4 8 ∈ TB := (tbt1 88 rfl rfl)
set_option maxRecDepth 10000 in
theorem uwk_X4_9 : u_lay RX4 TX4 9 ∈ TB := (tbt1 90 rfl rfl)
set_option maxRecDepth 10000 in
theorem uwk_X4_10 : u_lay RX4 TX4 10 ∈ TB := (tbt1 92 rfl rfl)
set_option maxRecDepth 10000 in
theorem uwk_X4_11 : u_lay RX4 TX4 11 ∈ TB := (tbt1 94 rfl rfl)
set_option maxRecDepth 10000 in
theorem uw_X4 : ∀ w ∈ u_ws RX4 TX4 12, w ∈ TB := by
  intro w hw
  obtain ⟨k, hk, rfl⟩ := List.mem_map.mp hw
  have hk := List.mem_range.mp hk
  match k, hk with
  | 0, _ => exact uwk_X4_0
  | 1, _ => exact uwk_X4_1
  | 2, _ => exact uwk_X4_2
  | 3, _ => exact uwk_X4_3
  | 4, _ => exact uwk_X4_4
  | 5, _ => exact uwk_X4_5
  | 6, _ => exact uwk_X4_6
  | 7, _ => exact uwk_X4_7
  | 8, _ => exact uwk_X4_8
  | 9, _ => exact uwk_X4_9
  | 10, _ => exact uwk_X4_10
  | 11, _ => exact uwk_X4_11
  | k + 12, h => exact absurd h (by omega)
set_option maxRecDepth 10000 in
theorem uwk_X6_0 : u_lay RX6 TX6 0 ∈ TB := (tbt1 212 rfl rfl)
set_option maxRecDepth 10000 in
theorem uwk_X6_1 : u_lay RX6 TX6 1 ∈ TB := (tbt1 214 rfl rfl)
set_option maxRecDepth 10000 in
theorem uwk_X6_2 : u_lay RX6 TX6 2 ∈ TB := (tbt1 216 rfl rfl)
set_option maxRecDepth 10000 in
theorem uwk_X6_3 : u_lay RX6 TX6 3 ∈ TB := (tbt1 218 rfl rfl)
set_option maxRecDepth 10000 in
theorem uwk_X6_4 : u_lay RX6 TX6 4 ∈ TB := (tbt1 220 rfl rfl)
set_option maxRecDepth 10000 in
theorem uwk_X6_5 : u_lay RX6 TX6 5 ∈ TB := (tbt1 222 rfl rfl)
set_option maxRecDepth 10000 in
theorem uwk_X6_6 : u_lay RX6 TX6 6 ∈ TB := (tbt1 224 rfl rfl)
set_option maxRecDepth 10000 in
theorem uwk_X6_7 : u_lay RX6 TX6 7 ∈ TB := (tbt1 226 rfl rfl)
set_option maxRecDepth 10000 in
theorem uwk_X6_8 : u_lay RX6 TX6 8 ∈ TB := (tbt1 228 rfl rfl)
set_option maxRecDepth 10000 in
theorem uwk_X6_9 : u_lay RX6 TX6 9 ∈ TB := (tbt1 230 rfl rfl)
set_option maxRecDepth 10000 in
theorem uwk_X6_10 : u_lay RX6 TX6 10 ∈ TB := (tbt1 232 rfl rfl)
set_option maxRecDepth 10000 in
theorem uwk_X6_11 : u_lay RX6 TX6 11 ∈ TB := (tbt1 234 rfl rfl)
set_option maxRecDepth 10000 in
theorem uw_X6 : ∀ w ∈ u_ws RX6 TX6 12, w ∈ TB := by
  intro w hw
  obtain ⟨k, hk, rfl⟩ := List.mem_map.mp hw
  have hk := List.mem_range.mp hk
  match k, hk with
  | 0, _ => exact uwk_X6_0
  | 1, _ => exact uwk_X6_1
  | 2, _ => exact uwk_X6_2
  | 3, _ => exact uwk_X6_3
  | 4, _ => exact uwk_X6_4
  | 5, _ => exact uwk_X6_5
  | 6, _ => exact uwk_X6_6
  | 7, _ => exact uwk_X6_7
  | 8, _ => exact uwk_X6_8
  | 9, _ => exact uwk_X6_9
  | 10, _ => exact uwk_X6_10
  | 11, _ => exact uwk_X6_11
  | k + 12, h => exact absurd h (by omega)
set_option maxRecDepth 10000 in
theorem uwk_X7_0 : u_lay RX7 TX7 0 ∈ TB := (tbt1 41 rfl rfl)
set_option maxRecDepth 10000 in
theorem uwk_X7_1 : u_lay RX7 TX7 1 ∈ TB := (tbt1 43 rfl rfl)
set_option maxRecDepth 10000 in
theorem uwk_X7_2 : u_lay RX7 TX7 2 ∈ TB := (tbt1 45 rfl rfl)
set_option maxRecDepth 10000 in
theorem uwk_X7_3 : u_lay RX7 TX7 3 ∈ TB := (tbt1 47 rfl rfl)
set_option maxRecDepth 10000 in
theorem uwk_X7_4 : u_lay RX7 TX7 4 ∈ TB := (tbt1 49 rfl rfl)
set_option maxRecDepth 10000 in
theorem uw_X7 : ∀ w ∈ u_ws RX7 TX7 5, w ∈ TB := by
  intro w hw
  obtain ⟨k, hk, rfl⟩ := List.mem_map.mp hw
  have hk := List.mem_range.mp hk
  match k, hk with
  | 0, _ => exact uwk_X7_0
  | 1, _ => exact uwk_X7_1
  | 2, _ => exact uwk_X7_2
  | 3, _ => exact uwk_X7_3
  | 4, _ => exact uwk_X7_4
  | k + 5, h => exact absurd h (by omega)
set_option maxRecDepth 10000 in
theorem uwk_X8_0 : u_lay RX8 TX8 0 ∈ TB := (tbt1 124 rfl rfl)
set_option maxRecDepth 10000 in
theorem uwk_X8_1 : u_lay RX8 TX8 1 ∈ TB := (tbt1 126 rfl rfl)
set_option maxRecDepth 10000 in
theorem uwk_X8_2 : u_lay RX8 TX8 2 ∈ TB := (tbt1 128 rfl rfl)
set_option maxRecDepth 10000 in
theorem uwk_X8_3 : u_lay RX8 TX8 3 ∈ TB := (tbt1 130 rfl rfl)
set_option maxRecDepth 10000 in
theorem uwk_X8_4 : u_lay RX8 TX8 4 ∈ TB := (tbt1 132 rfl rfl)
set_option maxRecDepth 10000 in
theorem uwk_X8_5 : u_lay RX8 TX8 5 ∈ TB := (tbt1 134 rfl rfl)
set_option maxRecDepth 10000 in
theorem uw_X8 : ∀ w ∈ u_ws RX8 TX8 6, w ∈ TB := by
  intro w hw
  obtain ⟨k, hk, rfl⟩ := List.mem_map.mp hw
  have hk := List.mem_range.mp hk
  match k, hk with
  | 0, _ => exact uwk_X8_0
  | 1, _ => exact uwk_X8_1
  | 2, _ => exact uwk_X8_2
  | 3, _ => exact uwk_X8_3
  | 4, _ => exact uwk_X8_4
  | 5, _ => exact uwk_X8_5
  | k + 6, h => exact absurd h (by omega)
set_option maxRecDepth 10000 in
theorem uwk_X9_0 : u_lay RX9 TX9 0 ∈ TB := (tbt2 112 rfl rfl)
set_option maxRecDepth 10000 in
theorem uwk_X9_1 : u_lay RX9 TX9 1 ∈ TB := (tbt2 114 rfl rfl)
set_option maxRecDepth 10000 in
theorem uwk_X9_2 : u_lay RX9 TX9 2 ∈ TB := (tbt2 116 rfl rfl)
set_option maxRecDepth 10000 in
theorem uwk_X9_3 : u_lay RX9 TX9 3 ∈ TB := (tbt2 118 rfl rfl)
set_option maxRecDepth 10000 in
theorem uwk_X9_4 : u_lay RX9 TX9 4 ∈ TB := (tbt2 120 rfl rfl)
set_option maxRecDepth 10000 in
theorem uwk_X9_5 : u_lay RX9 TX9 5 ∈ TB := (tbt2 122 rfl rfl)
set_option maxRecDepth 10000 in
theorem uwk_X9_6 : u_lay RX9 TX9 6 ∈ TB := (tbt2 124 rfl rfl)
set_option maxRecDepth 10000 in
theorem uw_X9 : ∀ w ∈ u_ws RX9 TX9 7, w ∈ TB := by
  intro w hw
  obtain ⟨k, hk, rfl⟩ := List.mem_map.mp hw
  have hk := List.mem_range.mp hk
  match k, hk with
  | 0, _ => exact uwk_X9_0
  | 1, _ => exact uwk_X9_1
  | 2, _ => exact uwk_X9_2
  | 3, _ => exact uwk_X9_3
  | 4, _ => exact uwk_X9_4
  | 5, _ => exact uwk_X9_5
  | 6, _ => exact uwk_X9_6
  | k + 7, h => exact absurd h (by omega)
set_option maxRecDepth 10000 in
theorem uwk_X10_0 : u_lay RX10 TX10 0 ∈ TB := (tbt4 204 rfl rfl)
set_option maxRecDepth 10000 in
theorem uwk_X10_1 : u_lay RX10 TX10 1 ∈ TB := (tbt4 206 rfl rfl)
set_option maxRecDepth 10000 in
theorem uwk_X10_2 : u_lay RX10 TX10 2 ∈ TB := (tbt4 208 rfl rfl)
set_option maxRecDepth 10000 in
theorem uwk_X10_3 : u_lay RX10 TX10 3 ∈ TB := (tbt4 210 rfl rfl)
set_option maxRecDepth 10000 in
theorem uwk_X10_4 : u_lay RX10 TX10 4 ∈ TB := (tbt4 212 rfl rfl)
set_option maxRecDepth 10000 in
theorem uwk_X10_5 : u_lay RX10 TX10 5 ∈ TB := (tbt4 214 rfl rfl)
set_option maxRecDepth 10000 in
theorem uwk_X10_6 : u_lay RX10 TX10 6 ∈ TB := (tbt4 216 rfl rfl)
set_option maxRecDepth 10000 in
theorem uwk_X10_7 : u_lay RX10 TX10 7 ∈ TB := (tbt4 218 rfl rfl)
set_option maxRecDepth 10000 in
theorem uwk_X10_8 : u_lay RX10 TX10 8 ∈ TB := (tbt4 220 rfl rfl)
set_option maxRecDepth 10000 in
theorem uwk_X10_9 : u_lay RX10 TX10 9 ∈ TB := (tbt4 222 rfl rfl)
set_option maxRecDepth 10000 in
theorem uwk_X10_10 : u_lay RX10 TX10 10 ∈ TB := (tbt4 224 rfl rfl)
set_option maxRecDepth 10000 in
theorem uwk_X10_11 : u_lay RX10 TX10 11 ∈ TB := (tbt4 226 rfl rfl)
set_option maxRecDepth 10000 in
theorem uwk_X10_12 : u_lay RX10 TX10 12 ∈ TB := (tbt4 228 rfl rfl)
set_option maxRecDepth 10000 in
theorem uwk_X10_13 : u_lay RX10 TX10 13 ∈ TB := (tbt4 230 rfl rfl)
set_option maxRecDepth 10000 in
theorem uwk_X10_14 : u_lay RX10 TX10 14 ∈ TB := (tbt4 232 rfl rfl)
set_option maxRecDepth 10000 in
theorem uwk_X10_15 : u_lay RX10 TX10 15 ∈ TB := (tbt4 234 rfl rfl)
set_option maxRecDepth 10000 in
theorem uwk_X10_16 : u_lay RX10 TX10 16 ∈ TB := (tbt4 236 rfl rfl)
set_option maxRecDepth 10000 in
theorem uwk_X10_17 : u_lay RX10 TX10 17 ∈ TB := (tbt4 238 rfl rfl)
set_option maxRecDepth 10000 in
theorem uwk_X10_18 : u_lay RX10 TX10 18 ∈ TB := (tbt5 0 rfl rfl)
set_option maxRecDepth 10000 in
theorem uwk_X10_19 : u_lay RX10 TX10 19 ∈ TB := (tbt5 2 rfl rfl)
set_option maxRecDepth 10000 in
theorem uwk_X10_20 : u_lay RX10 TX10 20 ∈ TB := (tbt5 4 rfl rfl)
set_option maxRecDepth 10000 in
theorem uwk_X10_21 : u_lay RX10 TX10 21 ∈ TB := (tbt5 6 rfl rfl)
set_option maxRecDepth 10000 in
theorem uwk_X10_22 : u_lay RX10 TX10 22 ∈ TB := (tbt5 8 rfl rfl)
set_option maxRecDepth 10000 in
theorem uwk_X10_23 : u_lay RX10 TX10 23 ∈ TB := (tbt5 10 rfl rfl)
set_option maxRecDepth 10000 in
theorem uwk_X10_24 : u_lay RX10 TX10 24 ∈ TB := (tbt5 12 rfl rfl)
set_option maxRecDepth 10000 in
theorem uwk_X10_25 : u_lay RX10 TX10 25 ∈ TB := (tbt5 14 rfl rfl)
set_option maxRecDepth 10000 in
theorem uwk_X10_26 : u_lay RX10 TX10 26 ∈ TB := (tbt5 16 rfl rfl)
set_option maxRecDepth 10000 in
theorem uwk_X10_27 : u_lay RX10 TX10 27 ∈ TB := (tbt5 18 rfl rfl)
set_option maxRecDepth 10000 in
theorem uwk_X10_28 : u_lay RX10 TX10 28 ∈ TB := (tbt5 20 rfl rfl)
set_option maxRecDepth 10000 in
theorem uwk_X10_29 : u_lay RX10 TX10 29 ∈ TB := (tbt5 22 rfl rfl)
set_option maxRecDepth 10000 in
theorem uwk_X10_30 : u_lay RX10 TX10 30 ∈ TB := (tbt5 24 rfl rfl)
set_option maxRecDepth 10000 in
theorem uwk_X10_31 : u_lay RX10 TX10 31 ∈ TB := (tbt5 26 rfl rfl)
set_option maxRecDepth 10000 in
theorem uwk_X10_32 : u_lay RX10 TX10 32 ∈ TB := (tbt5 28 rfl rfl)
set_option maxRecDepth 10000 in
theorem uwk_X10_33 : u_lay RX10 TX10 33 ∈ TB := (tbt5 30 rfl rfl)
set_option maxRecDepth 10000 in
theorem uwk_X10_34 : u_lay RX10 TX10 34 ∈ TB := (tbt5 32 rfl rfl)
set_option maxRecDepth 10000 in
theorem uw_X10 : ∀ w ∈ u_ws RX10 TX10 35, w ∈ TB := by
  intro w hw
  obtain ⟨k, hk, rfl⟩ := List.mem_map.mp hw
  have hk := List.mem_range.mp hk
  match k, hk with
  | 0, _ => exact uwk_X10_0
  | 1, _ => exact uwk_X10_1
  | 2, _ => exact uwk_X10_2
  | 3, _ => exact uwk_X10_3
  | 4, _ => exact uwk_X10_4
  | 5, _ => exact uwk_X10_5
  | 6, _ => exact uwk_X10_6
  | 7, _ => exact uwk_X10_7
  | 8, _ => exact uwk_X10_8
  | 9, _ => exact uwk_X10_9
  | 10, _ => exact uwk_X10_10
  | 11, _ => exact uwk_X10_11
  | 12, _ => exact uwk_X10_12
  | 13, _ => exact uwk_X10_13
  | 14, _ => exact uwk_X10_14
  | 15, _ => exact uwk_X10_15
  | 16, _ => exact uwk_X10_16
  | 17, _ => exact uwk_X10_17
  | 18, _ => exact uwk_X10_18
  | 19, _ => exact uwk_X10_19
  | 20, _ => exact uwk_X10_20
  | 21, _ => exact uwk_X10_21
  | 22, _ => exact uwk_X10_22
  | 23, _ => exact uwk_X10_23
  | 24, _ => exact uwk_X10_24
  | 25, _ => exact uwk_X10_25
  | 26, _ => exact uwk_X10_26
  | 27, _ => exact uwk_X10_27
  | 28, _ => exact uwk_X10_28
  | 29, _ => exact uwk_X10_29
  | 30, _ => exact uwk_X10_30
  | 31, _ => exact uwk_X10_31
  | 32, _ => exact uwk_X10_32
  | 33, _ => exact uwk_X10_33
  | 34, _ => exact uwk_X10_34
  | k + 35, h => exact absurd h (by omega)
set_option maxRecDepth 10000 in
theorem fl_X7_9 : FL RX7 9 RX7 TX7 5 0 := ⟨by decide, uw_X7, Or.inl (tbt1 28 rfl rfl)⟩
set_option maxRecDepth 10000 in
theorem ff_X7_9 : FF RX7 9 5 0 := ⟨RX7, TX7, 5, rfl, fl_X7_9⟩
set_option maxRecDepth 10000 in
theorem fp_X7_9 : FP RX7 9 5 0 (.array .int) true := ⟨RX7, TX7, 5, tyX7, rfl, fl_X7_9, tyX7_ok, nmX7, rfl, by decide +kernel, fun _ => rfl⟩
set_option maxRecDepth 10000 in
theorem fl_X7_15 : FL RX7 15 RX7 TX7 5 1 := ⟨by decide, uw_X7, Or.inl (tbt1 29 rfl rfl)⟩
set_option maxRecDepth 10000 in
theorem ff_X7_15 : FF RX7 15 5 1 := ⟨RX7, TX7, 5, rfl, fl_X7_15⟩
set_option maxRecDepth 10000 in
theorem fp_X7_15 : FP RX7 15 5 1 (.array .int) true := ⟨RX7, TX7, 5, tyX7, rfl, fl_X7_15, tyX7_ok, nmX7, rfl, by decide +kernel, fun _ => rfl⟩
set_option maxRecDepth 10000 in
theorem fl_X7_18 : FL RX7 18 RX7 TX7 5 2 := ⟨by decide, uw_X7, Or.inl (tbt1 30 rfl rfl)⟩
set_option maxRecDepth 10000 in
theorem ff_X7_18 : FF RX7 18 5 2 := ⟨RX7, TX7, 5, rfl, fl_X7_18⟩
set_option maxRecDepth 10000 in
theorem fp_X7_18 : FP RX7 18 5 2 (.array .int) true := ⟨RX7, TX7, 5, tyX7, rfl, fl_X7_18, tyX7_ok, nmX7, rfl, by decide +kernel, fun _ => rfl⟩
set_option maxRecDepth 10000 in
theorem fl_X7_21 : FL RX7 21 RX7 TX7 5 3 := ⟨by decide, uw_X7, Or.inl (tbt1 31 rfl rfl)⟩
set_option maxRecDepth 10000 in
theorem ff_X7_21 : FF RX7 21 5 3 := ⟨RX7, TX7, 5, rfl, fl_X7_21⟩
set_option maxRecDepth 10000 in
theorem fp_X7_21 : FP RX7 21 5 3 (.int) false := ⟨RX7, TX7, 5, tyX7, rfl, fl_X7_21, tyX7_ok, nmX7, rfl, by decide +kernel, fun h => absurd h (by decide)⟩
set_option maxRecDepth 10000 in
theorem fl_X9_65 : FL RX9 65 RX7 TX7 5 3 := ⟨by decide, uw_X7, Or.inr ⟨"OneSnip", (List.mem_of_getElem? (i := 1) rfl)⟩⟩
set_option maxRecDepth 10000 in
theorem ff_X9_65 : FF RX9 65 5 3 := ⟨RX7, TX7, 5, rfl, fl_X9_65⟩
set_option maxRecDepth 10000 in
theorem fp_X9_65 : FP RX9 65 5 3 (.int) false := ⟨RX7, TX7, 5, tyX7, rfl, fl_X9_65, tyX7_ok, nmX7, rfl, by decide +kernel, fun h => absurd h (by decide)⟩
set_option maxRecDepth 10000 in
theorem fl_X2_59 : FL RX2 59 RX7 TX7 5 3 := ⟨by decide, uw_X7, Or.inr ⟨"OneSnip", (List.mem_of_getElem? (i := 2) rfl)⟩⟩
set_option maxRecDepth 10000 in
theorem ff_X2_59 : FF RX2 59 5 3 := ⟨RX7, TX7, 5, rfl, fl_X2_59⟩
set_option maxRecDepth 10000 in
theorem fp_X2_59 : FP RX2 59 5 3 (.int) false := ⟨RX7, TX7, 5, tyX7, rfl, fl_X2_59, tyX7_ok, nmX7, rfl, by decide +kernel, fun h => absurd h (by decide)⟩
set_option maxRecDepth 10000 in
theorem fl_X2_42 : FL RX2 42 RX7 TX7 5 4 := ⟨by decide, uw_X7, Or.inr ⟨"OneSnip", (List.mem_of_getElem? (i := 3) rfl)⟩⟩
set_option maxRecDepth 10000 in
theorem ff_X2_42 : FF RX2 42 5 4 := ⟨RX7, TX7, 5, rfl, fl_X2_42⟩
set_option maxRecDepth 10000 in
theorem fp_X2_42 : FP RX2 42 5 4 (.int) false := ⟨RX7, TX7, 5, tyX7, rfl, fl_X2_42, tyX7_ok, nmX7, rfl, by decide +kernel, fun h => absurd h (by decide)⟩
set_option maxRecDepth 10000 in
theorem fl_X7_25 : FL RX7 25 RX7 TX7 5 4 := ⟨by decide, uw_X7, Or.inl (tbt1 35 rfl rfl)⟩
set_option maxRecDepth 10000 in
theorem ff_X7_25 : FF RX7 25 5 4 := ⟨RX7, TX7, 5, rfl, fl_X7_25⟩
set_option maxRecDepth 10000 in
theorem fp_X7_25 : FP RX7 25 5 4 (.int) false := ⟨RX7, TX7, 5, tyX7, rfl, fl_X7_25, tyX7_ok, nmX7, rfl, by decide +kernel, fun h => absurd h (by decide)⟩
set_option maxRecDepth 10000 in
theorem fl_X0_36 : FL RX0 36 RX7 TX7 5 4 := ⟨by decide, uw_X7, Or.inr ⟨"OneSnip", (List.mem_of_getElem? (i := 4) rfl)⟩⟩
set_option maxRecDepth 10000 in
theorem ff_X0_36 : FF RX0 36 5 4 := ⟨RX7, TX7, 5, rfl, fl_X0_36⟩
set_option maxRecDepth 10000 in
theorem fp_X0_36 : FP RX0 36 5 4 (.int) false := ⟨RX7, TX7, 5, tyX7, rfl, fl_X0_36, tyX7_ok, nmX7, rfl, by decide +kernel, fun h => absurd h (by decide)⟩
set_option maxRecDepth 10000 in
theorem fl_X8_42 : FL RX8 42 RX7 TX7 5 4 := ⟨by decide, uw_X7, Or.inr ⟨"OneSnip", (List.mem_of_getElem? (i := 5) rfl)⟩⟩
set_option maxRecDepth 10000 in
theorem ff_X8_42 : FF RX8 42 5 4 := ⟨RX7, TX7, 5, rfl, fl_X8_42⟩
set_option maxRecDepth 10000 in
theorem fp_X8_42 : FP RX8 42 5 4 (.int) false := ⟨RX7, TX7, 5, tyX7, rfl, fl_X8_42, tyX7_ok, nmX7, rfl, by decide +kernel, fun h => absurd h (by decide)⟩
set_option maxRecDepth 10000 in
theorem fl_X4_73 : FL RX4 73 RX7 TX7 5 4 := ⟨by decide, uw_X7, Or.inr ⟨"OneSnip", (List.mem_of_getElem? (i := 6) rfl)⟩⟩
set_option maxRecDepth 10000 in
theorem ff_X4_73 : FF RX4 73 5 4 := ⟨RX7, TX7, 5, rfl, fl_X4_73⟩
set_option maxRecDepth 10000 in
theorem fp_X4_73 : FP RX4 73 5 4 (.int) false := ⟨RX7, TX7, 5, tyX7, rfl, fl_X4_73, tyX7_ok, nmX7, rfl, by decide +kernel, fun h => absurd h (by decide)⟩
set_option maxRecDepth 10000 in
theorem fl_X1_41 : FL RX1 41 RX7 TX7 5 4 := ⟨by decide, uw_X7, Or.inr ⟨"OneSnip", (List.mem_of_getElem? (i := 7) rfl)⟩⟩
set_option maxRecDepth 10000 in
theorem ff_X1_41 : FF RX1 41 5 4 := ⟨RX7, TX7, 5, rfl, fl_X1_41⟩
set_option maxRecDepth 10000 in
theorem fp_X1_41 : FP RX1 41 5 4 (.int) false := ⟨RX7, TX7, 5, tyX7, rfl, fl_X1_41, tyX7_ok, nmX7, rfl, by decide +kernel, fun h => absurd h (by decide)⟩
set_option maxRecDepth 10000 in
theorem fl_X9_205 : FL RX9 205 RX7 TX7 5 4 := ⟨by decide, uw_X7, Or.inr ⟨"OneSnip", (List.mem_of_getElem? (i := 8) rfl)⟩⟩
set_option maxRecDepth 10000 in
theorem ff_X9_205 : FF RX9 205 5 4 := ⟨RX7, TX7, 5, rfl, fl_X9_205⟩
set_option maxRecDepth 10000 in
theorem fp_X9_205 : FP RX9 205 5 4 (.int) false := ⟨RX7, TX7, 5, tyX7, rfl, fl_X9_205, tyX7_ok, nmX7, rfl, by decide +kernel, fun h => absurd h (by decide)⟩
set_option maxRecDepth 10000 in
theorem fl_X4_44 : FL RX4 44 RX4 TX4 12 0 := ⟨by decide, uw_X4, Or.inl (tbt1 59 rfl rfl)⟩
set_option maxRecDepth 10000 in
theorem ff_X4_44 : FF RX4 44 3 0 := ⟨RX4, TX4, 12, rfl, fl_X4_44⟩
set_option maxRecDepth 10000 in
theorem fp_X4_44 : FP RX4 44 3 0 (.object "OneSnip$Sheet") true := ⟨RX4, TX4, 12, tyX4, rfl, fl_X4_44, tyX4_ok, nmX4, rfl, by decide +kernel, fun _ => rfl⟩
set_option maxRecDepth 10000 in
theorem fl_X4_9 : FL RX4 9 RX4 TX4 12 1 := ⟨by decide, uw_X4, Or.inl (tbt1 60 rfl rfl)⟩
set_option maxRecDepth 10000 in
theorem ff_X4_9 : FF RX4 9 3 1 := ⟨RX4, TX4, 12, rfl, fl_X4_9⟩
set_option maxRecDepth 10000 in
theorem fp_X4_9 : FP RX4 9 3 1 (.array .int) true := ⟨RX4, TX4, 12, tyX4, rfl, fl_X4_9, tyX4_ok, nmX4, rfl, by decide +kernel, fun _ => rfl⟩
set_option maxRecDepth 10000 in
theorem fl_X4_15 : FL RX4 15 RX4 TX4 12 2 := ⟨by decide, uw_X4, Or.inl (tbt1 61 rfl rfl)⟩
set_option maxRecDepth 10000 in
theorem ff_X4_15 : FF RX4 15 3 2 := ⟨RX4, TX4, 12, rfl, fl_X4_15⟩
set_option maxRecDepth 10000 in
theorem fp_X4_15 : FP RX4 15 3 2 (.array .int) true := ⟨RX4, TX4, 12, tyX4, rfl, fl_X4_15, tyX4_ok, nmX4, rfl, by decide +kernel, fun _ => rfl⟩
set_option maxRecDepth 10000 in
theorem fl_X4_18 : FL RX4 18 RX4 TX4 12 3 := ⟨by decide, uw_X4, Or.inl (tbt1 62 rfl rfl)⟩
set_option maxRecDepth 10000 in
theorem ff_X4_18 : FF RX4 18 3 3 := ⟨RX4, TX4, 12, rfl, fl_X4_18⟩
set_option maxRecDepth 10000 in
theorem fp_X4_18 : FP RX4 18 3 3 (.array .int) true := ⟨RX4, TX4, 12, tyX4, rfl, fl_X4_18, tyX4_ok, nmX4, rfl, by decide +kernel, fun _ => rfl⟩
set_option maxRecDepth 10000 in
theorem fl_X4_21 : FL RX4 21 RX4 TX4 12 4 := ⟨by decide, uw_X4, Or.inl (tbt1 63 rfl rfl)⟩
set_option maxRecDepth 10000 in
theorem ff_X4_21 : FF RX4 21 3 4 := ⟨RX4, TX4, 12, rfl, fl_X4_21⟩
set_option maxRecDepth 10000 in
theorem fp_X4_21 : FP RX4 21 3 4 (.array .int) true := ⟨RX4, TX4, 12, tyX4, rfl, fl_X4_21, tyX4_ok, nmX4, rfl, by decide +kernel, fun _ => rfl⟩
set_option maxRecDepth 10000 in
theorem fl_X4_24 : FL RX4 24 RX4 TX4 12 5 := ⟨by decide, uw_X4, Or.inl (tbt1 64 rfl rfl)⟩
set_option maxRecDepth 10000 in
theorem ff_X4_24 : FF RX4 24 3 5 := ⟨RX4, TX4, 12, rfl, fl_X4_24⟩
set_option maxRecDepth 10000 in
theorem fp_X4_24 : FP RX4 24 3 5 (.array .int) true := ⟨RX4, TX4, 12, tyX4, rfl, fl_X4_24, tyX4_ok, nmX4, rfl, by decide +kernel, fun _ => rfl⟩
set_option maxRecDepth 10000 in
theorem fl_X4_29 : FL RX4 29 RX4 TX4 12 6 := ⟨by decide, uw_X4, Or.inl (tbt1 65 rfl rfl)⟩
set_option maxRecDepth 10000 in
theorem ff_X4_29 : FF RX4 29 3 6 := ⟨RX4, TX4, 12, rfl, fl_X4_29⟩
set_option maxRecDepth 10000 in
theorem fp_X4_29 : FP RX4 29 3 6 (.array .int) true := ⟨RX4, TX4, 12, tyX4, rfl, fl_X4_29, tyX4_ok, nmX4, rfl, by decide +kernel, fun _ => rfl⟩
set_option maxRecDepth 10000 in
theorem fl_X4_32 : FL RX4 32 RX4 TX4 12 7 := ⟨by decide, uw_X4, Or.inl (tbt1 66 rfl rfl)⟩
set_option maxRecDepth 10000 in
theorem ff_X4_32 : FF RX4 32 3 7 := ⟨RX4, TX4, 12, rfl, fl_X4_32⟩
set_option maxRecDepth 10000 in
theorem fp_X4_32 : FP RX4 32 3 7 (.array .int) true := ⟨RX4, TX4, 12, tyX4, rfl, fl_X4_32, tyX4_ok, nmX4, rfl, by decide +kernel, fun _ => rfl⟩
set_option maxRecDepth 10000 in
theorem fl_X4_35 : FL RX4 35 RX4 TX4 12 8 := ⟨by decide, uw_X4, Or.inl (tbt1 67 rfl rfl)⟩
set_option maxRecDepth 10000 in
theorem ff_X4_35 : FF RX4 35 3 8 := ⟨RX4, TX4, 12, rfl, fl_X4_35⟩
set_option maxRecDepth 10000 in
theorem fp_X4_35 : FP RX4 35 3 8 (.array .int) true := ⟨RX4, TX4, 12, tyX4, rfl, fl_X4_35, tyX4_ok, nmX4, rfl, by decide +kernel, fun _ => rfl⟩
set_option maxRecDepth 10000 in
theorem fl_X4_38 : FL RX4 38 RX4 TX4 12 9 := ⟨by decide, uw_X4, Or.inl (tbt1 68 rfl rfl)⟩
set_option maxRecDepth 10000 in
theorem ff_X4_38 : FF RX4 38 3 9 := ⟨RX4, TX4, 12, rfl, fl_X4_38⟩
set_option maxRecDepth 10000 in
theorem fp_X4_38 : FP RX4 38 3 9 (.array .int) true := ⟨RX4, TX4, 12, tyX4, rfl, fl_X4_38, tyX4_ok, nmX4, rfl, by decide +kernel, fun _ => rfl⟩
set_option maxRecDepth 10000 in
theorem fl_X4_41 : FL RX4 41 RX4 TX4 12 10 := ⟨by decide, uw_X4, Or.inl (tbt1 69 rfl rfl)⟩
set_option maxRecDepth 10000 in
theorem ff_X4_41 : FF RX4 41 3 10 := ⟨RX4, TX4, 12, rfl, fl_X4_41⟩
set_option maxRecDepth 10000 in
theorem fp_X4_41 : FP RX4 41 3 10 (.array .int) true := ⟨RX4, TX4, 12, tyX4, rfl, fl_X4_41, tyX4_ok, nmX4, rfl, by decide +kernel, fun _ => rfl⟩
set_option maxRecDepth 10000 in
theorem fl_X4_48 : FL RX4 48 RX4 TX4 12 11 := ⟨by decide, uw_X4, Or.inl (tbt1 70 rfl rfl)⟩
set_option maxRecDepth 10000 in
theorem ff_X4_48 : FF RX4 48 3 11 := ⟨RX4, TX4, 12, rfl, fl_X4_48⟩
set_option maxRecDepth 10000 in
theorem fp_X4_48 : FP RX4 48 3 11 (.int) false := ⟨RX4, TX4, 12, tyX4, rfl, fl_X4_48, tyX4_ok, nmX4, rfl, by decide +kernel, fun h => absurd h (by decide)⟩
set_option maxRecDepth 10000 in
theorem fl_X9_85 : FL RX9 85 RX4 TX4 12 11 := ⟨by decide, uw_X4, Or.inr ⟨"OneSnip", (List.mem_of_getElem? (i := 9) rfl)⟩⟩
set_option maxRecDepth 10000 in
theorem ff_X9_85 : FF RX9 85 3 11 := ⟨RX4, TX4, 12, rfl, fl_X9_85⟩
set_option maxRecDepth 10000 in
theorem fp_X9_85 : FP RX9 85 3 11 (.int) false := ⟨RX4, TX4, 12, tyX4, rfl, fl_X9_85, tyX4_ok, nmX4, rfl, by decide +kernel, fun h => absurd h (by decide)⟩
set_option maxRecDepth 10000 in
theorem fl_X0_9 : FL RX0 9 RX0 TX0 2 0 := ⟨by decide, uw_X0, Or.inl (tbt1 103 rfl rfl)⟩
set_option maxRecDepth 10000 in
theorem ff_X0_9 : FF RX0 9 0 0 := ⟨RX0, TX0, 2, rfl, fl_X0_9⟩
set_option maxRecDepth 10000 in
theorem fp_X0_9 : FP RX0 9 0 0 (.object "OneSnip$Sheet") true := ⟨RX0, TX0, 2, tyX0, rfl, fl_X0_9, tyX0_ok, nmX0, rfl, by decide +kernel, fun _ => rfl⟩
set_option maxRecDepth 10000 in
theorem fl_X0_15 : FL RX0 15 RX0 TX0 2 1 := ⟨by decide, uw_X0, Or.inl (tbt1 104 rfl rfl)⟩
set_option maxRecDepth 10000 in
theorem ff_X0_15 : FF RX0 15 0 1 := ⟨RX0, TX0, 2, rfl, fl_X0_15⟩
set_option maxRecDepth 10000 in
theorem fp_X0_15 : FP RX0 15 0 1 (.object "OneSnip$Pile") true := ⟨RX0, TX0, 2, tyX0, rfl, fl_X0_15, tyX0_ok, nmX0, rfl, by decide +kernel, fun _ => rfl⟩
set_option maxRecDepth 10000 in
theorem fl_X8_21 : FL RX8 21 RX8 TX8 6 0 := ⟨by decide, uw_X8, Or.inl (tbt1 116 rfl rfl)⟩
set_option maxRecDepth 10000 in
theorem ff_X8_21 : FF RX8 21 6 0 := ⟨RX8, TX8, 6, rfl, fl_X8_21⟩
set_option maxRecDepth 10000 in
theorem fp_X8_21 : FP RX8 21 6 0 (.object "OneSnip$Sheet") true := ⟨RX8, TX8, 6, tyX8, rfl, fl_X8_21, tyX8_ok, nmX8, rfl, by decide +kernel, fun _ => rfl⟩
set_option maxRecDepth 10000 in
theorem fl_X8_9 : FL RX8 9 RX8 TX8 6 1 := ⟨by decide, uw_X8, Or.inl (tbt1 117 rfl rfl)⟩
set_option maxRecDepth 10000 in
theorem ff_X8_9 : FF RX8 9 6 1 := ⟨RX8, TX8, 6, rfl, fl_X8_9⟩
set_option maxRecDepth 10000 in
theorem fp_X8_9 : FP RX8 9 6 1 (.array .int) true := ⟨RX8, TX8, 6, tyX8, rfl, fl_X8_9, tyX8_ok, nmX8, rfl, by decide +kernel, fun _ => rfl⟩
set_option maxRecDepth 10000 in
theorem fl_X8_15 : FL RX8 15 RX8 TX8 6 2 := ⟨by decide, uw_X8, Or.inl (tbt1 118 rfl rfl)⟩
set_option maxRecDepth 10000 in
theorem ff_X8_15 : FF RX8 15 6 2 := ⟨RX8, TX8, 6, rfl, fl_X8_15⟩
set_option maxRecDepth 10000 in
theorem fp_X8_15 : FP RX8 15 6 2 (.array .int) true := ⟨RX8, TX8, 6, tyX8, rfl, fl_X8_15, tyX8_ok, nmX8, rfl, by decide +kernel, fun _ => rfl⟩
set_option maxRecDepth 10000 in
theorem fl_X8_18 : FL RX8 18 RX8 TX8 6 3 := ⟨by decide, uw_X8, Or.inl (tbt1 119 rfl rfl)⟩
set_option maxRecDepth 10000 in
theorem ff_X8_18 : FF RX8 18 6 3 := ⟨RX8, TX8, 6, rfl, fl_X8_18⟩
set_option maxRecDepth 10000 in
theorem fp_X8_18 : FP RX8 18 6 3 (.array .int) true := ⟨RX8, TX8, 6, tyX8, rfl, fl_X8_18, tyX8_ok, nmX8, rfl, by decide +kernel, fun _ => rfl⟩
set_option maxRecDepth 10000 in
theorem fl_X8_25 : FL RX8 25 RX8 TX8 6 4 := ⟨by decide, uw_X8, Or.inl (tbt1 120 rfl rfl)⟩
set_option maxRecDepth 10000 in
theorem ff_X8_25 : FF RX8 25 6 4 := ⟨RX8, TX8, 6, rfl, fl_X8_25⟩
set_option maxRecDepth 10000 in
theorem fp_X8_25 : FP RX8 25 6 4 (.boolean) false := ⟨RX8, TX8, 6, tyX8, rfl, fl_X8_25, tyX8_ok, nmX8, rfl, by decide +kernel, fun h => absurd h (by decide)⟩
set_option maxRecDepth 10000 in
theorem fl_X9_78 : FL RX9 78 RX8 TX8 6 4 := ⟨by decide, uw_X8, Or.inr ⟨"OneSnip", (List.mem_of_getElem? (i := 10) rfl)⟩⟩
set_option maxRecDepth 10000 in
theorem ff_X9_78 : FF RX9 78 6 4 := ⟨RX8, TX8, 6, rfl, fl_X9_78⟩
set_option maxRecDepth 10000 in
theorem fp_X9_78 : FP RX9 78 6 4 (.boolean) false := ⟨RX8, TX8, 6, tyX8, rfl, fl_X9_78, tyX8_ok, nmX8, rfl, by decide +kernel, fun h => absurd h (by decide)⟩
set_option maxRecDepth 10000 in
theorem fl_X8_29 : FL RX8 29 RX8 TX8 6 5 := ⟨by decide, uw_X8, Or.inl (tbt1 122 rfl rfl)⟩
set_option maxRecDepth 10000 in
theorem ff_X8_29 : FF RX8 29 6 5 := ⟨RX8, TX8, 6, rfl, fl_X8_29⟩
set_option maxRecDepth 10000 in
theorem fp_X8_29 : FP RX8 29 6 5 (.int) false := ⟨RX8, TX8, 6, tyX8, rfl, fl_X8_29, tyX8_ok, nmX8, rfl, by decide +kernel, fun h => absurd h (by decide)⟩
set_option maxRecDepth 10000 in
theorem fl_X9_179 : FL RX9 179 RX8 TX8 6 5 := ⟨by decide, uw_X8, Or.inr ⟨"OneSnip", (List.mem_of_getElem? (i := 11) rfl)⟩⟩
set_option maxRecDepth 10000 in
theorem ff_X9_179 : FF RX9 179 6 5 := ⟨RX8, TX8, 6, rfl, fl_X9_179⟩
set_option maxRecDepth 10000 in
theorem fp_X9_179 : FP RX9 179 6 5 (.int) false := ⟨RX8, TX8, 6, tyX8, rfl, fl_X9_179, tyX8_ok, nmX8, rfl, by decide +kernel, fun h => absurd h (by decide)⟩
set_option maxRecDepth 10000 in
theorem fl_X1_15 : FL RX1 15 RX1 TX1 3 0 := ⟨by decide, uw_X1, Or.inl (tbt1 143 rfl rfl)⟩
set_option maxRecDepth 10000 in
theorem ff_X1_15 : FF RX1 15 1 0 := ⟨RX1, TX1, 3, rfl, fl_X1_15⟩
set_option maxRecDepth 10000 in
theorem fp_X1_15 : FP RX1 15 1 0 (.object "OneSnip$Sheet") true := ⟨RX1, TX1, 3, tyX1, rfl, fl_X1_15, tyX1_ok, nmX1, rfl, by decide +kernel, fun _ => rfl⟩
set_option maxRecDepth 10000 in
theorem fl_X1_9 : FL RX1 9 RX1 TX1 3 1 := ⟨by decide, uw_X1, Or.inl (tbt1 144 rfl rfl)⟩
set_option maxRecDepth 10000 in
theorem ff_X1_9 : FF RX1 9 1 1 := ⟨RX1, TX1, 3, rfl, fl_X1_9⟩
set_option maxRecDepth 10000 in
theorem fp_X1_9 : FP RX1 9 1 1 (.array .int) true := ⟨RX1, TX1, 3, tyX1, rfl, fl_X1_9, tyX1_ok, nmX1, rfl, by decide +kernel, fun _ => rfl⟩
set_option maxRecDepth 10000 in
theorem fl_X2_36 : FL RX2 36 RX1 TX1 3 2 := ⟨by decide, uw_X1, Or.inr ⟨"OneSnip", (List.mem_of_getElem? (i := 12) rfl)⟩⟩
set_option maxRecDepth 10000 in
theorem ff_X2_36 : FF RX2 36 1 2 := ⟨RX1, TX1, 3, rfl, fl_X2_36⟩
set_option maxRecDepth 10000 in
theorem fp_X2_36 : FP RX2 36 1 2 (.int) false := ⟨RX1, TX1, 3, tyX1, rfl, fl_X2_36, tyX1_ok, nmX1, rfl, by decide +kernel, fun h => absurd h (by decide)⟩
set_option maxRecDepth 10000 in
theorem fl_X1_25 : FL RX1 25 RX1 TX1 3 2 := ⟨by decide, uw_X1, Or.inl (tbt1 146 rfl rfl)⟩
set_option maxRecDepth 10000 in
theorem ff_X1_25 : FF RX1 25 1 2 := ⟨RX1, TX1, 3, rfl, fl_X1_25⟩
set_option maxRecDepth 10000 in
theorem fp_X1_25 : FP RX1 25 1 2 (.int) false := ⟨RX1, TX1, 3, tyX1, rfl, fl_X1_25, tyX1_ok, nmX1, rfl, by decide +kernel, fun h => absurd h (by decide)⟩
set_option maxRecDepth 10000 in
theorem fl_X9_203 : FL RX9 203 RX1 TX1 3 2 := ⟨by decide, uw_X1, Or.inr ⟨"OneSnip", (List.mem_of_getElem? (i := 13) rfl)⟩⟩
set_option maxRecDepth 10000 in
theorem ff_X9_203 : FF RX9 203 1 2 := ⟨RX1, TX1, 3, rfl, fl_X9_203⟩
set_option maxRecDepth 10000 in
theorem fp_X9_203 : FP RX9 203 1 2 (.int) false := ⟨RX1, TX1, 3, tyX1, rfl, fl_X9_203, tyX1_ok, nmX1, rfl, by decide +kernel, fun h => absurd h (by decide)⟩
set_option maxRecDepth 10000 in
theorem fl_X2_32 : FL RX2 32 RX2 TX2 10 0 := ⟨by decide, uw_X2, Or.inl (tbt1 167 rfl rfl)⟩
set_option maxRecDepth 10000 in
theorem ff_X2_32 : FF RX2 32 2 0 := ⟨RX2, TX2, 10, rfl, fl_X2_32⟩
set_option maxRecDepth 10000 in
theorem fp_X2_32 : FP RX2 32 2 0 (.object "OneSnip$Layout") true := ⟨RX2, TX2, 10, tyX2, rfl, fl_X2_32, tyX2_ok, nmX2, rfl, by decide +kernel, fun _ => rfl⟩
set_option maxRecDepth 10000 in
theorem fl_X6_77 : FL RX6 77 RX2 TX2 10 0 := ⟨by decide, uw_X2, Or.inr ⟨"OneSnip", (List.mem_of_getElem? (i := 14) rfl)⟩⟩
set_option maxRecDepth 10000 in
theorem ff_X6_77 : FF RX6 77 2 0 := ⟨RX2, TX2, 10, rfl, fl_X6_77⟩
set_option maxRecDepth 10000 in
theorem fl_X2_9 : FL RX2 9 RX2 TX2 10 1 := ⟨by decide, uw_X2, Or.inl (tbt1 169 rfl rfl)⟩
set_option maxRecDepth 10000 in
theorem ff_X2_9 : FF RX2 9 2 1 := ⟨RX2, TX2, 10, rfl, fl_X2_9⟩
set_option maxRecDepth 10000 in
theorem fp_X2_9 : FP RX2 9 2 1 (.array .int) true := ⟨RX2, TX2, 10, tyX2, rfl, fl_X2_9, tyX2_ok, nmX2, rfl, by decide +kernel, fun _ => rfl⟩
set_option maxRecDepth 10000 in
theorem fl_X2_15 : FL RX2 15 RX2 TX2 10 2 := ⟨by decide, uw_X2, Or.inl (tbt1 170 rfl rfl)⟩
set_option maxRecDepth 10000 in
theorem ff_X2_15 : FF RX2 15 2 2 := ⟨RX2, TX2, 10, rfl, fl_X2_15⟩
set_option maxRecDepth 10000 in
theorem fp_X2_15 : FP RX2 15 2 2 (.array .int) true := ⟨RX2, TX2, 10, tyX2, rfl, fl_X2_15, tyX2_ok, nmX2, rfl, by decide +kernel, fun _ => rfl⟩
set_option maxRecDepth 10000 in
theorem fl_X2_18 : FL RX2 18 RX2 TX2 10 3 := ⟨by decide, uw_X2, Or.inl (tbt1 171 rfl rfl)⟩
set_option maxRecDepth 10000 in
theorem ff_X2_18 : FF RX2 18 2 3 := ⟨RX2, TX2, 10, rfl, fl_X2_18⟩
set_option maxRecDepth 10000 in
theorem fp_X2_18 : FP RX2 18 2 3 (.array .int) true := ⟨RX2, TX2, 10, tyX2, rfl, fl_X2_18, tyX2_ok, nmX2, rfl, by decide +kernel, fun _ => rfl⟩
set_option maxRecDepth 10000 in
theorem fl_X2_23 : FL RX2 23 RX2 TX2 10 4 := ⟨by decide, uw_X2, Or.inl (tbt1 172 rfl rfl)⟩
set_option maxRecDepth 10000 in
theorem ff_X2_23 : FF RX2 23 2 4 := ⟨RX2, TX2, 10, rfl, fl_X2_23⟩
set_option maxRecDepth 10000 in
theorem fp_X2_23 : FP RX2 23 2 4 (.array .int) true := ⟨RX2, TX2, 10, tyX2, rfl, fl_X2_23, tyX2_ok, nmX2, rfl, by decide +kernel, fun _ => rfl⟩
set_option maxRecDepth 10000 in
theorem fl_X2_26 : FL RX2 26 RX2 TX2 10 5 := ⟨by decide, uw_X2, Or.inl (tbt1 173 rfl rfl)⟩
set_option maxRecDepth 10000 in
theorem ff_X2_26 : FF RX2 26 2 5 := ⟨RX2, TX2, 10, rfl, fl_X2_26⟩
set_option maxRecDepth 10000 in
theorem fp_X2_26 : FP RX2 26 2 5 (.array .int) true := ⟨RX2, TX2, 10, tyX2, rfl, fl_X2_26, tyX2_ok, nmX2, rfl, by decide +kernel, fun _ => rfl⟩
set_option maxRecDepth 10000 in
theorem fl_X2_29 : FL RX2 29 RX2 TX2 10 6 := ⟨by decide, uw_X2, Or.inl (tbt1 174 rfl rfl)⟩
set_option maxRecDepth 10000 in
theorem ff_X2_29 : FF RX2 29 2 6 := ⟨RX2, TX2, 10, rfl, fl_X2_29⟩
set_option maxRecDepth 10000 in
theorem fp_X2_29 : FP RX2 29 2 6 (.array .int) true := ⟨RX2, TX2, 10, tyX2, rfl, fl_X2_29, tyX2_ok, nmX2, rfl, by decide +kernel, fun _ => rfl⟩
set_option maxRecDepth 10000 in
theorem fl_X2_104 : FL RX2 104 RX2 TX2 10 7 := ⟨by decide, uw_X2, Or.inl (tbt1 175 rfl rfl)⟩
set_option maxRecDepth 10000 in
theorem ff_X2_104 : FF RX2 104 2 7 := ⟨RX2, TX2, 10, rfl, fl_X2_104⟩
set_option maxRecDepth 10000 in
theorem fp_X2_104 : FP RX2 104 2 7 (.int) false := ⟨RX2, TX2, 10, tyX2, rfl, fl_X2_104, tyX2_ok, nmX2, rfl, by decide +kernel, fun h => absurd h (by decide)⟩
set_option maxRecDepth 10000 in
theorem fl_X2_107 : FL RX2 107 RX2 TX2 10 8 := ⟨by decide, uw_X2, Or.inl (tbt1 176 rfl rfl)⟩
set_option maxRecDepth 10000 in
theorem ff_X2_107 : FF RX2 107 2 8 := ⟨RX2, TX2, 10, rfl, fl_X2_107⟩
set_option maxRecDepth 10000 in
theorem fp_X2_107 : FP RX2 107 2 8 (.int) false := ⟨RX2, TX2, 10, tyX2, rfl, fl_X2_107, tyX2_ok, nmX2, rfl, by decide +kernel, fun h => absurd h (by decide)⟩
set_option maxRecDepth 10000 in
theorem fl_X2_84 : FL RX2 84 RX2 TX2 10 9 := ⟨by decide, uw_X2, Or.inl (tbt1 177 rfl rfl)⟩
set_option maxRecDepth 10000 in
theorem ff_X2_84 : FF RX2 84 2 9 := ⟨RX2, TX2, 10, rfl, fl_X2_84⟩
set_option maxRecDepth 10000 in
theorem fp_X2_84 : FP RX2 84 2 9 (.int) false := ⟨RX2, TX2, 10, tyX2, rfl, fl_X2_84, tyX2_ok, nmX2, rfl, by decide +kernel, fun h => absurd h (by decide)⟩
set_option maxRecDepth 10000 in
theorem fl_X6_27 : FL RX6 27 RX6 TX6 12 0 := ⟨by decide, uw_X6, Or.inl (tbt1 199 rfl rfl)⟩
set_option maxRecDepth 10000 in
theorem ff_X6_27 : FF RX6 27 4 0 := ⟨RX6, TX6, 12, rfl, fl_X6_27⟩
set_option maxRecDepth 10000 in
theorem fp_X6_27 : FP RX6 27 4 0 (.object "OneSnip$Sheet") true := ⟨RX6, TX6, 12, tyX6, rfl, fl_X6_27, tyX6_ok, nmX6, rfl, by decide +kernel, fun _ => rfl⟩
set_option maxRecDepth 10000 in
theorem fl_X6_31 : FL RX6 31 RX6 TX6 12 1 := ⟨by decide, uw_X6, Or.inl (tbt1 200 rfl rfl)⟩
set_option maxRecDepth 10000 in
theorem ff_X6_31 : FF RX6 31 4 1 := ⟨RX6, TX6, 12, rfl, fl_X6_31⟩
set_option maxRecDepth 10000 in
theorem fp_X6_31 : FP RX6 31 4 1 (.object "OneSnip$Figure") true := ⟨RX6, TX6, 12, tyX6, rfl, fl_X6_31, tyX6_ok, nmX6, rfl, by decide +kernel, fun _ => rfl⟩
set_option maxRecDepth 10000 in
theorem fl_X6_14 : FL RX6 14 RX6 TX6 12 2 := ⟨by decide, uw_X6, Or.inl (tbt1 201 rfl rfl)⟩
set_option maxRecDepth 10000 in
theorem ff_X6_14 : FF RX6 14 4 2 := ⟨RX6, TX6, 12, rfl, fl_X6_14⟩
set_option maxRecDepth 10000 in
theorem fp_X6_14 : FP RX6 14 4 2 (.object "OneSnip$Layout") true := ⟨RX6, TX6, 12, tyX6, rfl, fl_X6_14, tyX6_ok, nmX6, rfl, by decide +kernel, fun _ => rfl⟩
set_option maxRecDepth 10000 in
theorem fl_X6_20 : FL RX6 20 RX6 TX6 12 3 := ⟨by decide, uw_X6, Or.inl (tbt1 202 rfl rfl)⟩
set_option maxRecDepth 10000 in
theorem ff_X6_20 : FF RX6 20 4 3 := ⟨RX6, TX6, 12, rfl, fl_X6_20⟩
set_option maxRecDepth 10000 in
theorem fp_X6_20 : FP RX6 20 4 3 (.array .int) true := ⟨RX6, TX6, 12, tyX6, rfl, fl_X6_20, tyX6_ok, nmX6, rfl, by decide +kernel, fun _ => rfl⟩
set_option maxRecDepth 10000 in
theorem fl_X6_24 : FL RX6 24 RX6 TX6 12 4 := ⟨by decide, uw_X6, Or.inl (tbt1 203 rfl rfl)⟩
set_option maxRecDepth 10000 in
theorem ff_X6_24 : FF RX6 24 4 4 := ⟨RX6, TX6, 12, rfl, fl_X6_24⟩
set_option maxRecDepth 10000 in
theorem fp_X6_24 : FP RX6 24 4 4 (.array .int) true := ⟨RX6, TX6, 12, tyX6, rfl, fl_X6_24, tyX6_ok, nmX6, rfl, by decide +kernel, fun _ => rfl⟩
set_option maxRecDepth 10000 in
theorem fl_X6_66 : FL RX6 66 RX6 TX6 12 5 := ⟨by decide, uw_X6, Or.inl (tbt1 204 rfl rfl)⟩
set_option maxRecDepth 10000 in
theorem ff_X6_66 : FF RX6 66 4 5 := ⟨RX6, TX6, 12, rfl, fl_X6_66⟩
set_option maxRecDepth 10000 in
theorem fp_X6_66 : FP RX6 66 4 5 (.int) false := ⟨RX6, TX6, 12, tyX6, rfl, fl_X6_66, tyX6_ok, nmX6, rfl, by decide +kernel, fun h => absurd h (by decide)⟩
set_option maxRecDepth 10000 in
theorem fl_X6_69 : FL RX6 69 RX6 TX6 12 6 := ⟨by decide, uw_X6, Or.inl (tbt1 205 rfl rfl)⟩
set_option maxRecDepth 10000 in
theorem ff_X6_69 : FF RX6 69 4 6 := ⟨RX6, TX6, 12, rfl, fl_X6_69⟩
set_option maxRecDepth 10000 in
theorem fp_X6_69 : FP RX6 69 4 6 (.boolean) false := ⟨RX6, TX6, 12, tyX6, rfl, fl_X6_69, tyX6_ok, nmX6, rfl, by decide +kernel, fun h => absurd h (by decide)⟩
set_option maxRecDepth 10000 in
theorem fl_X6_39 : FL RX6 39 RX6 TX6 12 7 := ⟨by decide, uw_X6, Or.inl (tbt1 206 rfl rfl)⟩
set_option maxRecDepth 10000 in
theorem ff_X6_39 : FF RX6 39 4 7 := ⟨RX6, TX6, 12, rfl, fl_X6_39⟩
set_option maxRecDepth 10000 in
theorem fp_X6_39 : FP RX6 39 4 7 (.int) false := ⟨RX6, TX6, 12, tyX6, rfl, fl_X6_39, tyX6_ok, nmX6, rfl, by decide +kernel, fun h => absurd h (by decide)⟩
set_option maxRecDepth 10000 in
theorem fl_X6_42 : FL RX6 42 RX6 TX6 12 8 := ⟨by decide, uw_X6, Or.inl (tbt1 207 rfl rfl)⟩
set_option maxRecDepth 10000 in
theorem ff_X6_42 : FF RX6 42 4 8 := ⟨RX6, TX6, 12, rfl, fl_X6_42⟩
set_option maxRecDepth 10000 in
theorem fp_X6_42 : FP RX6 42 4 8 (.int) false := ⟨RX6, TX6, 12, tyX6, rfl, fl_X6_42, tyX6_ok, nmX6, rfl, by decide +kernel, fun h => absurd h (by decide)⟩
set_option maxRecDepth 10000 in
theorem fl_X9_221 : FL RX9 221 RX6 TX6 12 8 := ⟨by decide, uw_X6, Or.inr ⟨"OneSnip", (List.mem_of_getElem? (i := 15) rfl)⟩⟩
set_option maxRecDepth 10000 in
theorem ff_X9_221 : FF RX9 221 4 8 := ⟨RX6, TX6, 12, rfl, fl_X9_221⟩
set_option maxRecDepth 10000 in
theorem fp_X9_221 : FP RX9 221 4 8 (.int) false := ⟨RX6, TX6, 12, tyX6, rfl, fl_X9_221, tyX6_ok, nmX6, rfl, by decide +kernel, fun h => absurd h (by decide)⟩
set_option maxRecDepth 10000 in
theorem fl_X6_46 : FL RX6 46 RX6 TX6 12 9 := ⟨by decide, uw_X6, Or.inl (tbt1 209 rfl rfl)⟩
set_option maxRecDepth 10000 in
theorem ff_X6_46 : FF RX6 46 4 9 := ⟨RX6, TX6, 12, rfl, fl_X6_46⟩
set_option maxRecDepth 10000 in
theorem fp_X6_46 : FP RX6 46 4 9 (.int) false := ⟨RX6, TX6, 12, tyX6, rfl, fl_X6_46, tyX6_ok, nmX6, rfl, by decide +kernel, fun h => absurd h (by decide)⟩
set_option maxRecDepth 10000 in
theorem fl_X6_49 : FL RX6 49 RX6 TX6 12 10 := ⟨by decide, uw_X6, Or.inl (tbt1 210 rfl rfl)⟩
set_option maxRecDepth 10000 in
theorem ff_X6_49 : FF RX6 49 4 10 := ⟨RX6, TX6, 12, rfl, fl_X6_49⟩
set_option maxRecDepth 10000 in
theorem fp_X6_49 : FP RX6 49 4 10 (.int) false := ⟨RX6, TX6, 12, tyX6, rfl, fl_X6_49, tyX6_ok, nmX6, rfl, by decide +kernel, fun h => absurd h (by decide)⟩
set_option maxRecDepth 10000 in
theorem fl_X6_35 : FL RX6 35 RX6 TX6 12 11 := ⟨by decide, uw_X6, Or.inl (tbt1 211 rfl rfl)⟩
set_option maxRecDepth 10000 in
theorem ff_X6_35 : FF RX6 35 4 11 := ⟨RX6, TX6, 12, rfl, fl_X6_35⟩
set_option maxRecDepth 10000 in
theorem fp_X6_35 : FP RX6 35 4 11 (.int) false := ⟨RX6, TX6, 12, tyX6, rfl, fl_X6_35, tyX6_ok, nmX6, rfl, by decide +kernel, fun h => absurd h (by decide)⟩
set_option maxRecDepth 10000 in
theorem fl_X9_12 : FL RX9 12 RX9 TX9 7 0 := ⟨by decide, uw_X9, Or.inl (tbt2 105 rfl rfl)⟩
set_option maxRecDepth 10000 in
theorem ff_X9_12 : FF RX9 12 7 0 := ⟨RX9, TX9, 7, rfl, fl_X9_12⟩
set_option maxRecDepth 10000 in
theorem fp_X9_12 : FP RX9 12 7 0 (.object "OneSnip$Sheet") true := ⟨RX9, TX9, 7, tyX9, rfl, fl_X9_12, tyX9_ok, nmX9, rfl, by decide +kernel, fun _ => rfl⟩
set_option maxRecDepth 10000 in
theorem fl_X9_21 : FL RX9 21 RX9 TX9 7 1 := ⟨by decide, uw_X9, Or.inl (tbt2 106 rfl rfl)⟩
set_option maxRecDepth 10000 in
theorem ff_X9_21 : FF RX9 21 7 1 := ⟨RX9, TX9, 7, rfl, fl_X9_21⟩
set_option maxRecDepth 10000 in
theorem fp_X9_21 : FP RX9 21 7 1 (.object "OneSnip$Pile") true := ⟨RX9, TX9, 7, tyX9, rfl, fl_X9_21, tyX9_ok, nmX9, rfl, by decide +kernel, fun _ => rfl⟩
set_option maxRecDepth 10000 in
theorem fl_X9_30 : FL RX9 30 RX9 TX9 7 2 := ⟨by decide, uw_X9, Or.inl (tbt2 107 rfl rfl)⟩
set_option maxRecDepth 10000 in
theorem ff_X9_30 : FF RX9 30 7 2 := ⟨RX9, TX9, 7, rfl, fl_X9_30⟩
set_option maxRecDepth 10000 in
theorem fp_X9_30 : FP RX9 30 7 2 (.object "OneSnip$Creases") true := ⟨RX9, TX9, 7, tyX9, rfl, fl_X9_30, tyX9_ok, nmX9, rfl, by decide +kernel, fun _ => rfl⟩
set_option maxRecDepth 10000 in
theorem fl_X9_37 : FL RX9 37 RX9 TX9 7 3 := ⟨by decide, uw_X9, Or.inl (tbt2 108 rfl rfl)⟩
set_option maxRecDepth 10000 in
theorem ff_X9_37 : FF RX9 37 7 3 := ⟨RX9, TX9, 7, rfl, fl_X9_37⟩
set_option maxRecDepth 10000 in
theorem fp_X9_37 : FP RX9 37 7 3 (.object "OneSnip$Snip") true := ⟨RX9, TX9, 7, tyX9, rfl, fl_X9_37, tyX9_ok, nmX9, rfl, by decide +kernel, fun _ => rfl⟩
set_option maxRecDepth 10000 in
theorem fl_X9_44 : FL RX9 44 RX9 TX9 7 4 := ⟨by decide, uw_X9, Or.inl (tbt2 109 rfl rfl)⟩
set_option maxRecDepth 10000 in
theorem ff_X9_44 : FF RX9 44 7 4 := ⟨RX9, TX9, 7, rfl, fl_X9_44⟩
set_option maxRecDepth 10000 in
theorem fp_X9_44 : FP RX9 44 7 4 (.object "OneSnip$Figure") true := ⟨RX9, TX9, 7, tyX9, rfl, fl_X9_44, tyX9_ok, nmX9, rfl, by decide +kernel, fun _ => rfl⟩
set_option maxRecDepth 10000 in
theorem fl_X9_53 : FL RX9 53 RX9 TX9 7 5 := ⟨by decide, uw_X9, Or.inl (tbt2 110 rfl rfl)⟩
set_option maxRecDepth 10000 in
theorem ff_X9_53 : FF RX9 53 7 5 := ⟨RX9, TX9, 7, rfl, fl_X9_53⟩
set_option maxRecDepth 10000 in
theorem fp_X9_53 : FP RX9 53 7 5 (.object "OneSnip$Search") true := ⟨RX9, TX9, 7, tyX9, rfl, fl_X9_53, tyX9_ok, nmX9, rfl, by decide +kernel, fun _ => rfl⟩
set_option maxRecDepth 10000 in
theorem fl_X9_57 : FL RX9 57 RX9 TX9 7 6 := ⟨by decide, uw_X9, Or.inl (tbt2 111 rfl rfl)⟩
set_option maxRecDepth 10000 in
theorem ff_X9_57 : FF RX9 57 7 6 := ⟨RX9, TX9, 7, rfl, fl_X9_57⟩
set_option maxRecDepth 10000 in
theorem fp_X9_57 : FP RX9 57 7 6 (.int) false := ⟨RX9, TX9, 7, tyX9, rfl, fl_X9_57, tyX9_ok, nmX9, rfl, by decide +kernel, fun h => absurd h (by decide)⟩
set_option maxRecDepth 10000 in
theorem fl_X10_94 : FL RX10 94 RX10 TX10 35 0 := ⟨by decide, uw_X10, Or.inl (tbt4 169 rfl rfl)⟩
set_option maxRecDepth 10000 in
theorem ff_X10_94 : FF RX10 94 8 0 := ⟨RX10, TX10, 35, rfl, fl_X10_94⟩
set_option maxRecDepth 10000 in
theorem fp_X10_94 : FP RX10 94 8 0 (.int) false := ⟨RX10, TX10, 35, tyX10, rfl, fl_X10_94, tyX10_ok, nmX10, rfl, by decide +kernel, fun h => absurd h (by decide)⟩
set_option maxRecDepth 10000 in
theorem fl_X10_7 : FL RX10 7 RX10 TX10 35 1 := ⟨by decide, uw_X10, Or.inl (tbt4 170 rfl rfl)⟩
set_option maxRecDepth 10000 in
theorem ff_X10_7 : FF RX10 7 8 1 := ⟨RX10, TX10, 35, rfl, fl_X10_7⟩
set_option maxRecDepth 10000 in
theorem fp_X10_7 : FP RX10 7 8 1 (.int) false := ⟨RX10, TX10, 35, tyX10, rfl, fl_X10_7, tyX10_ok, nmX10, rfl, by decide +kernel, fun h => absurd h (by decide)⟩
set_option maxRecDepth 10000 in
theorem fl_X10_13 : FL RX10 13 RX10 TX10 35 2 := ⟨by decide, uw_X10, Or.inl (tbt4 171 rfl rfl)⟩
set_option maxRecDepth 10000 in
theorem ff_X10_13 : FF RX10 13 8 2 := ⟨RX10, TX10, 35, rfl, fl_X10_13⟩
set_option maxRecDepth 10000 in
theorem fp_X10_13 : FP RX10 13 8 2 (.array .int) true := ⟨RX10, TX10, 35, tyX10, rfl, fl_X10_13, tyX10_ok, nmX10, rfl, by decide +kernel, fun _ => rfl⟩
set_option maxRecDepth 10000 in
theorem fl_X10_17 : FL RX10 17 RX10 TX10 35 3 := ⟨by decide, uw_X10, Or.inl (tbt4 172 rfl rfl)⟩
set_option maxRecDepth 10000 in
theorem ff_X10_17 : FF RX10 17 8 3 := ⟨RX10, TX10, 35, rfl, fl_X10_17⟩
set_option maxRecDepth 10000 in
theorem fp_X10_17 : FP RX10 17 8 3 (.array .int) true := ⟨RX10, TX10, 35, tyX10, rfl, fl_X10_17, tyX10_ok, nmX10, rfl, by decide +kernel, fun _ => rfl⟩
set_option maxRecDepth 10000 in
theorem fl_X10_20 : FL RX10 20 RX10 TX10 35 4 := ⟨by decide, uw_X10, Or.inl (tbt4 173 rfl rfl)⟩
set_option maxRecDepth 10000 in
theorem ff_X10_20 : FF RX10 20 8 4 := ⟨RX10, TX10, 35, rfl, fl_X10_20⟩
set_option maxRecDepth 10000 in
theorem fp_X10_20 : FP RX10 20 8 4 (.array .int) true := ⟨RX10, TX10, 35, tyX10, rfl, fl_X10_20, tyX10_ok, nmX10, rfl, by decide +kernel, fun _ => rfl⟩
set_option maxRecDepth 10000 in
theorem fl_X10_23 : FL RX10 23 RX10 TX10 35 5 := ⟨by decide, uw_X10, Or.inl (tbt4 174 rfl rfl)⟩
set_option maxRecDepth 10000 in
theorem ff_X10_23 : FF RX10 23 8 5 := ⟨RX10, TX10, 35, rfl, fl_X10_23⟩
set_option maxRecDepth 10000 in
theorem fp_X10_23 : FP RX10 23 8 5 (.array .int) true := ⟨RX10, TX10, 35, tyX10, rfl, fl_X10_23, tyX10_ok, nmX10, rfl, by decide +kernel, fun _ => rfl⟩
set_option maxRecDepth 10000 in
theorem fl_X10_26 : FL RX10 26 RX10 TX10 35 6 := ⟨by decide, uw_X10, Or.inl (tbt4 175 rfl rfl)⟩
set_option maxRecDepth 10000 in
theorem ff_X10_26 : FF RX10 26 8 6 := ⟨RX10, TX10, 35, rfl, fl_X10_26⟩
set_option maxRecDepth 10000 in
theorem fp_X10_26 : FP RX10 26 8 6 (.array .boolean) true := ⟨RX10, TX10, 35, tyX10, rfl, fl_X10_26, tyX10_ok, nmX10, rfl, by decide +kernel, fun _ => rfl⟩
set_option maxRecDepth 10000 in
theorem fl_X10_30 : FL RX10 30 RX10 TX10 35 7 := ⟨by decide, uw_X10, Or.inl (tbt4 176 rfl rfl)⟩
set_option maxRecDepth 10000 in
theorem ff_X10_30 : FF RX10 30 8 7 := ⟨RX10, TX10, 35, rfl, fl_X10_30⟩
set_option maxRecDepth 10000 in
theorem fp_X10_30 : FP RX10 30 8 7 (.array .int) true := ⟨RX10, TX10, 35, tyX10, rfl, fl_X10_30, tyX10_ok, nmX10, rfl, by decide +kernel, fun _ => rfl⟩
set_option maxRecDepth 10000 in
theorem fl_X10_111 : FL RX10 111 RX10 TX10 35 8 := ⟨by decide, uw_X10, Or.inl (tbt4 177 rfl rfl)⟩
set_option maxRecDepth 10000 in
theorem ff_X10_111 : FF RX10 111 8 8 := ⟨RX10, TX10, 35, rfl, fl_X10_111⟩
set_option maxRecDepth 10000 in
theorem fp_X10_111 : FP RX10 111 8 8 (.int) false := ⟨RX10, TX10, 35, tyX10, rfl, fl_X10_111, tyX10_ok, nmX10, rfl, by decide +kernel, fun h => absurd h (by decide)⟩
set_option maxRecDepth 10000 in
theorem fl_X10_33 : FL RX10 33 RX10 TX10 35 9 := ⟨by decide, uw_X10, Or.inl (tbt4 178 rfl rfl)⟩
set_option maxRecDepth 10000 in
theorem ff_X10_33 : FF RX10 33 8 9 := ⟨RX10, TX10, 35, rfl, fl_X10_33⟩
set_option maxRecDepth 10000 in
theorem fp_X10_33 : FP RX10 33 8 9 (.array .int) true := ⟨RX10, TX10, 35, tyX10, rfl, fl_X10_33, tyX10_ok, nmX10, rfl, by decide +kernel, fun _ => rfl⟩
set_option maxRecDepth 10000 in
theorem fl_X10_36 : FL RX10 36 RX10 TX10 35 10 := ⟨by decide, uw_X10, Or.inl (tbt4 179 rfl rfl)⟩
set_option maxRecDepth 10000 in
theorem ff_X10_36 : FF RX10 36 8 10 := ⟨RX10, TX10, 35, rfl, fl_X10_36⟩
set_option maxRecDepth 10000 in
theorem fp_X10_36 : FP RX10 36 8 10 (.array .int) true := ⟨RX10, TX10, 35, tyX10, rfl, fl_X10_36, tyX10_ok, nmX10, rfl, by decide +kernel, fun _ => rfl⟩
set_option maxRecDepth 10000 in
theorem fl_X10_39 : FL RX10 39 RX10 TX10 35 11 := ⟨by decide, uw_X10, Or.inl (tbt4 180 rfl rfl)⟩
set_option maxRecDepth 10000 in
theorem ff_X10_39 : FF RX10 39 8 11 := ⟨RX10, TX10, 35, rfl, fl_X10_39⟩
set_option maxRecDepth 10000 in
theorem fp_X10_39 : FP RX10 39 8 11 (.array .int) true := ⟨RX10, TX10, 35, tyX10, rfl, fl_X10_39, tyX10_ok, nmX10, rfl, by decide +kernel, fun _ => rfl⟩
set_option maxRecDepth 10000 in
theorem fl_X10_42 : FL RX10 42 RX10 TX10 35 12 := ⟨by decide, uw_X10, Or.inl (tbt4 181 rfl rfl)⟩
set_option maxRecDepth 10000 in
theorem ff_X10_42 : FF RX10 42 8 12 := ⟨RX10, TX10, 35, rfl, fl_X10_42⟩
set_option maxRecDepth 10000 in
theorem fp_X10_42 : FP RX10 42 8 12 (.array .int) true := ⟨RX10, TX10, 35, tyX10, rfl, fl_X10_42, tyX10_ok, nmX10, rfl, by decide +kernel, fun _ => rfl⟩
set_option maxRecDepth 10000 in
theorem fl_X10_45 : FL RX10 45 RX10 TX10 35 13 := ⟨by decide, uw_X10, Or.inl (tbt4 182 rfl rfl)⟩
set_option maxRecDepth 10000 in
theorem ff_X10_45 : FF RX10 45 8 13 := ⟨RX10, TX10, 35, rfl, fl_X10_45⟩
set_option maxRecDepth 10000 in
theorem fp_X10_45 : FP RX10 45 8 13 (.array .boolean) true := ⟨RX10, TX10, 35, tyX10, rfl, fl_X10_45, tyX10_ok, nmX10, rfl, by decide +kernel, fun _ => rfl⟩
set_option maxRecDepth 10000 in
theorem fl_X10_48 : FL RX10 48 RX10 TX10 35 14 := ⟨by decide, uw_X10, Or.inl (tbt4 183 rfl rfl)⟩
set_option maxRecDepth 10000 in
theorem ff_X10_48 : FF RX10 48 8 14 := ⟨RX10, TX10, 35, rfl, fl_X10_48⟩
set_option maxRecDepth 10000 in
theorem fp_X10_48 : FP RX10 48 8 14 (.array .int) true := ⟨RX10, TX10, 35, tyX10, rfl, fl_X10_48, tyX10_ok, nmX10, rfl, by decide +kernel, fun _ => rfl⟩
set_option maxRecDepth 10000 in
theorem fl_X10_51 : FL RX10 51 RX10 TX10 35 15 := ⟨by decide, uw_X10, Or.inl (tbt4 184 rfl rfl)⟩
set_option maxRecDepth 10000 in
theorem ff_X10_51 : FF RX10 51 8 15 := ⟨RX10, TX10, 35, rfl, fl_X10_51⟩
set_option maxRecDepth 10000 in
theorem fp_X10_51 : FP RX10 51 8 15 (.array .boolean) true := ⟨RX10, TX10, 35, tyX10, rfl, fl_X10_51, tyX10_ok, nmX10, rfl, by decide +kernel, fun _ => rfl⟩
set_option maxRecDepth 10000 in
theorem fl_X10_54 : FL RX10 54 RX10 TX10 35 16 := ⟨by decide, uw_X10, Or.inl (tbt4 185 rfl rfl)⟩
set_option maxRecDepth 10000 in
theorem ff_X10_54 : FF RX10 54 8 16 := ⟨RX10, TX10, 35, rfl, fl_X10_54⟩
set_option maxRecDepth 10000 in
theorem fp_X10_54 : FP RX10 54 8 16 (.int) false := ⟨RX10, TX10, 35, tyX10, rfl, fl_X10_54, tyX10_ok, nmX10, rfl, by decide +kernel, fun h => absurd h (by decide)⟩
set_option maxRecDepth 10000 in
theorem fl_X10_114 : FL RX10 114 RX10 TX10 35 17 := ⟨by decide, uw_X10, Or.inl (tbt4 186 rfl rfl)⟩
set_option maxRecDepth 10000 in
theorem ff_X10_114 : FF RX10 114 8 17 := ⟨RX10, TX10, 35, rfl, fl_X10_114⟩
set_option maxRecDepth 10000 in
theorem fp_X10_114 : FP RX10 114 8 17 (.boolean) false := ⟨RX10, TX10, 35, tyX10, rfl, fl_X10_114, tyX10_ok, nmX10, rfl, by decide +kernel, fun h => absurd h (by decide)⟩
set_option maxRecDepth 10000 in
theorem fl_X10_57 : FL RX10 57 RX10 TX10 35 18 := ⟨by decide, uw_X10, Or.inl (tbt4 187 rfl rfl)⟩
set_option maxRecDepth 10000 in
theorem ff_X10_57 : FF RX10 57 8 18 := ⟨RX10, TX10, 35, rfl, fl_X10_57⟩
set_option maxRecDepth 10000 in
theorem fp_X10_57 : FP RX10 57 8 18 (.array .boolean) true := ⟨RX10, TX10, 35, tyX10, rfl, fl_X10_57, tyX10_ok, nmX10, rfl, by decide +kernel, fun _ => rfl⟩
set_option maxRecDepth 10000 in
theorem fl_X10_60 : FL RX10 60 RX10 TX10 35 19 := ⟨by decide, uw_X10, Or.inl (tbt4 188 rfl rfl)⟩
set_option maxRecDepth 10000 in
theorem ff_X10_60 : FF RX10 60 8 19 := ⟨RX10, TX10, 35, rfl, fl_X10_60⟩
set_option maxRecDepth 10000 in
theorem fp_X10_60 : FP RX10 60 8 19 (.array .boolean) true := ⟨RX10, TX10, 35, tyX10, rfl, fl_X10_60, tyX10_ok, nmX10, rfl, by decide +kernel, fun _ => rfl⟩
set_option maxRecDepth 10000 in
theorem fl_X10_63 : FL RX10 63 RX10 TX10 35 20 := ⟨by decide, uw_X10, Or.inl (tbt4 189 rfl rfl)⟩
set_option maxRecDepth 10000 in
theorem ff_X10_63 : FF RX10 63 8 20 := ⟨RX10, TX10, 35, rfl, fl_X10_63⟩
set_option maxRecDepth 10000 in
theorem fp_X10_63 : FP RX10 63 8 20 (.array .int) true := ⟨RX10, TX10, 35, tyX10, rfl, fl_X10_63, tyX10_ok, nmX10, rfl, by decide +kernel, fun _ => rfl⟩
set_option maxRecDepth 10000 in
theorem fl_X10_66 : FL RX10 66 RX10 TX10 35 21 := ⟨by decide, uw_X10, Or.inl (tbt4 190 rfl rfl)⟩
set_option maxRecDepth 10000 in
theorem ff_X10_66 : FF RX10 66 8 21 := ⟨RX10, TX10, 35, rfl, fl_X10_66⟩
set_option maxRecDepth 10000 in
theorem fp_X10_66 : FP RX10 66 8 21 (.array .int) true := ⟨RX10, TX10, 35, tyX10, rfl, fl_X10_66, tyX10_ok, nmX10, rfl, by decide +kernel, fun _ => rfl⟩
set_option maxRecDepth 10000 in
theorem fl_X10_69 : FL RX10 69 RX10 TX10 35 22 := ⟨by decide, uw_X10, Or.inl (tbt4 191 rfl rfl)⟩
set_option maxRecDepth 10000 in
theorem ff_X10_69 : FF RX10 69 8 22 := ⟨RX10, TX10, 35, rfl, fl_X10_69⟩
set_option maxRecDepth 10000 in
theorem fp_X10_69 : FP RX10 69 8 22 (.array .int) true := ⟨RX10, TX10, 35, tyX10, rfl, fl_X10_69, tyX10_ok, nmX10, rfl, by decide +kernel, fun _ => rfl⟩
set_option maxRecDepth 10000 in
theorem fl_X10_72 : FL RX10 72 RX10 TX10 35 23 := ⟨by decide, uw_X10, Or.inl (tbt4 192 rfl rfl)⟩
set_option maxRecDepth 10000 in
theorem ff_X10_72 : FF RX10 72 8 23 := ⟨RX10, TX10, 35, rfl, fl_X10_72⟩
set_option maxRecDepth 10000 in
theorem fp_X10_72 : FP RX10 72 8 23 (.array .int) true := ⟨RX10, TX10, 35, tyX10, rfl, fl_X10_72, tyX10_ok, nmX10, rfl, by decide +kernel, fun _ => rfl⟩
set_option maxRecDepth 10000 in
theorem fl_X10_75 : FL RX10 75 RX10 TX10 35 24 := ⟨by decide, uw_X10, Or.inl (tbt4 193 rfl rfl)⟩
set_option maxRecDepth 10000 in
theorem ff_X10_75 : FF RX10 75 8 24 := ⟨RX10, TX10, 35, rfl, fl_X10_75⟩
set_option maxRecDepth 10000 in
theorem fp_X10_75 : FP RX10 75 8 24 (.array .int) true := ⟨RX10, TX10, 35, tyX10, rfl, fl_X10_75, tyX10_ok, nmX10, rfl, by decide +kernel, fun _ => rfl⟩
set_option maxRecDepth 10000 in
theorem fl_X10_207 : FL RX10 207 RX10 TX10 35 25 := ⟨by decide, uw_X10, Or.inl (tbt4 194 rfl rfl)⟩
set_option maxRecDepth 10000 in
theorem ff_X10_207 : FF RX10 207 8 25 := ⟨RX10, TX10, 35, rfl, fl_X10_207⟩
set_option maxRecDepth 10000 in
theorem fp_X10_207 : FP RX10 207 8 25 (.int) false := ⟨RX10, TX10, 35, tyX10, rfl, fl_X10_207, tyX10_ok, nmX10, rfl, by decide +kernel, fun h => absurd h (by decide)⟩
set_option maxRecDepth 10000 in
theorem fl_X10_78 : FL RX10 78 RX10 TX10 35 26 := ⟨by decide, uw_X10, Or.inl (tbt4 195 rfl rfl)⟩
set_option maxRecDepth 10000 in
theorem ff_X10_78 : FF RX10 78 8 26 := ⟨RX10, TX10, 35, rfl, fl_X10_78⟩
set_option maxRecDepth 10000 in
theorem fp_X10_78 : FP RX10 78 8 26 (.array .int) true := ⟨RX10, TX10, 35, tyX10, rfl, fl_X10_78, tyX10_ok, nmX10, rfl, by decide +kernel, fun _ => rfl⟩
set_option maxRecDepth 10000 in
theorem fl_X10_81 : FL RX10 81 RX10 TX10 35 27 := ⟨by decide, uw_X10, Or.inl (tbt4 196 rfl rfl)⟩
set_option maxRecDepth 10000 in
theorem ff_X10_81 : FF RX10 81 8 27 := ⟨RX10, TX10, 35, rfl, fl_X10_81⟩
set_option maxRecDepth 10000 in
theorem fp_X10_81 : FP RX10 81 8 27 (.array .int) true := ⟨RX10, TX10, 35, tyX10, rfl, fl_X10_81, tyX10_ok, nmX10, rfl, by decide +kernel, fun _ => rfl⟩
set_option maxRecDepth 10000 in
theorem fl_X10_84 : FL RX10 84 RX10 TX10 35 28 := ⟨by decide, uw_X10, Or.inl (tbt4 197 rfl rfl)⟩
set_option maxRecDepth 10000 in
theorem ff_X10_84 : FF RX10 84 8 28 := ⟨RX10, TX10, 35, rfl, fl_X10_84⟩
set_option maxRecDepth 10000 in
theorem fp_X10_84 : FP RX10 84 8 28 (.array .int) true := ⟨RX10, TX10, 35, tyX10, rfl, fl_X10_84, tyX10_ok, nmX10, rfl, by decide +kernel, fun _ => rfl⟩
set_option maxRecDepth 10000 in
theorem fl_X10_87 : FL RX10 87 RX10 TX10 35 29 := ⟨by decide, uw_X10, Or.inl (tbt4 198 rfl rfl)⟩
set_option maxRecDepth 10000 in
theorem ff_X10_87 : FF RX10 87 8 29 := ⟨RX10, TX10, 35, rfl, fl_X10_87⟩
set_option maxRecDepth 10000 in
theorem fp_X10_87 : FP RX10 87 8 29 (.array .int) true := ⟨RX10, TX10, 35, tyX10, rfl, fl_X10_87, tyX10_ok, nmX10, rfl, by decide +kernel, fun _ => rfl⟩
set_option maxRecDepth 10000 in
theorem fl_X10_223 : FL RX10 223 RX10 TX10 35 30 := ⟨by decide, uw_X10, Or.inl (tbt4 199 rfl rfl)⟩
set_option maxRecDepth 10000 in
theorem ff_X10_223 : FF RX10 223 8 30 := ⟨RX10, TX10, 35, rfl, fl_X10_223⟩
set_option maxRecDepth 10000 in
theorem fp_X10_223 : FP RX10 223 8 30 (.int) false := ⟨RX10, TX10, 35, tyX10, rfl, fl_X10_223, tyX10_ok, nmX10, rfl, by decide +kernel, fun h => absurd h (by decide)⟩
set_option maxRecDepth 10000 in
theorem fl_X10_210 : FL RX10 210 RX10 TX10 35 31 := ⟨by decide, uw_X10, Or.inl (tbt4 200 rfl rfl)⟩
set_option maxRecDepth 10000 in
theorem ff_X10_210 : FF RX10 210 8 31 := ⟨RX10, TX10, 35, rfl, fl_X10_210⟩
set_option maxRecDepth 10000 in
theorem fp_X10_210 : FP RX10 210 8 31 (.int) false := ⟨RX10, TX10, 35, tyX10, rfl, fl_X10_210, tyX10_ok, nmX10, rfl, by decide +kernel, fun h => absurd h (by decide)⟩
set_option maxRecDepth 10000 in
theorem fl_X10_122 : FL RX10 122 RX10 TX10 35 32 := ⟨by decide, uw_X10, Or.inl (tbt4 201 rfl rfl)⟩
set_option maxRecDepth 10000 in
theorem ff_X10_122 : FF RX10 122 8 32 := ⟨RX10, TX10, 35, rfl, fl_X10_122⟩
set_option maxRecDepth 10000 in
theorem fp_X10_122 : FP RX10 122 8 32 (.int) false := ⟨RX10, TX10, 35, tyX10, rfl, fl_X10_122, tyX10_ok, nmX10, rfl, by decide +kernel, fun h => absurd h (by decide)⟩
set_option maxRecDepth 10000 in
theorem fl_X10_125 : FL RX10 125 RX10 TX10 35 33 := ⟨by decide, uw_X10, Or.inl (tbt4 202 rfl rfl)⟩
set_option maxRecDepth 10000 in
theorem ff_X10_125 : FF RX10 125 8 33 := ⟨RX10, TX10, 35, rfl, fl_X10_125⟩
set_option maxRecDepth 10000 in
theorem fp_X10_125 : FP RX10 125 8 33 (.int) false := ⟨RX10, TX10, 35, tyX10, rfl, fl_X10_125, tyX10_ok, nmX10, rfl, by decide +kernel, fun h => absurd h (by decide)⟩
set_option maxRecDepth 10000 in
theorem fl_X10_128 : FL RX10 128 RX10 TX10 35 34 := ⟨by decide, uw_X10, Or.inl (tbt4 203 rfl rfl)⟩
set_option maxRecDepth 10000 in
theorem ff_X10_128 : FF RX10 128 8 34 := ⟨RX10, TX10, 35, rfl, fl_X10_128⟩
set_option maxRecDepth 10000 in
theorem fp_X10_128 : FP RX10 128 8 34 (.int) false := ⟨RX10, TX10, 35, tyX10, rfl, fl_X10_128, tyX10_ok, nmX10, rfl, by decide +kernel, fun h => absurd h (by decide)⟩
set_option maxRecDepth 10000 in
theorem mf_X0_init : MF yX0_init cX0_init 3 none 2 := ⟨(tbt1 101 rfl rfl), (tbt1 4 rfl rfl), by decide +kernel, by decide⟩
set_option maxRecDepth 10000 in
theorem mi_X0_init : Cond.instanceMethod yX0_init ∈ TB := (tbt1 100 rfl rfl)
set_option maxRecDepth 10000 in
theorem mf_X0_kind : MF yX0_kind cX0_kind 5 (some .int) 2 := ⟨(tbt3 77 rfl rfl), (tbt1 4 rfl rfl), by decide +kernel, by decide⟩
set_option maxRecDepth 10000 in
theorem mv_X0_kind : MV yX0_kind := ⟨(tbt3 75 rfl rfl), (tbt3 76 rfl rfl)⟩
set_option maxRecDepth 10000 in
theorem mf_X0_total : MF yX0_total cX0_total 5 (some .int) 1 := ⟨(tbt3 94 rfl rfl), (tbt1 4 rfl rfl), by decide +kernel, by decide⟩
set_option maxRecDepth 10000 in
theorem mv_X0_total : MV yX0_total := ⟨(tbt3 92 rfl rfl), (tbt3 93 rfl rfl)⟩
set_option maxRecDepth 10000 in
theorem mf_X0_ending : MF yX0_ending cX0_ending 11 (some .int) 4 := ⟨(tbt3 112 rfl rfl), (tbt1 4 rfl rfl), by decide +kernel, by decide⟩
set_option maxRecDepth 10000 in
theorem mv_X0_ending : MV yX0_ending := ⟨(tbt3 110 rfl rfl), (tbt3 111 rfl rfl)⟩
set_option maxRecDepth 10000 in
theorem mf_X0_isFirstOf : MF yX0_isFirstOf cX0_isFirstOf 3 (some .boolean) 2 := ⟨(tbt3 98 rfl rfl), (tbt1 4 rfl rfl), by decide +kernel, by decide⟩
set_option maxRecDepth 10000 in
theorem mv_X0_isFirstOf : MV yX0_isFirstOf := ⟨(tbt3 97 rfl rfl), (tbp1 14 rfl)⟩
set_option maxRecDepth 10000 in
theorem mf_X0_endsAt : MF yX0_endsAt cX0_endsAt 11 (some .boolean) 4 := ⟨(tbt3 116 rfl rfl), (tbt1 4 rfl rfl), by decide +kernel, by decide⟩
set_option maxRecDepth 10000 in
theorem mv_X0_endsAt : MV yX0_endsAt := ⟨(tbt3 115 rfl rfl), (tbp1 15 rfl)⟩
set_option maxRecDepth 10000 in
theorem mf_X0_isCorner : MF yX0_isCorner cX0_isCorner 5 (some .boolean) 3 := ⟨(tbt3 122 rfl rfl), (tbt1 4 rfl rfl), by decide +kernel, by decide⟩
set_option maxRecDepth 10000 in
theorem ms_X0_isCorner : Cond.static yX0_isCorner ∈ TB := (tbt3 121 rfl rfl)
set_option maxRecDepth 10000 in
theorem mf_X1_init : MF yX1_init cX1_init 2 none 1 := ⟨(tbt1 141 rfl rfl), (tbt1 6 rfl rfl), by decide +kernel, by decide⟩
set_option maxRecDepth 10000 in
theorem mi_X1_init : Cond.instanceMethod yX1_init ∈ TB := (tbt1 140 rfl rfl)
set_option maxRecDepth 10000 in
theorem mf_X1_wipe : MF yX1_wipe cX1_wipe 1 none 0 := ⟨(tbt2 98 rfl rfl), (tbt1 6 rfl rfl), by decide +kernel, by decide⟩
set_option maxRecDepth 10000 in
theorem mv_X1_wipe : MV yX1_wipe := ⟨(tbt2 96 rfl rfl), (tbt2 97 rfl rfl)⟩
set_option maxRecDepth 10000 in
theorem mf_X1_has : MF yX1_has cX1_has 2 (some .boolean) 1 := ⟨(tbt3 6 rfl rfl), (tbt1 6 rfl rfl), by decide +kernel, by decide⟩
set_option maxRecDepth 10000 in
theorem mv_X1_has : MV yX1_has := ⟨(tbt3 4 rfl rfl), (tbt3 5 rfl rfl)⟩
set_option maxRecDepth 10000 in
theorem mf_X1_put : MF yX1_put cX1_put 3 none 2 := ⟨(tbt3 201 rfl rfl), (tbt1 6 rfl rfl), by decide +kernel, by decide⟩
set_option maxRecDepth 10000 in
theorem mv_X1_put : MV yX1_put := ⟨(tbt3 199 rfl rfl), (tbt3 200 rfl rfl)⟩
set_option maxRecDepth 10000 in
theorem mf_X1_first : MF yX1_first cX1_first 3 (some .int) 1 := ⟨(tbt4 17 rfl rfl), (tbt1 6 rfl rfl), by decide +kernel, by decide⟩
set_option maxRecDepth 10000 in
theorem mv_X1_first : MV yX1_first := ⟨(tbt4 15 rfl rfl), (tbt4 16 rfl rfl)⟩
set_option maxRecDepth 10000 in
theorem mf_X1_isMirror : MF yX1_isMirror cX1_isMirror 7 (some .boolean) 2 := ⟨(tbt3 225 rfl rfl), (tbt1 6 rfl rfl), by decide +kernel, by decide⟩
set_option maxRecDepth 10000 in
theorem mv_X1_isMirror : MV yX1_isMirror := ⟨(tbt3 223 rfl rfl), (tbt3 224 rfl rfl)⟩
set_option maxRecDepth 10000 in
theorem mf_X2_init : MF yX2_init cX2_init 2 none 1 := ⟨(tbt1 165 rfl rfl), (tbt1 8 rfl rfl), by decide +kernel, by decide⟩
set_option maxRecDepth 10000 in
theorem mi_X2_init : Cond.instanceMethod yX2_init ∈ TB := (tbt1 164 rfl rfl)
set_option maxRecDepth 10000 in
theorem mf_X2_load : MF yX2_load cX2_load 5 none 2 := ⟨(tbt4 13 rfl rfl), (tbt1 8 rfl rfl), by decide +kernel, by decide⟩
set_option maxRecDepth 10000 in
theorem mv_X2_load : MV yX2_load := ⟨(tbt4 11 rfl rfl), (tbt4 12 rfl rfl)⟩
set_option maxRecDepth 10000 in
theorem mf_X2_putAround : MF yX2_putAround cX2_putAround 7 none 4 := ⟨(tbt4 29 rfl rfl), (tbt1 8 rfl rfl), by decide +kernel, by decide⟩
set_option maxRecDepth 10000 in
theorem mv_X2_putAround : MV yX2_putAround := ⟨(tbt4 28 rfl rfl), (tbp2 3 rfl)⟩
set_option maxRecDepth 10000 in
theorem mf_X2_clear : MF yX2_clear cX2_clear 3 none 1 := ⟨(tbt4 21 rfl rfl), (tbt1 8 rfl rfl), by decide +kernel, by decide⟩
set_option maxRecDepth 10000 in
theorem mv_X2_clear : MV yX2_clear := ⟨(tbt4 20 rfl rfl), (tbp2 2 rfl)⟩
set_option maxRecDepth 10000 in
theorem mf_X2_put : MF yX2_put cX2_put 7 none 4 := ⟨(tbt4 47 rfl rfl), (tbt1 8 rfl rfl), by decide +kernel, by decide⟩
set_option maxRecDepth 10000 in
theorem mv_X2_put : MV yX2_put := ⟨(tbt4 46 rfl rfl), (tbp2 4 rfl)⟩
set_option maxRecDepth 10000 in
theorem mf_X2_secondKind : MF yX2_secondKind cX2_secondKind 1 (some .int) 0 := ⟨(tbt4 120 rfl rfl), (tbt1 8 rfl rfl), by decide +kernel, by decide⟩
set_option maxRecDepth 10000 in
theorem mv_X2_secondKind : MV yX2_secondKind := ⟨(tbt4 119 rfl rfl), (tbp2 12 rfl)⟩
set_option maxRecDepth 10000 in
theorem mf_X2_widen : MF yX2_widen cX2_widen 3 none 2 := ⟨(tbt4 56 rfl rfl), (tbt1 8 rfl rfl), by decide +kernel, by decide⟩
set_option maxRecDepth 10000 in
theorem mv_X2_widen : MV yX2_widen := ⟨(tbt4 55 rfl rfl), (tbp2 5 rfl)⟩
set_option maxRecDepth 10000 in
theorem mf_X2_least : MF yX2_least cX2_least 2 (some .int) 1 := ⟨(tbt4 107 rfl rfl), (tbt1 8 rfl rfl), by decide +kernel, by decide⟩
set_option maxRecDepth 10000 in
theorem mv_X2_least : MV yX2_least := ⟨(tbt4 106 rfl rfl), (tbp2 11 rfl)⟩
set_option maxRecDepth 10000 in
theorem mf_X2_greatest : MF yX2_greatest cX2_greatest 2 (some .int) 1 := ⟨(tbt4 98 rfl rfl), (tbt1 8 rfl rfl), by decide +kernel, by decide⟩
set_option maxRecDepth 10000 in
theorem mv_X2_greatest : MV yX2_greatest := ⟨(tbt4 97 rfl rfl), (tbp2 10 rfl)⟩
set_option maxRecDepth 10000 in
theorem mf_X2_row : MF yX2_row cX2_row 2 (some .int) 2 := ⟨(tbt4 51 rfl rfl), (tbt1 8 rfl rfl), by decide +kernel, by decide⟩
set_option maxRecDepth 10000 in
theorem ms_X2_row : Cond.static yX2_row ∈ TB := (tbt4 50 rfl rfl)
set_option maxRecDepth 10000 in
theorem mf_X2_firstStrip : MF yX2_firstStrip cX2_firstStrip 3 (some .int) 0 := ⟨(tbt4 103 rfl rfl), (tbt1 8 rfl rfl), by decide +kernel, by decide⟩
set_option maxRecDepth 10000 in
theorem mv_X2_firstStrip : MV yX2_firstStrip := ⟨(tbt4 101 rfl rfl), (tbt4 102 rfl rfl)⟩
set_option maxRecDepth 10000 in
theorem mf_X2_lastStrip : MF yX2_lastStrip cX2_lastStrip 3 (some .int) 0 := ⟨(tbt4 94 rfl rfl), (tbt1 8 rfl rfl), by decide +kernel, by decide⟩
set_option maxRecDepth 10000 in
theorem mv_X2_lastStrip : MV yX2_lastStrip := ⟨(tbt4 92 rfl rfl), (tbt4 93 rfl rfl)⟩
set_option maxRecDepth 10000 in
theorem mf_X2_isCrossed : MF yX2_isCrossed cX2_isCrossed 3 (some .boolean) 2 := ⟨(tbt4 112 rfl rfl), (tbt1 8 rfl rfl), by decide +kernel, by decide⟩
set_option maxRecDepth 10000 in
theorem mv_X2_isCrossed : MV yX2_isCrossed := ⟨(tbt4 110 rfl rfl), (tbt4 111 rfl rfl)⟩
set_option maxRecDepth 10000 in
theorem mf_X2_fits : MF yX2_fits cX2_fits 10 (some .boolean) 2 := ⟨(tbt4 116 rfl rfl), (tbt1 8 rfl rfl), by decide +kernel, by decide⟩
set_option maxRecDepth 10000 in
theorem mv_X2_fits : MV yX2_fits := ⟨(tbt4 114 rfl rfl), (tbt4 115 rfl rfl)⟩
set_option maxRecDepth 10000 in
theorem mf_X2_turnInto : MF yX2_turnInto cX2_turnInto 12 none 5 := ⟨(tbt4 128 rfl rfl), (tbt1 8 rfl rfl), by decide +kernel, by decide⟩
set_option maxRecDepth 10000 in
theorem mv_X2_turnInto : MV yX2_turnInto := ⟨(tbt4 126 rfl rfl), (tbt4 127 rfl rfl)⟩
set_option maxRecDepth 10000 in
theorem mf_X2_isEntangled : MF yX2_isEntangled cX2_isEntangled 2 (some .boolean) 0 := ⟨(tbt4 133 rfl rfl), (tbt1 8 rfl rfl), by decide +kernel, by decide⟩
set_option maxRecDepth 10000 in
theorem mv_X2_isEntangled : MV yX2_isEntangled := ⟨(tbt4 132 rfl rfl), (tbp2 13 rfl)⟩
set_option maxRecDepth 10000 in
theorem mf_X2_cuts : MF yX2_cuts cX2_cuts 4 (some .int) 0 := ⟨(tbt4 73 rfl rfl), (tbt1 8 rfl rfl), by decide +kernel, by decide⟩
set_option maxRecDepth 10000 in
theorem mv_X2_cuts : MV yX2_cuts := ⟨(tbt4 71 rfl rfl), (tbt4 72 rfl rfl)⟩
set_option maxRecDepth 10000 in
theorem mf_X2_firstCut : MF yX2_firstCut cX2_firstCut 5 (some .int) 0 := ⟨(tbt4 87 rfl rfl), (tbt1 8 rfl rfl), by decide +kernel, by decide⟩
set_option maxRecDepth 10000 in
theorem mv_X2_firstCut : MV yX2_firstCut := ⟨(tbt4 85 rfl rfl), (tbt4 86 rfl rfl)⟩
set_option maxRecDepth 10000 in
theorem mf_X2_firstCut_ : MF yX2_firstCut_ cX2_firstCut_ 4 (some .int) 2 := ⟨(tbt4 81 rfl rfl), (tbt1 8 rfl rfl), by decide +kernel, by decide⟩
set_option maxRecDepth 10000 in
theorem mv_X2_firstCut_ : MV yX2_firstCut_ := ⟨(tbt4 80 rfl rfl), (tbp2 9 rfl)⟩
set_option maxRecDepth 10000 in
theorem mf_X2_lastCut : MF yX2_lastCut cX2_lastCut 4 (some .int) 2 := ⟨(tbt4 77 rfl rfl), (tbt1 8 rfl rfl), by decide +kernel, by decide⟩
set_option maxRecDepth 10000 in
theorem mv_X2_lastCut : MV yX2_lastCut := ⟨(tbt4 76 rfl rfl), (tbp2 8 rfl)⟩
set_option maxRecDepth 10000 in
theorem mf_X3_isLine : MF yX3_isLine cX3_isLine 2 (some .boolean) 2 := ⟨(tbt2 137 rfl rfl), (tbt1 11 rfl rfl), by decide +kernel, by decide⟩
set_option maxRecDepth 10000 in
theorem ms_X3_isLine : Cond.static yX3_isLine ∈ TB := (tbt2 136 rfl rfl)
set_option maxRecDepth 10000 in
theorem mf_X3_isSide : MF yX3_isSide cX3_isSide 1 (some .boolean) 1 := ⟨(tbt2 140 rfl rfl), (tbt1 11 rfl rfl), by decide +kernel, by decide⟩
set_option maxRecDepth 10000 in
theorem ms_X3_isSide : Cond.static yX3_isSide ∈ TB := (tbt2 139 rfl rfl)
set_option maxRecDepth 10000 in
theorem mf_X3_strip : MF yX3_strip cX3_strip 4 (some .int) 4 := ⟨(tbt2 167 rfl rfl), (tbt1 11 rfl rfl), by decide +kernel, by decide⟩
set_option maxRecDepth 10000 in
theorem ms_X3_strip : Cond.static yX3_strip ∈ TB := (tbt2 166 rfl rfl)
set_option maxRecDepth 10000 in
theorem mf_X3_isOn : MF yX3_isOn cX3_isOn 3 (some .boolean) 3 := ⟨(tbt2 170 rfl rfl), (tbt1 11 rfl rfl), by decide +kernel, by decide⟩
set_option maxRecDepth 10000 in
theorem ms_X3_isOn : Cond.static yX3_isOn ∈ TB := (tbt2 169 rfl rfl)
set_option maxRecDepth 10000 in
theorem mf_X3_mirrorX : MF yX3_mirrorX cX3_mirrorX 4 (some .int) 4 := ⟨(tbt2 192 rfl rfl), (tbt1 11 rfl rfl), by decide +kernel, by decide⟩
set_option maxRecDepth 10000 in
theorem ms_X3_mirrorX : Cond.static yX3_mirrorX ∈ TB := (tbt2 191 rfl rfl)
set_option maxRecDepth 10000 in
theorem mf_X3_mirrorY : MF yX3_mirrorY cX3_mirrorY 4 (some .int) 4 := ⟨(tbt2 195 rfl rfl), (tbt1 11 rfl rfl), by decide +kernel, by decide⟩
set_option maxRecDepth 10000 in
theorem ms_X3_mirrorY : Cond.static yX3_mirrorY ∈ TB := (tbt2 194 rfl rfl)
set_option maxRecDepth 10000 in
theorem mf_X3_mirrorQuarter : MF yX3_mirrorQuarter cX3_mirrorQuarter 2 (some .int) 2 := ⟨(tbt2 198 rfl rfl), (tbt1 11 rfl rfl), by decide +kernel, by decide⟩
set_option maxRecDepth 10000 in
theorem ms_X3_mirrorQuarter : Cond.static yX3_mirrorQuarter ∈ TB := (tbt2 197 rfl rfl)
set_option maxRecDepth 10000 in
theorem mf_X3_touches : MF yX3_touches cX3_touches 5 (some .boolean) 5 := ⟨(tbt3 141 rfl rfl), (tbt1 11 rfl rfl), by decide +kernel, by decide⟩
set_option maxRecDepth 10000 in
theorem ms_X3_touches : Cond.static yX3_touches ∈ TB := (tbt3 140 rfl rfl)
set_option maxRecDepth 10000 in
theorem mf_X3_spot : MF yX3_spot cX3_spot 3 (some .int) 3 := ⟨(tbt2 66 rfl rfl), (tbt1 11 rfl rfl), by decide +kernel, by decide⟩
set_option maxRecDepth 10000 in
theorem ms_X3_spot : Cond.static yX3_spot ∈ TB := (tbt2 65 rfl rfl)
set_option maxRecDepth 10000 in
theorem mf_X4_init : MF yX4_init cX4_init 2 none 1 := ⟨(tbt1 57 rfl rfl), (tbt1 3 rfl rfl), by decide +kernel, by decide⟩
set_option maxRecDepth 10000 in
theorem mi_X4_init : Cond.instanceMethod yX4_init ∈ TB := (tbt1 56 rfl rfl)
set_option maxRecDepth 10000 in
theorem mf_X4_flatten : MF yX4_flatten cX4_flatten 1 none 0 := ⟨(tbt2 28 rfl rfl), (tbt1 3 rfl rfl), by decide +kernel, by decide⟩
set_option maxRecDepth 10000 in
theorem mv_X4_flatten : MV yX4_flatten := ⟨(tbt2 26 rfl rfl), (tbt2 27 rfl rfl)⟩
set_option maxRecDepth 10000 in
theorem mf_X4_add : MF yX4_add cX4_add 5 none 4 := ⟨(tbt2 177 rfl rfl), (tbt1 3 rfl rfl), by decide +kernel, by decide⟩
set_option maxRecDepth 10000 in
theorem mv_X4_add : MV yX4_add := ⟨(tbt2 175 rfl rfl), (tbt2 176 rfl rfl)⟩
set_option maxRecDepth 10000 in
theorem mf_X4_undo : MF yX4_undo cX4_undo 2 none 0 := ⟨(tbt2 226 rfl rfl), (tbt1 3 rfl rfl), by decide +kernel, by decide⟩
set_option maxRecDepth 10000 in
theorem mv_X4_undo : MV yX4_undo := ⟨(tbt2 224 rfl rfl), (tbt2 225 rfl rfl)⟩
set_option maxRecDepth 10000 in
theorem mf_X4_spread : MF yX4_spread cX4_spread 2 none 0 := ⟨(tbt2 32 rfl rfl), (tbt1 3 rfl rfl), by decide +kernel, by decide⟩
set_option maxRecDepth 10000 in
theorem mv_X4_spread : MV yX4_spread := ⟨(tbt2 31 rfl rfl), (tbp1 3 rfl)⟩
set_option maxRecDepth 10000 in
theorem mf_X4_turn : MF yX4_turn cX4_turn 6 none 4 := ⟨(tbt2 181 rfl rfl), (tbt1 3 rfl rfl), by decide +kernel, by decide⟩
set_option maxRecDepth 10000 in
theorem mv_X4_turn : MV yX4_turn := ⟨(tbt2 180 rfl rfl), (tbp1 8 rfl)⟩
set_option maxRecDepth 10000 in
theorem mf_X4_layerBehind : MF yX4_layerBehind cX4_layerBehind 8 (some .int) 5 := ⟨(tbt2 185 rfl rfl), (tbt1 3 rfl rfl), by decide +kernel, by decide⟩
set_option maxRecDepth 10000 in
theorem mv_X4_layerBehind : MV yX4_layerBehind := ⟨(tbt2 184 rfl rfl), (tbp1 9 rfl)⟩
set_option maxRecDepth 10000 in
theorem mf_X4_flip : MF yX4_flip cX4_flip 6 none 3 := ⟨(tbt2 210 rfl rfl), (tbt1 3 rfl rfl), by decide +kernel, by decide⟩
set_option maxRecDepth 10000 in
theorem mv_X4_flip : MV yX4_flip := ⟨(tbt2 209 rfl rfl), (tbp1 11 rfl)⟩
set_option maxRecDepth 10000 in
theorem mf_X4_measure : MF yX4_measure cX4_measure 3 none 0 := ⟨(tbt2 52 rfl rfl), (tbt1 3 rfl rfl), by decide +kernel, by decide⟩
set_option maxRecDepth 10000 in
theorem mv_X4_measure : MV yX4_measure := ⟨(tbt2 51 rfl rfl), (tbp1 4 rfl)⟩
set_option maxRecDepth 10000 in
theorem mf_X4_spot : MF yX4_spot cX4_spot 2 (some .int) 1 := ⟨(tbt2 62 rfl rfl), (tbt1 3 rfl rfl), by decide +kernel, by decide⟩
set_option maxRecDepth 10000 in
theorem mv_X4_spot : MV yX4_spot := ⟨(tbt2 61 rfl rfl), (tbp1 5 rfl)⟩
set_option maxRecDepth 10000 in
theorem mf_X4_mirrorSpot : MF yX4_mirrorSpot cX4_mirrorSpot 6 (some .int) 3 := ⟨(tbt2 189 rfl rfl), (tbt1 3 rfl rfl), by decide +kernel, by decide⟩
set_option maxRecDepth 10000 in
theorem mv_X4_mirrorSpot : MV yX4_mirrorSpot := ⟨(tbt2 188 rfl rfl), (tbp1 10 rfl)⟩
set_option maxRecDepth 10000 in
theorem mf_X4_x : MF yX4_x cX4_x 2 (some .int) 1 := ⟨(tbt2 156 rfl rfl), (tbt1 3 rfl rfl), by decide +kernel, by decide⟩
set_option maxRecDepth 10000 in
theorem mv_X4_x : MV yX4_x := ⟨(tbt2 154 rfl rfl), (tbt2 155 rfl rfl)⟩
set_option maxRecDepth 10000 in
theorem mf_X4_y : MF yX4_y cX4_y 2 (some .int) 1 := ⟨(tbt2 160 rfl rfl), (tbt1 3 rfl rfl), by decide +kernel, by decide⟩
set_option maxRecDepth 10000 in
theorem mv_X4_y : MV yX4_y := ⟨(tbt2 158 rfl rfl), (tbt2 159 rfl rfl)⟩
set_option maxRecDepth 10000 in
theorem mf_X4_quarter : MF yX4_quarter cX4_quarter 2 (some .int) 1 := ⟨(tbt2 164 rfl rfl), (tbt1 3 rfl rfl), by decide +kernel, by decide⟩
set_option maxRecDepth 10000 in
theorem mv_X4_quarter : MV yX4_quarter := ⟨(tbt2 162 rfl rfl), (tbt2 163 rfl rfl)⟩
set_option maxRecDepth 10000 in
theorem mf_X4_layer : MF yX4_layer cX4_layer 2 (some .int) 1 := ⟨(tbt2 206 rfl rfl), (tbt1 3 rfl rfl), by decide +kernel, by decide⟩
set_option maxRecDepth 10000 in
theorem mv_X4_layer : MV yX4_layer := ⟨(tbt2 204 rfl rfl), (tbt2 205 rfl rfl)⟩
set_option maxRecDepth 10000 in
theorem mf_X4_isUp : MF yX4_isUp cX4_isUp 2 (some .boolean) 1 := ⟨(tbt2 214 rfl rfl), (tbt1 3 rfl rfl), by decide +kernel, by decide⟩
set_option maxRecDepth 10000 in
theorem mv_X4_isUp : MV yX4_isUp := ⟨(tbt2 212 rfl rfl), (tbt2 213 rfl rfl)⟩
set_option maxRecDepth 10000 in
theorem mf_X4_heightOver : MF yX4_heightOver cX4_heightOver 2 (some .int) 1 := ⟨(tbt2 202 rfl rfl), (tbt1 3 rfl rfl), by decide +kernel, by decide⟩
set_option maxRecDepth 10000 in
theorem mv_X4_heightOver : MV yX4_heightOver := ⟨(tbt2 200 rfl rfl), (tbt2 201 rfl rfl)⟩
set_option maxRecDepth 10000 in
theorem mf_X4_isOn : MF yX4_isOn cX4_isOn 5 (some .boolean) 4 := ⟨(tbt2 152 rfl rfl), (tbt1 3 rfl rfl), by decide +kernel, by decide⟩
set_option maxRecDepth 10000 in
theorem mv_X4_isOn : MV yX4_isOn := ⟨(tbt2 150 rfl rfl), (tbt2 151 rfl rfl)⟩
set_option maxRecDepth 10000 in
theorem mf_X4_lying : MF yX4_lying cX4_lying 6 (some .int) 3 := ⟨(tbt2 148 rfl rfl), (tbt1 3 rfl rfl), by decide +kernel, by decide⟩
set_option maxRecDepth 10000 in
theorem mv_X4_lying : MV yX4_lying := ⟨(tbt2 146 rfl rfl), (tbt2 147 rfl rfl)⟩
set_option maxRecDepth 10000 in
theorem mf_X4_isCrossed : MF yX4_isCrossed cX4_isCrossed 4 (some .boolean) 2 := ⟨(tbt2 144 rfl rfl), (tbt1 3 rfl rfl), by decide +kernel, by decide⟩
set_option maxRecDepth 10000 in
theorem mv_X4_isCrossed : MV yX4_isCrossed := ⟨(tbt2 142 rfl rfl), (tbt2 143 rfl rfl)⟩
set_option maxRecDepth 10000 in
theorem mf_X4_find : MF yX4_find cX4_find 6 (some .int) 4 := ⟨(tbt3 15 rfl rfl), (tbt1 3 rfl rfl), by decide +kernel, by decide⟩
set_option maxRecDepth 10000 in
theorem mv_X4_find : MV yX4_find := ⟨(tbt3 13 rfl rfl), (tbt3 14 rfl rfl)⟩
set_option maxRecDepth 10000 in
theorem mf_X4_taken : MF yX4_taken cX4_taken 3 (some .int) 0 := ⟨(tbt2 218 rfl rfl), (tbt1 3 rfl rfl), by decide +kernel, by decide⟩
set_option maxRecDepth 10000 in
theorem mv_X4_taken : MV yX4_taken := ⟨(tbt2 216 rfl rfl), (tbt2 217 rfl rfl)⟩
set_option maxRecDepth 10000 in
theorem mf_X4_highest : MF yX4_highest cX4_highest 3 (some .int) 0 := ⟨(tbt3 28 rfl rfl), (tbt1 3 rfl rfl), by decide +kernel, by decide⟩
set_option maxRecDepth 10000 in
theorem mv_X4_highest : MV yX4_highest := ⟨(tbt3 26 rfl rfl), (tbt3 27 rfl rfl)⟩
set_option maxRecDepth 10000 in
theorem mf_X4_heightOn : MF yX4_heightOn cX4_heightOn 5 (some .int) 2 := ⟨(tbt3 138 rfl rfl), (tbt1 3 rfl rfl), by decide +kernel, by decide⟩
set_option maxRecDepth 10000 in
theorem mv_X4_heightOn : MV yX4_heightOn := ⟨(tbt3 136 rfl rfl), (tbt3 137 rfl rfl)⟩
set_option maxRecDepth 10000 in
theorem mf_X4_turnedDown : MF yX4_turnedDown cX4_turnedDown 3 (some .int) 0 := ⟨(tbt4 154 rfl rfl), (tbt1 3 rfl rfl), by decide +kernel, by decide⟩
set_option maxRecDepth 10000 in
theorem mv_X4_turnedDown : MV yX4_turnedDown := ⟨(tbt4 152 rfl rfl), (tbt4 153 rfl rfl)⟩
set_option maxRecDepth 10000 in
theorem mf_X4_leastX : MF yX4_leastX cX4_leastX 1 (some .int) 0 := ⟨(tbt3 39 rfl rfl), (tbt1 3 rfl rfl), by decide +kernel, by decide⟩
set_option maxRecDepth 10000 in
theorem mv_X4_leastX : MV yX4_leastX := ⟨(tbt3 37 rfl rfl), (tbt3 38 rfl rfl)⟩
set_option maxRecDepth 10000 in
theorem mf_X4_greatestX : MF yX4_greatestX cX4_greatestX 1 (some .int) 0 := ⟨(tbt3 50 rfl rfl), (tbt1 3 rfl rfl), by decide +kernel, by decide⟩
set_option maxRecDepth 10000 in
theorem mv_X4_greatestX : MV yX4_greatestX := ⟨(tbt3 48 rfl rfl), (tbt3 49 rfl rfl)⟩
set_option maxRecDepth 10000 in
theorem mf_X4_leastY : MF yX4_leastY cX4_leastY 1 (some .int) 0 := ⟨(tbt3 58 rfl rfl), (tbt1 3 rfl rfl), by decide +kernel, by decide⟩
set_option maxRecDepth 10000 in
theorem mv_X4_leastY : MV yX4_leastY := ⟨(tbt3 56 rfl rfl), (tbt3 57 rfl rfl)⟩
set_option maxRecDepth 10000 in
theorem mf_X4_greatestY : MF yX4_greatestY cX4_greatestY 1 (some .int) 0 := ⟨(tbt3 62 rfl rfl), (tbt1 3 rfl rfl), by decide +kernel, by decide⟩
set_option maxRecDepth 10000 in
theorem mv_X4_greatestY : MV yX4_greatestY := ⟨(tbt3 60 rfl rfl), (tbt3 61 rfl rfl)⟩
set_option maxRecDepth 10000 in
theorem mf_X4_least : MF yX4_least cX4_least 4 (some .int) 1 := ⟨(tbt3 43 rfl rfl), (tbt1 3 rfl rfl), by decide +kernel, by decide⟩
set_option maxRecDepth 10000 in
theorem mv_X4_least : MV yX4_least := ⟨(tbt3 42 rfl rfl), (tbp1 12 rfl)⟩
set_option maxRecDepth 10000 in
theorem mf_X4_greatest : MF yX4_greatest cX4_greatest 4 (some .int) 1 := ⟨(tbt3 54 rfl rfl), (tbt1 3 rfl rfl), by decide +kernel, by decide⟩
set_option maxRecDepth 10000 in
theorem mv_X4_greatest : MV yX4_greatest := ⟨(tbt3 53 rfl rfl), (tbp1 13 rfl)⟩
set_option maxRecDepth 10000 in
theorem mf_X5_get : MF yX5_get cX5_get 2 (some .int) 2 := ⟨(tbt2 39 rfl rfl), (tbt1 9 rfl rfl), by decide +kernel, by decide⟩
set_option maxRecDepth 10000 in
theorem ms_X5_get : Cond.static yX5_get ∈ TB := (tbt2 38 rfl rfl)
set_option maxRecDepth 10000 in
theorem mf_X5_put : MF yX5_put cX5_put 3 none 3 := ⟨(tbt2 15 rfl rfl), (tbt1 9 rfl rfl), by decide +kernel, by decide⟩
set_option maxRecDepth 10000 in
theorem ms_X5_put : Cond.static yX5_put ∈ TB := (tbt2 14 rfl rfl)
set_option maxRecDepth 10000 in
theorem mf_X5_fill : MF yX5_fill cX5_fill 2 none 2 := ⟨(tbt2 55 rfl rfl), (tbt1 9 rfl rfl), by decide +kernel, by decide⟩
set_option maxRecDepth 10000 in
theorem ms_X5_fill : Cond.static yX5_fill ∈ TB := (tbt2 54 rfl rfl)
set_option maxRecDepth 10000 in
theorem mf_X6_init : MF yX6_init cX6_init 3 none 2 := ⟨(tbt1 159 rfl rfl), (tbt1 7 rfl rfl), by decide +kernel, by decide⟩
set_option maxRecDepth 10000 in
theorem mi_X6_init : Cond.instanceMethod yX6_init ∈ TB := (tbt1 158 rfl rfl)
set_option maxRecDepth 10000 in
theorem mf_X6_forget : MF yX6_forget cX6_forget 1 none 0 := ⟨(tbt2 103 rfl rfl), (tbt1 7 rfl rfl), by decide +kernel, by decide⟩
set_option maxRecDepth 10000 in
theorem mv_X6_forget : MV yX6_forget := ⟨(tbt2 101 rfl rfl), (tbt2 102 rfl rfl)⟩
set_option maxRecDepth 10000 in
theorem mf_X6_solve : MF yX6_solve cX6_solve 2 (some .int) 1 := ⟨(tbt4 9 rfl rfl), (tbt1 7 rfl rfl), by decide +kernel, by decide⟩
set_option maxRecDepth 10000 in
theorem mv_X6_solve : MV yX6_solve := ⟨(tbt4 7 rfl rfl), (tbt4 8 rfl rfl)⟩
set_option maxRecDepth 10000 in
theorem mf_X6_told : MF yX6_told cX6_told 3 (some .int) 2 := ⟨(tbt4 141 rfl rfl), (tbt1 7 rfl rfl), by decide +kernel, by decide⟩
set_option maxRecDepth 10000 in
theorem mv_X6_told : MV yX6_told := ⟨(tbt4 139 rfl rfl), (tbt4 140 rfl rfl)⟩
set_option maxRecDepth 10000 in
theorem mf_X6_tryRows : MF yX6_tryRows cX6_tryRows 2 none 1 := ⟨(tbt4 62 rfl rfl), (tbt1 7 rfl rfl), by decide +kernel, by decide⟩
set_option maxRecDepth 10000 in
theorem mv_X6_tryRows : MV yX6_tryRows := ⟨(tbt4 61 rfl rfl), (tbp2 6 rfl)⟩
set_option maxRecDepth 10000 in
theorem mf_X6_lengthen : MF yX6_lengthen cX6_lengthen 11 none 3 := ⟨(tbt4 65 rfl rfl), (tbt1 7 rfl rfl), by decide +kernel, by decide⟩
set_option maxRecDepth 10000 in
theorem ms_X6_lengthen : Cond.static yX6_lengthen ∈ TB := (tbt4 64 rfl rfl)
set_option maxRecDepth 10000 in
theorem mf_X6_weigh : MF yX6_weigh cX6_weigh 4 none 1 := ⟨(tbt4 69 rfl rfl), (tbt1 7 rfl rfl), by decide +kernel, by decide⟩
set_option maxRecDepth 10000 in
theorem mv_X6_weigh : MV yX6_weigh := ⟨(tbt4 68 rfl rfl), (tbp2 7 rfl)⟩
set_option maxRecDepth 10000 in
theorem mf_X6_tell : MF yX6_tell cX6_tell 3 (some .int) 3 := ⟨(tbt4 90 rfl rfl), (tbt1 7 rfl rfl), by decide +kernel, by decide⟩
set_option maxRecDepth 10000 in
theorem ms_X6_tell : Cond.static yX6_tell ∈ TB := (tbt4 89 rfl rfl)
set_option maxRecDepth 10000 in
theorem mf_X7_init : MF yX7_init cX7_init 1 none 0 := ⟨(tbt1 26 rfl rfl), (tbt1 2 rfl rfl), by decide +kernel, by decide⟩
set_option maxRecDepth 10000 in
theorem mi_X7_init : Cond.instanceMethod yX7_init ∈ TB := (tbt1 25 rfl rfl)
set_option maxRecDepth 10000 in
theorem mf_X7_resize : MF yX7_resize cX7_resize 5 none 1 := ⟨(tbt2 4 rfl rfl), (tbt1 2 rfl rfl), by decide +kernel, by decide⟩
set_option maxRecDepth 10000 in
theorem mv_X7_resize : MV yX7_resize := ⟨(tbt2 2 rfl rfl), (tbt2 3 rfl rfl)⟩
set_option maxRecDepth 10000 in
theorem mf_X7_place : MF yX7_place cX7_place 5 none 3 := ⟨(tbt2 8 rfl rfl), (tbt1 2 rfl rfl), by decide +kernel, by decide⟩
set_option maxRecDepth 10000 in
theorem mv_X7_place : MV yX7_place := ⟨(tbt2 7 rfl rfl), (tbp1 1 rfl)⟩
set_option maxRecDepth 10000 in
theorem mf_X7_across : MF yX7_across cX7_across 6 (some .int) 3 := ⟨(tbt2 19 rfl rfl), (tbt1 2 rfl rfl), by decide +kernel, by decide⟩
set_option maxRecDepth 10000 in
theorem mv_X7_across : MV yX7_across := ⟨(tbt2 18 rfl rfl), (tbp1 2 rfl)⟩
set_option maxRecDepth 10000 in
theorem mf_X7_has : MF yX7_has cX7_has 2 (some .boolean) 1 := ⟨(tbt2 234 rfl rfl), (tbt1 2 rfl rfl), by decide +kernel, by decide⟩
set_option maxRecDepth 10000 in
theorem mv_X7_has : MV yX7_has := ⟨(tbt2 232 rfl rfl), (tbt2 233 rfl rfl)⟩
set_option maxRecDepth 10000 in
theorem mf_X7_hasCell : MF yX7_hasCell cX7_hasCell 3 (some .boolean) 2 := ⟨(tbt2 23 rfl rfl), (tbt1 2 rfl rfl), by decide +kernel, by decide⟩
set_option maxRecDepth 10000 in
theorem mv_X7_hasCell : MV yX7_hasCell := ⟨(tbt2 21 rfl rfl), (tbt2 22 rfl rfl)⟩
set_option maxRecDepth 10000 in
theorem mf_X7_hasPoint : MF yX7_hasPoint cX7_hasPoint 4 (some .boolean) 3 := ⟨(tbt3 108 rfl rfl), (tbt1 2 rfl rfl), by decide +kernel, by decide⟩
set_option maxRecDepth 10000 in
theorem mv_X7_hasPoint : MV yX7_hasPoint := ⟨(tbt3 106 rfl rfl), (tbt3 107 rfl rfl)⟩
set_option maxRecDepth 10000 in
theorem mf_X7_leaf : MF yX7_leaf cX7_leaf 4 (some .int) 3 := ⟨(tbt2 12 rfl rfl), (tbt1 2 rfl rfl), by decide +kernel, by decide⟩
set_option maxRecDepth 10000 in
theorem mv_X7_leaf : MV yX7_leaf := ⟨(tbt2 10 rfl rfl), (tbt2 11 rfl rfl)⟩
set_option maxRecDepth 10000 in
theorem mf_X7_x : MF yX7_x cX7_x 2 (some .int) 1 := ⟨(tbt2 36 rfl rfl), (tbt1 2 rfl rfl), by decide +kernel, by decide⟩
set_option maxRecDepth 10000 in
theorem mv_X7_x : MV yX7_x := ⟨(tbt2 34 rfl rfl), (tbt2 35 rfl rfl)⟩
set_option maxRecDepth 10000 in
theorem mf_X7_y : MF yX7_y cX7_y 2 (some .int) 1 := ⟨(tbt2 44 rfl rfl), (tbt1 2 rfl rfl), by decide +kernel, by decide⟩
set_option maxRecDepth 10000 in
theorem mv_X7_y : MV yX7_y := ⟨(tbt2 42 rfl rfl), (tbt2 43 rfl rfl)⟩
set_option maxRecDepth 10000 in
theorem mf_X7_quarter : MF yX7_quarter cX7_quarter 2 (some .int) 1 := ⟨(tbt2 48 rfl rfl), (tbt1 2 rfl rfl), by decide +kernel, by decide⟩
set_option maxRecDepth 10000 in
theorem mv_X7_quarter : MV yX7_quarter := ⟨(tbt2 46 rfl rfl), (tbt2 47 rfl rfl)⟩
set_option maxRecDepth 10000 in
theorem mf_X7_distance : MF yX7_distance cX7_distance 3 (some .int) 2 := ⟨(tbt4 34 rfl rfl), (tbt1 2 rfl rfl), by decide +kernel, by decide⟩
set_option maxRecDepth 10000 in
theorem mv_X7_distance : MV yX7_distance := ⟨(tbt4 32 rfl rfl), (tbt4 33 rfl rfl)⟩
set_option maxRecDepth 10000 in
theorem mf_X7_beside : MF yX7_beside cX7_beside 3 (some .int) 2 := ⟨(tbt2 90 rfl rfl), (tbt1 2 rfl rfl), by decide +kernel, by decide⟩
set_option maxRecDepth 10000 in
theorem mv_X7_beside : MV yX7_beside := ⟨(tbt2 88 rfl rfl), (tbt2 89 rfl rfl)⟩
set_option maxRecDepth 10000 in
theorem mf_X8_init : MF yX8_init cX8_init 2 none 1 := ⟨(tbt1 114 rfl rfl), (tbt1 5 rfl rfl), by decide +kernel, by decide⟩
set_option maxRecDepth 10000 in
theorem mi_X8_init : Cond.instanceMethod yX8_init ∈ TB := (tbt1 113 rfl rfl)
set_option maxRecDepth 10000 in
theorem mf_X8_mend : MF yX8_mend cX8_mend 1 none 0 := ⟨(tbt2 70 rfl rfl), (tbt1 5 rfl rfl), by decide +kernel, by decide⟩
set_option maxRecDepth 10000 in
theorem mv_X8_mend : MV yX8_mend := ⟨(tbt2 68 rfl rfl), (tbt2 69 rfl rfl)⟩
set_option maxRecDepth 10000 in
theorem mf_X8_drop : MF yX8_drop cX8_drop 7 none 4 := ⟨(tbt3 154 rfl rfl), (tbt1 5 rfl rfl), by decide +kernel, by decide⟩
set_option maxRecDepth 10000 in
theorem mv_X8_drop : MV yX8_drop := ⟨(tbt3 152 rfl rfl), (tbt3 153 rfl rfl)⟩
set_option maxRecDepth 10000 in
theorem mf_X8_isDown : MF yX8_isDown cX8_isDown 2 (some .boolean) 1 := ⟨(tbt2 94 rfl rfl), (tbt1 5 rfl rfl), by decide +kernel, by decide⟩
set_option maxRecDepth 10000 in
theorem mv_X8_isDown : MV yX8_isDown := ⟨(tbt2 92 rfl rfl), (tbt2 93 rfl rfl)⟩
set_option maxRecDepth 10000 in
theorem mf_X8_leastOf : MF yX8_leastOf cX8_leastOf 2 (some .int) 1 := ⟨(tbt2 80 rfl rfl), (tbt1 5 rfl rfl), by decide +kernel, by decide⟩
set_option maxRecDepth 10000 in
theorem mv_X8_leastOf : MV yX8_leastOf := ⟨(tbt2 78 rfl rfl), (tbt2 79 rfl rfl)⟩
set_option maxRecDepth 10000 in
theorem mf_X8_part : MF yX8_part cX8_part 2 none 0 := ⟨(tbt2 75 rfl rfl), (tbt1 5 rfl rfl), by decide +kernel, by decide⟩
set_option maxRecDepth 10000 in
theorem mv_X8_part : MV yX8_part := ⟨(tbt2 74 rfl rfl), (tbp1 6 rfl)⟩
set_option maxRecDepth 10000 in
theorem mf_X8_gather : MF yX8_gather cX8_gather 7 none 1 := ⟨(tbt2 85 rfl rfl), (tbt1 5 rfl rfl), by decide +kernel, by decide⟩
set_option maxRecDepth 10000 in
theorem mv_X8_gather : MV yX8_gather := ⟨(tbt2 84 rfl rfl), (tbp1 7 rfl)⟩
set_option maxRecDepth 10000 in
theorem mf_X8_total : MF yX8_total cX8_total 4 (some .int) 1 := ⟨(tbt3 164 rfl rfl), (tbt1 5 rfl rfl), by decide +kernel, by decide⟩
set_option maxRecDepth 10000 in
theorem mv_X8_total : MV yX8_total := ⟨(tbt3 162 rfl rfl), (tbt3 163 rfl rfl)⟩
set_option maxRecDepth 10000 in
theorem mf_X8_inner : MF yX8_inner cX8_inner 3 (some .int) 0 := ⟨(tbt3 172 rfl rfl), (tbt1 5 rfl rfl), by decide +kernel, by decide⟩
set_option maxRecDepth 10000 in
theorem mv_X8_inner : MV yX8_inner := ⟨(tbt3 170 rfl rfl), (tbt3 171 rfl rfl)⟩
set_option maxRecDepth 10000 in
theorem mf_X8_reachesOut : MF yX8_reachesOut cX8_reachesOut 3 (some .boolean) 1 := ⟨(tbt3 176 rfl rfl), (tbt1 5 rfl rfl), by decide +kernel, by decide⟩
set_option maxRecDepth 10000 in
theorem mv_X8_reachesOut : MV yX8_reachesOut := ⟨(tbt3 175 rfl rfl), (tbp2 0 rfl)⟩
set_option maxRecDepth 10000 in
theorem mf_X8_border : MF yX8_border cX8_border 5 (some .int) 1 := ⟨(tbt3 184 rfl rfl), (tbt1 5 rfl rfl), by decide +kernel, by decide⟩
set_option maxRecDepth 10000 in
theorem mv_X8_border : MV yX8_border := ⟨(tbt3 182 rfl rfl), (tbt3 183 rfl rfl)⟩
set_option maxRecDepth 10000 in
theorem mf_X9_init : MF yX9_init cX9_init 1 none 0 := ⟨(tbt1 18 rfl rfl), (tbt1 1 rfl rfl), by decide +kernel, by decide⟩
set_option maxRecDepth 10000 in
theorem mi_X9_init : Cond.instanceMethod yX9_init ∈ TB := (tbt1 17 rfl rfl)
set_option maxRecDepth 10000 in
theorem mf_X9_sheet : MF yX9_sheet cX9_sheet 3 (some .int) 1 := ⟨(tbt2 130 rfl rfl), (tbt1 1 rfl rfl), by decide +kernel, by decide⟩
set_option maxRecDepth 10000 in
theorem mv_X9_sheet : MV yX9_sheet := ⟨(tbt2 128 rfl rfl), (tbt2 129 rfl rfl)⟩
set_option maxRecDepth 10000 in
theorem mf_X9_fold : MF yX9_fold cX9_fold 5 (some .int) 4 := ⟨(tbt2 134 rfl rfl), (tbt1 1 rfl rfl), by decide +kernel, by decide⟩
set_option maxRecDepth 10000 in
theorem mv_X9_fold : MV yX9_fold := ⟨(tbt2 132 rfl rfl), (tbt2 133 rfl rfl)⟩
set_option maxRecDepth 10000 in
theorem mf_X9_unfold : MF yX9_unfold cX9_unfold 1 (some .int) 0 := ⟨(tbt2 222 rfl rfl), (tbt1 1 rfl rfl), by decide +kernel, by decide⟩
set_option maxRecDepth 10000 in
theorem mv_X9_unfold : MV yX9_unfold := ⟨(tbt2 220 rfl rfl), (tbt2 221 rfl rfl)⟩
set_option maxRecDepth 10000 in
theorem mf_X9_facet : MF yX9_facet cX9_facet 3 (some .int) 2 := ⟨(tbt2 230 rfl rfl), (tbt1 1 rfl rfl), by decide +kernel, by decide⟩
set_option maxRecDepth 10000 in
theorem mv_X9_facet : MV yX9_facet := ⟨(tbt2 228 rfl rfl), (tbt2 229 rfl rfl)⟩
set_option maxRecDepth 10000 in
theorem mf_X9_at : MF yX9_at cX9_at 5 (some .int) 4 := ⟨(tbt3 11 rfl rfl), (tbt1 1 rfl rfl), by decide +kernel, by decide⟩
set_option maxRecDepth 10000 in
theorem mv_X9_at : MV yX9_at := ⟨(tbt3 9 rfl rfl), (tbt3 10 rfl rfl)⟩
set_option maxRecDepth 10000 in
theorem mf_X9_places : MF yX9_places cX9_places 1 (some .int) 0 := ⟨(tbt3 20 rfl rfl), (tbt1 1 rfl rfl), by decide +kernel, by decide⟩
set_option maxRecDepth 10000 in
theorem mv_X9_places : MV yX9_places := ⟨(tbt3 18 rfl rfl), (tbt3 19 rfl rfl)⟩
set_option maxRecDepth 10000 in
theorem mf_X9_deepest : MF yX9_deepest cX9_deepest 1 (some .int) 0 := ⟨(tbt3 24 rfl rfl), (tbt1 1 rfl rfl), by decide +kernel, by decide⟩
set_option maxRecDepth 10000 in
theorem mv_X9_deepest : MV yX9_deepest := ⟨(tbt3 22 rfl rfl), (tbt3 23 rfl rfl)⟩
set_option maxRecDepth 10000 in
theorem mf_X9_reach : MF yX9_reach cX9_reach 2 (some .int) 1 := ⟨(tbt3 35 rfl rfl), (tbt1 1 rfl rfl), by decide +kernel, by decide⟩
set_option maxRecDepth 10000 in
theorem mv_X9_reach : MV yX9_reach := ⟨(tbt3 33 rfl rfl), (tbt3 34 rfl rfl)⟩
set_option maxRecDepth 10000 in
theorem mf_X9_folds : MF yX9_folds cX9_folds 1 (some .int) 0 := ⟨(tbt3 66 rfl rfl), (tbt1 1 rfl rfl), by decide +kernel, by decide⟩
set_option maxRecDepth 10000 in
theorem mv_X9_folds : MV yX9_folds := ⟨(tbt3 64 rfl rfl), (tbt3 65 rfl rfl)⟩
set_option maxRecDepth 10000 in
theorem mf_X9_crease : MF yX9_crease cX9_crease 3 (some .int) 2 := ⟨(tbt3 70 rfl rfl), (tbt1 1 rfl rfl), by decide +kernel, by decide⟩
set_option maxRecDepth 10000 in
theorem mv_X9_crease : MV yX9_crease := ⟨(tbt3 68 rfl rfl), (tbt3 69 rfl rfl)⟩
set_option maxRecDepth 10000 in
theorem mf_X9_neighbour : MF yX9_neighbour cX9_neighbour 3 (some .int) 2 := ⟨(tbt3 85 rfl rfl), (tbt1 1 rfl rfl), by decide +kernel, by decide⟩
set_option maxRecDepth 10000 in
theorem mv_X9_neighbour : MV yX9_neighbour := ⟨(tbt3 83 rfl rfl), (tbt3 84 rfl rfl)⟩
set_option maxRecDepth 10000 in
theorem mf_X9_creases : MF yX9_creases cX9_creases 2 (some .int) 1 := ⟨(tbt3 90 rfl rfl), (tbt1 1 rfl rfl), by decide +kernel, by decide⟩
set_option maxRecDepth 10000 in
theorem mv_X9_creases : MV yX9_creases := ⟨(tbt3 88 rfl rfl), (tbt3 89 rfl rfl)⟩
set_option maxRecDepth 10000 in
theorem mf_X9_balance : MF yX9_balance cX9_balance 4 (some .int) 3 := ⟨(tbt3 104 rfl rfl), (tbt1 1 rfl rfl), by decide +kernel, by decide⟩
set_option maxRecDepth 10000 in
theorem mv_X9_balance : MV yX9_balance := ⟨(tbt3 102 rfl rfl), (tbt3 103 rfl rfl)⟩
set_option maxRecDepth 10000 in
theorem mf_X9_degree : MF yX9_degree cX9_degree 4 (some .int) 3 := ⟨(tbt3 126 rfl rfl), (tbt1 1 rfl rfl), by decide +kernel, by decide⟩
set_option maxRecDepth 10000 in
theorem mv_X9_degree : MV yX9_degree := ⟨(tbt3 124 rfl rfl), (tbt3 125 rfl rfl)⟩
set_option maxRecDepth 10000 in
theorem mf_X9_knife : MF yX9_knife cX9_knife 3 (some .int) 1 := ⟨(tbt3 130 rfl rfl), (tbt1 1 rfl rfl), by decide +kernel, by decide⟩
set_option maxRecDepth 10000 in
theorem mv_X9_knife : MV yX9_knife := ⟨(tbt3 128 rfl rfl), (tbt3 129 rfl rfl)⟩
set_option maxRecDepth 10000 in
theorem mf_X9_thickness : MF yX9_thickness cX9_thickness 3 (some .int) 2 := ⟨(tbt3 134 rfl rfl), (tbt1 1 rfl rfl), by decide +kernel, by decide⟩
set_option maxRecDepth 10000 in
theorem mv_X9_thickness : MV yX9_thickness := ⟨(tbt3 132 rfl rfl), (tbt3 133 rfl rfl)⟩
set_option maxRecDepth 10000 in
theorem mf_X9_would : MF yX9_would cX9_would 4 (some .int) 3 := ⟨(tbt3 145 rfl rfl), (tbt1 1 rfl rfl), by decide +kernel, by decide⟩
set_option maxRecDepth 10000 in
theorem mv_X9_would : MV yX9_would := ⟨(tbt3 143 rfl rfl), (tbt3 144 rfl rfl)⟩
set_option maxRecDepth 10000 in
theorem mf_X9_cut : MF yX9_cut cX9_cut 4 (some .int) 3 := ⟨(tbt3 150 rfl rfl), (tbt1 1 rfl rfl), by decide +kernel, by decide⟩
set_option maxRecDepth 10000 in
theorem mv_X9_cut : MV yX9_cut := ⟨(tbt3 148 rfl rfl), (tbt3 149 rfl rfl)⟩
set_option maxRecDepth 10000 in
theorem mf_X9_pieces : MF yX9_pieces cX9_pieces 2 (some .int) 1 := ⟨(tbt3 160 rfl rfl), (tbt1 1 rfl rfl), by decide +kernel, by decide⟩
set_option maxRecDepth 10000 in
theorem mv_X9_pieces : MV yX9_pieces := ⟨(tbt3 158 rfl rfl), (tbt3 159 rfl rfl)⟩
set_option maxRecDepth 10000 in
theorem mf_X9_holes : MF yX9_holes cX9_holes 1 (some .int) 0 := ⟨(tbt3 168 rfl rfl), (tbt1 1 rfl rfl), by decide +kernel, by decide⟩
set_option maxRecDepth 10000 in
theorem mv_X9_holes : MV yX9_holes := ⟨(tbt3 166 rfl rfl), (tbt3 167 rfl rfl)⟩
set_option maxRecDepth 10000 in
theorem mf_X9_rims : MF yX9_rims cX9_rims 2 (some .int) 1 := ⟨(tbt3 180 rfl rfl), (tbt1 1 rfl rfl), by decide +kernel, by decide⟩
set_option maxRecDepth 10000 in
theorem mv_X9_rims : MV yX9_rims := ⟨(tbt3 178 rfl rfl), (tbt3 179 rfl rfl)⟩
set_option maxRecDepth 10000 in
theorem mf_X9_piece : MF yX9_piece cX9_piece 2 (some .int) 1 := ⟨(tbt3 188 rfl rfl), (tbt1 1 rfl rfl), by decide +kernel, by decide⟩
set_option maxRecDepth 10000 in
theorem mv_X9_piece : MV yX9_piece := ⟨(tbt3 186 rfl rfl), (tbt3 187 rfl rfl)⟩
set_option maxRecDepth 10000 in
theorem mf_X9_mark : MF yX9_mark cX9_mark 4 (some .int) 2 := ⟨(tbt3 193 rfl rfl), (tbt1 1 rfl rfl), by decide +kernel, by decide⟩
set_option maxRecDepth 10000 in
theorem mv_X9_mark : MV yX9_mark := ⟨(tbt3 191 rfl rfl), (tbt3 192 rfl rfl)⟩
set_option maxRecDepth 10000 in
theorem mf_X9_markCell : MF yX9_markCell cX9_markCell 5 (some .int) 3 := ⟨(tbt3 207 rfl rfl), (tbt1 1 rfl rfl), by decide +kernel, by decide⟩
set_option maxRecDepth 10000 in
theorem mv_X9_markCell : MV yX9_markCell := ⟨(tbt3 205 rfl rfl), (tbt3 206 rfl rfl)⟩
set_option maxRecDepth 10000 in
theorem mf_X9_take : MF yX9_take cX9_take 2 (some .int) 0 := ⟨(tbt3 213 rfl rfl), (tbt1 1 rfl rfl), by decide +kernel, by decide⟩
set_option maxRecDepth 10000 in
theorem mv_X9_take : MV yX9_take := ⟨(tbt3 211 rfl rfl), (tbt3 212 rfl rfl)⟩
set_option maxRecDepth 10000 in
theorem mf_X9_same : MF yX9_same cX9_same 2 (some .int) 0 := ⟨(tbt3 217 rfl rfl), (tbt1 1 rfl rfl), by decide +kernel, by decide⟩
set_option maxRecDepth 10000 in
theorem mv_X9_same : MV yX9_same := ⟨(tbt3 215 rfl rfl), (tbt3 216 rfl rfl)⟩
set_option maxRecDepth 10000 in
theorem mf_X9_mirror : MF yX9_mirror cX9_mirror 3 (some .int) 2 := ⟨(tbt3 221 rfl rfl), (tbt1 1 rfl rfl), by decide +kernel, by decide⟩
set_option maxRecDepth 10000 in
theorem mv_X9_mirror : MV yX9_mirror := ⟨(tbt3 219 rfl rfl), (tbt3 220 rfl rfl)⟩
set_option maxRecDepth 10000 in
theorem mf_X9_mirrors : MF yX9_mirrors cX9_mirrors 4 (some .int) 0 := ⟨(tbt3 238 rfl rfl), (tbt1 1 rfl rfl), by decide +kernel, by decide⟩
set_option maxRecDepth 10000 in
theorem mv_X9_mirrors : MV yX9_mirrors := ⟨(tbt3 236 rfl rfl), (tbt3 237 rfl rfl)⟩
set_option maxRecDepth 10000 in
theorem mf_X9_fewest : MF yX9_fewest cX9_fewest 2 (some .int) 1 := ⟨(tbt4 2 rfl rfl), (tbt1 1 rfl rfl), by decide +kernel, by decide⟩
set_option maxRecDepth 10000 in
theorem mv_X9_fewest : MV yX9_fewest := ⟨(tbt4 0 rfl rfl), (tbt4 1 rfl rfl)⟩
set_option maxRecDepth 10000 in
theorem mf_X9_way : MF yX9_way cX9_way 4 (some .int) 2 := ⟨(tbt4 137 rfl rfl), (tbt1 1 rfl rfl), by decide +kernel, by decide⟩
set_option maxRecDepth 10000 in
theorem mv_X9_way : MV yX9_way := ⟨(tbt4 135 rfl rfl), (tbt4 136 rfl rfl)⟩
set_option maxRecDepth 10000 in
theorem mf_X9_ways : MF yX9_ways cX9_ways 3 (some .int) 1 := ⟨(tbt4 145 rfl rfl), (tbt1 1 rfl rfl), by decide +kernel, by decide⟩
set_option maxRecDepth 10000 in
theorem mv_X9_ways : MV yX9_ways := ⟨(tbt4 143 rfl rfl), (tbt4 144 rfl rfl)⟩
set_option maxRecDepth 10000 in
theorem mf_X9_count : MF yX9_count cX9_count 2 (some .int) 1 := ⟨(tbt4 150 rfl rfl), (tbt1 1 rfl rfl), by decide +kernel, by decide⟩
set_option maxRecDepth 10000 in
theorem mv_X9_count : MV yX9_count := ⟨(tbt4 148 rfl rfl), (tbt4 149 rfl rfl)⟩
set_option maxRecDepth 10000 in
theorem mf_X9_begin : MF yX9_begin cX9_begin 2 none 1 := ⟨(tbt2 0 rfl rfl), (tbt1 1 rfl rfl), by decide +kernel, by decide⟩
set_option maxRecDepth 10000 in
theorem mv_X9_begin : MV yX9_begin := ⟨(tbt1 239 rfl rfl), (tbp1 0 rfl)⟩
set_option maxRecDepth 10000 in
theorem mf_X9_draw : MF yX9_draw cX9_draw 3 none 2 := ⟨(tbt3 197 rfl rfl), (tbt1 1 rfl rfl), by decide +kernel, by decide⟩
set_option maxRecDepth 10000 in
theorem mv_X9_draw : MV yX9_draw := ⟨(tbt3 196 rfl rfl), (tbp2 1 rfl)⟩
set_option maxRecDepth 10000 in
theorem mf_X9_yes : MF yX9_yes cX9_yes 1 (some .int) 1 := ⟨(tbt2 173 rfl rfl), (tbt1 1 rfl rfl), by decide +kernel, by decide⟩
set_option maxRecDepth 10000 in
theorem ms_X9_yes : Cond.static yX9_yes ∈ TB := (tbt2 172 rfl rfl)
set_option maxRecDepth 10000 in
theorem mf_X9_isEdge : MF yX9_isEdge cX9_isEdge 1 (some .boolean) 1 := ⟨(tbt3 73 rfl rfl), (tbt1 1 rfl rfl), by decide +kernel, by decide⟩
set_option maxRecDepth 10000 in
theorem ms_X9_isEdge : Cond.static yX9_isEdge ∈ TB := (tbt3 72 rfl rfl)
set_option maxRecDepth 10000 in
theorem mf_X9_isWayLength : MF yX9_isWayLength cX9_isWayLength 1 (some .boolean) 1 := ⟨(tbt4 5 rfl rfl), (tbt1 1 rfl rfl), by decide +kernel, by decide⟩
set_option maxRecDepth 10000 in
theorem ms_X9_isWayLength : Cond.static yX9_isWayLength ∈ TB := (tbt4 4 rfl rfl)
set_option maxRecDepth 10000 in
theorem mf_X10_init : MF yX10_init cX10_init 1 none 0 := ⟨(tbt4 159 rfl rfl), (tbt1 12 rfl rfl), by decide +kernel, by decide⟩
set_option maxRecDepth 10000 in
theorem mi_X10_init : Cond.instanceMethod yX10_init ∈ TB := (tbt4 158 rfl rfl)
set_option maxRecDepth 10000 in
theorem mf_X10_in : MF yX10_in cX10_in 6 (some .boolean) 3 := ⟨(tbt5 43 rfl rfl), (tbt1 12 rfl rfl), by decide +kernel, by decide⟩
set_option maxRecDepth 10000 in
theorem ms_X10_in : Cond.static yX10_in ∈ TB := (tbt5 42 rfl rfl)
set_option maxRecDepth 10000 in
theorem mf_X10_facets : MF yX10_facets cX10_facets 1 (some .int) 0 := ⟨(tbt4 168 rfl rfl), (tbt1 12 rfl rfl), by decide +kernel, by decide⟩
set_option maxRecDepth 10000 in
theorem mv_X10_facets : MV yX10_facets := ⟨(tbt4 167 rfl rfl), (tbp2 15 rfl)⟩
set_option maxRecDepth 10000 in
theorem mf_X10_noFacet : MF yX10_noFacet cX10_noFacet 2 (some .boolean) 1 := ⟨(tbt5 92 rfl rfl), (tbt1 12 rfl rfl), by decide +kernel, by decide⟩
set_option maxRecDepth 10000 in
theorem mv_X10_noFacet : MV yX10_noFacet := ⟨(tbt5 91 rfl rfl), (tbp3 5 rfl)⟩
set_option maxRecDepth 10000 in
theorem mf_X10_noLine : MF yX10_noLine cX10_noLine 2 (some .boolean) 2 := ⟨(tbt5 50 rfl rfl), (tbt1 12 rfl rfl), by decide +kernel, by decide⟩
set_option maxRecDepth 10000 in
theorem ms_X10_noLine : Cond.static yX10_noLine ∈ TB := (tbt5 49 rfl rfl)
set_option maxRecDepth 10000 in
theorem mf_X10_begin : MF yX10_begin cX10_begin 4 none 1 := ⟨(tbt4 164 rfl rfl), (tbt1 12 rfl rfl), by decide +kernel, by decide⟩
set_option maxRecDepth 10000 in
theorem mv_X10_begin : MV yX10_begin := ⟨(tbt4 163 rfl rfl), (tbp2 14 rfl)⟩
set_option maxRecDepth 10000 in
theorem mf_X10_along : MF yX10_along cX10_along 8 (some .int) 4 := ⟨(tbt5 59 rfl rfl), (tbt1 12 rfl rfl), by decide +kernel, by decide⟩
set_option maxRecDepth 10000 in
theorem ms_X10_along : Cond.static yX10_along ∈ TB := (tbt5 58 rfl rfl)
set_option maxRecDepth 10000 in
theorem mf_X10_sideOf : MF yX10_sideOf cX10_sideOf 5 (some .int) 5 := ⟨(tbt5 56 rfl rfl), (tbt1 12 rfl rfl), by decide +kernel, by decide⟩
set_option maxRecDepth 10000 in
theorem ms_X10_sideOf : Cond.static yX10_sideOf ∈ TB := (tbt5 55 rfl rfl)
set_option maxRecDepth 10000 in
theorem mf_X10_turn : MF yX10_turn cX10_turn 6 none 5 := ⟨(tbt5 72 rfl rfl), (tbt1 12 rfl rfl), by decide +kernel, by decide⟩
set_option maxRecDepth 10000 in
theorem mv_X10_turn : MV yX10_turn := ⟨(tbt5 71 rfl rfl), (tbp3 2 rfl)⟩
set_option maxRecDepth 10000 in
theorem mf_X10_isThere : MF yX10_isThere cX10_isThere 5 (some .boolean) 4 := ⟨(tbt5 76 rfl rfl), (tbt1 12 rfl rfl), by decide +kernel, by decide⟩
set_option maxRecDepth 10000 in
theorem mv_X10_isThere : MV yX10_isThere := ⟨(tbt5 75 rfl rfl), (tbp3 3 rfl)⟩
set_option maxRecDepth 10000 in
theorem mf_X10_deepOf : MF yX10_deepOf cX10_deepOf 6 (some .int) 3 := ⟨(tbt5 96 rfl rfl), (tbt1 12 rfl rfl), by decide +kernel, by decide⟩
set_option maxRecDepth 10000 in
theorem mv_X10_deepOf : MV yX10_deepOf := ⟨(tbt5 95 rfl rfl), (tbp3 6 rfl)⟩
set_option maxRecDepth 10000 in
theorem mf_X10_placesOf : MF yX10_placesOf cX10_placesOf 3 (some .int) 0 := ⟨(tbt5 80 rfl rfl), (tbt1 12 rfl rfl), by decide +kernel, by decide⟩
set_option maxRecDepth 10000 in
theorem mv_X10_placesOf : MV yX10_placesOf := ⟨(tbt5 79 rfl rfl), (tbp3 4 rfl)⟩
set_option maxRecDepth 10000 in
theorem mf_X10_nextTo : MF yX10_nextTo cX10_nextTo 6 (some .int) 2 := ⟨(tbt5 67 rfl rfl), (tbt1 12 rfl rfl), by decide +kernel, by decide⟩
set_option maxRecDepth 10000 in
theorem mv_X10_nextTo : MV yX10_nextTo := ⟨(tbt5 66 rfl rfl), (tbp3 1 rfl)⟩
set_option maxRecDepth 10000 in
theorem mf_X10_sheet : MF yX10_sheet cX10_sheet 3 (some .int) 1 := ⟨(tbt5 39 rfl rfl), (tbt1 12 rfl rfl), by decide +kernel, by decide⟩
set_option maxRecDepth 10000 in
theorem mv_X10_sheet : MV yX10_sheet := ⟨(tbt5 37 rfl rfl), (tbt5 38 rfl rfl)⟩
set_option maxRecDepth 10000 in
theorem mf_X10_keep : MF yX10_keep cX10_keep 4 none 0 := ⟨(tbt5 63 rfl rfl), (tbt1 12 rfl rfl), by decide +kernel, by decide⟩
set_option maxRecDepth 10000 in
theorem mv_X10_keep : MV yX10_keep := ⟨(tbt5 62 rfl rfl), (tbp3 0 rfl)⟩
set_option maxRecDepth 10000 in
theorem mf_X10_fold : MF yX10_fold cX10_fold 12 (some .int) 4 := ⟨(tbt5 47 rfl rfl), (tbt1 12 rfl rfl), by decide +kernel, by decide⟩
set_option maxRecDepth 10000 in
theorem mv_X10_fold : MV yX10_fold := ⟨(tbt5 45 rfl rfl), (tbt5 46 rfl rfl)⟩
set_option maxRecDepth 10000 in
theorem mf_X10_unfold : MF yX10_unfold cX10_unfold 4 (some .int) 0 := ⟨(tbt5 84 rfl rfl), (tbt1 12 rfl rfl), by decide +kernel, by decide⟩
set_option maxRecDepth 10000 in
theorem mv_X10_unfold : MV yX10_unfold := ⟨(tbt5 82 rfl rfl), (tbt5 83 rfl rfl)⟩
set_option maxRecDepth 10000 in
theorem mf_X10_facet : MF yX10_facet cX10_facet 3 (some .int) 2 := ⟨(tbt5 88 rfl rfl), (tbt1 12 rfl rfl), by decide +kernel, by decide⟩
set_option maxRecDepth 10000 in
theorem mv_X10_facet : MV yX10_facet := ⟨(tbt5 86 rfl rfl), (tbt5 87 rfl rfl)⟩
set_option maxRecDepth 10000 in
theorem mf_X10_at : MF yX10_at cX10_at 6 (some .int) 4 := ⟨(tbt5 100 rfl rfl), (tbt1 12 rfl rfl), by decide +kernel, by decide⟩
set_option maxRecDepth 10000 in
theorem mv_X10_at : MV yX10_at := ⟨(tbt5 98 rfl rfl), (tbt5 99 rfl rfl)⟩
set_option maxRecDepth 10000 in
theorem mf_X10_places : MF yX10_places cX10_places 1 (some .int) 0 := ⟨(tbt5 104 rfl rfl), (tbt1 12 rfl rfl), by decide +kernel, by decide⟩
set_option maxRecDepth 10000 in
theorem mv_X10_places : MV yX10_places := ⟨(tbt5 102 rfl rfl), (tbt5 103 rfl rfl)⟩
set_option maxRecDepth 10000 in
theorem mf_X10_deepest : MF yX10_deepest cX10_deepest 3 (some .int) 0 := ⟨(tbt5 108 rfl rfl), (tbt1 12 rfl rfl), by decide +kernel, by decide⟩
set_option maxRecDepth 10000 in
theorem mv_X10_deepest : MV yX10_deepest := ⟨(tbt5 106 rfl rfl), (tbt5 107 rfl rfl)⟩
set_option maxRecDepth 10000 in
theorem mf_X10_reach : MF yX10_reach cX10_reach 5 (some .int) 1 := ⟨(tbt5 112 rfl rfl), (tbt1 12 rfl rfl), by decide +kernel, by decide⟩
set_option maxRecDepth 10000 in
theorem mv_X10_reach : MV yX10_reach := ⟨(tbt5 110 rfl rfl), (tbt5 111 rfl rfl)⟩
set_option maxRecDepth 10000 in
theorem mf_X10_folds : MF yX10_folds cX10_folds 1 (some .int) 0 := ⟨(tbt5 116 rfl rfl), (tbt1 12 rfl rfl), by decide +kernel, by decide⟩
set_option maxRecDepth 10000 in
theorem mv_X10_folds : MV yX10_folds := ⟨(tbt5 114 rfl rfl), (tbt5 115 rfl rfl)⟩
set_option maxRecDepth 10000 in
theorem mf_X10_crease : MF yX10_crease cX10_crease 3 (some .int) 2 := ⟨(tbt5 120 rfl rfl), (tbt1 12 rfl rfl), by decide +kernel, by decide⟩
set_option maxRecDepth 10000 in
theorem mv_X10_crease : MV yX10_crease := ⟨(tbt5 118 rfl rfl), (tbt5 119 rfl rfl)⟩
set_option maxRecDepth 10000 in
theorem mf_X10_neighbour : MF yX10_neighbour cX10_neighbour 3 (some .int) 2 := ⟨(tbt5 125 rfl rfl), (tbt1 12 rfl rfl), by decide +kernel, by decide⟩
set_option maxRecDepth 10000 in
theorem mv_X10_neighbour : MV yX10_neighbour := ⟨(tbt5 123 rfl rfl), (tbt5 124 rfl rfl)⟩
set_option maxRecDepth 10000 in
theorem mf_X10_creases : MF yX10_creases cX10_creases 6 (some .int) 1 := ⟨(tbt5 129 rfl rfl), (tbt1 12 rfl rfl), by decide +kernel, by decide⟩
set_option maxRecDepth 10000 in
theorem mv_X10_creases : MV yX10_creases := ⟨(tbt5 127 rfl rfl), (tbt5 128 rfl rfl)⟩
set_option maxRecDepth 10000 in
theorem mf_X10_slant : MF yX10_slant cX10_slant 4 (some .int) 3 := ⟨(tbt5 145 rfl rfl), (tbt1 12 rfl rfl), by decide +kernel, by decide⟩
set_option maxRecDepth 10000 in
theorem mv_X10_slant : MV yX10_slant := ⟨(tbt5 144 rfl rfl), (tbp3 9 rfl)⟩
set_option maxRecDepth 10000 in
theorem mf_X10_outer : MF yX10_outer cX10_outer 4 (some .int) 3 := ⟨(tbt5 149 rfl rfl), (tbt1 12 rfl rfl), by decide +kernel, by decide⟩
set_option maxRecDepth 10000 in
theorem mv_X10_outer : MV yX10_outer := ⟨(tbt5 148 rfl rfl), (tbp3 10 rfl)⟩
set_option maxRecDepth 10000 in
theorem mf_X10_ends : MF yX10_ends cX10_ends 5 (some .int) 4 := ⟨(tbt5 141 rfl rfl), (tbt1 12 rfl rfl), by decide +kernel, by decide⟩
set_option maxRecDepth 10000 in
theorem mv_X10_ends : MV yX10_ends := ⟨(tbt5 140 rfl rfl), (tbp3 8 rfl)⟩
set_option maxRecDepth 10000 in
theorem mf_X10_noPoint : MF yX10_noPoint cX10_noPoint 5 (some .boolean) 3 := ⟨(tbt5 137 rfl rfl), (tbt1 12 rfl rfl), by decide +kernel, by decide⟩
set_option maxRecDepth 10000 in
theorem mv_X10_noPoint : MV yX10_noPoint := ⟨(tbt5 136 rfl rfl), (tbp3 7 rfl)⟩
set_option maxRecDepth 10000 in
theorem mf_X10_balance : MF yX10_balance cX10_balance 7 (some .int) 3 := ⟨(tbt5 133 rfl rfl), (tbt1 12 rfl rfl), by decide +kernel, by decide⟩
set_option maxRecDepth 10000 in
theorem mv_X10_balance : MV yX10_balance := ⟨(tbt5 131 rfl rfl), (tbt5 132 rfl rfl)⟩
set_option maxRecDepth 10000 in
theorem mf_X10_degree : MF yX10_degree cX10_degree 6 (some .int) 3 := ⟨(tbt5 153 rfl rfl), (tbt1 12 rfl rfl), by decide +kernel, by decide⟩
set_option maxRecDepth 10000 in
theorem mv_X10_degree : MV yX10_degree := ⟨(tbt5 151 rfl rfl), (tbt5 152 rfl rfl)⟩
set_option maxRecDepth 10000 in
theorem mf_X10_knife : MF yX10_knife cX10_knife 3 (some .int) 1 := ⟨(tbt5 157 rfl rfl), (tbt1 12 rfl rfl), by decide +kernel, by decide⟩
set_option maxRecDepth 10000 in
theorem mv_X10_knife : MV yX10_knife := ⟨(tbt5 155 rfl rfl), (tbt5 156 rfl rfl)⟩
set_option maxRecDepth 10000 in
theorem mf_X10_touches : MF yX10_touches cX10_touches 5 (some .boolean) 3 := ⟨(tbt5 170 rfl rfl), (tbt1 12 rfl rfl), by decide +kernel, by decide⟩
set_option maxRecDepth 10000 in
theorem mv_X10_touches : MV yX10_touches := ⟨(tbt5 169 rfl rfl), (tbp3 12 rfl)⟩
set_option maxRecDepth 10000 in
theorem mf_X10_thickOf : MF yX10_thickOf cX10_thickOf 5 (some .int) 2 := ⟨(tbt5 166 rfl rfl), (tbt1 12 rfl rfl), by decide +kernel, by decide⟩
set_option maxRecDepth 10000 in
theorem mv_X10_thickOf : MV yX10_thickOf := ⟨(tbt5 165 rfl rfl), (tbp3 11 rfl)⟩
set_option maxRecDepth 10000 in
theorem mf_X10_thickness : MF yX10_thickness cX10_thickness 3 (some .int) 2 := ⟨(tbt5 162 rfl rfl), (tbt1 12 rfl rfl), by decide +kernel, by decide⟩
set_option maxRecDepth 10000 in
theorem mv_X10_thickness : MV yX10_thickness := ⟨(tbt5 160 rfl rfl), (tbt5 161 rfl rfl)⟩
set_option maxRecDepth 10000 in
theorem mf_X10_fallsOf : MF yX10_fallsOf cX10_fallsOf 6 (some .int) 3 := ⟨(tbt5 178 rfl rfl), (tbt1 12 rfl rfl), by decide +kernel, by decide⟩
set_option maxRecDepth 10000 in
theorem mv_X10_fallsOf : MV yX10_fallsOf := ⟨(tbt5 177 rfl rfl), (tbp3 13 rfl)⟩
set_option maxRecDepth 10000 in
theorem mf_X10_would : MF yX10_would cX10_would 4 (some .int) 3 := ⟨(tbt5 174 rfl rfl), (tbt1 12 rfl rfl), by decide +kernel, by decide⟩
set_option maxRecDepth 10000 in
theorem mv_X10_would : MV yX10_would := ⟨(tbt5 172 rfl rfl), (tbt5 173 rfl rfl)⟩
set_option maxRecDepth 10000 in
theorem mf_X10_cut : MF yX10_cut cX10_cut 5 (some .int) 3 := ⟨(tbt5 182 rfl rfl), (tbt1 12 rfl rfl), by decide +kernel, by decide⟩
set_option maxRecDepth 10000 in
theorem mv_X10_cut : MV yX10_cut := ⟨(tbt5 180 rfl rfl), (tbt5 181 rfl rfl)⟩
set_option maxRecDepth 10000 in
theorem mf_X10_hang : MF yX10_hang cX10_hang 5 none 0 := ⟨(tbt5 190 rfl rfl), (tbt1 12 rfl rfl), by decide +kernel, by decide⟩
set_option maxRecDepth 10000 in
theorem mv_X10_hang : MV yX10_hang := ⟨(tbt5 189 rfl rfl), (tbp3 14 rfl)⟩
set_option maxRecDepth 10000 in
theorem mf_X10_pieces : MF yX10_pieces cX10_pieces 4 (some .int) 1 := ⟨(tbt5 186 rfl rfl), (tbt1 12 rfl rfl), by decide +kernel, by decide⟩
set_option maxRecDepth 10000 in
theorem mv_X10_pieces : MV yX10_pieces := ⟨(tbt5 184 rfl rfl), (tbt5 185 rfl rfl)⟩
set_option maxRecDepth 10000 in
theorem mf_X10_holes : MF yX10_holes cX10_holes 5 (some .int) 0 := ⟨(tbt5 194 rfl rfl), (tbt1 12 rfl rfl), by decide +kernel, by decide⟩
set_option maxRecDepth 10000 in
theorem mv_X10_holes : MV yX10_holes := ⟨(tbt5 192 rfl rfl), (tbt5 193 rfl rfl)⟩
set_option maxRecDepth 10000 in
theorem mf_X10_rims : MF yX10_rims cX10_rims 6 (some .int) 1 := ⟨(tbt5 198 rfl rfl), (tbt1 12 rfl rfl), by decide +kernel, by decide⟩
set_option maxRecDepth 10000 in
theorem mv_X10_rims : MV yX10_rims := ⟨(tbt5 196 rfl rfl), (tbt5 197 rfl rfl)⟩
set_option maxRecDepth 10000 in
theorem mf_X10_piece : MF yX10_piece cX10_piece 2 (some .int) 1 := ⟨(tbt5 202 rfl rfl), (tbt1 12 rfl rfl), by decide +kernel, by decide⟩
set_option maxRecDepth 10000 in
theorem mv_X10_piece : MV yX10_piece := ⟨(tbt5 200 rfl rfl), (tbt5 201 rfl rfl)⟩
set_option maxRecDepth 10000 in
theorem mf_X10_marked : MF yX10_marked cX10_marked 3 (some .int) 0 := ⟨(tbt5 214 rfl rfl), (tbt1 12 rfl rfl), by decide +kernel, by decide⟩
set_option maxRecDepth 10000 in
theorem mv_X10_marked : MV yX10_marked := ⟨(tbt5 213 rfl rfl), (tbp3 15 rfl)⟩
set_option maxRecDepth 10000 in
theorem mf_X10_mark : MF yX10_mark cX10_mark 4 (some .int) 2 := ⟨(tbt5 206 rfl rfl), (tbt1 12 rfl rfl), by decide +kernel, by decide⟩
set_option maxRecDepth 10000 in
theorem mv_X10_mark : MV yX10_mark := ⟨(tbt5 204 rfl rfl), (tbt5 205 rfl rfl)⟩
set_option maxRecDepth 10000 in
theorem mf_X10_markCell : MF yX10_markCell cX10_markCell 5 (some .int) 3 := ⟨(tbt5 210 rfl rfl), (tbt1 12 rfl rfl), by decide +kernel, by decide⟩
set_option maxRecDepth 10000 in
theorem mv_X10_markCell : MV yX10_markCell := ⟨(tbt5 208 rfl rfl), (tbt5 209 rfl rfl)⟩
set_option maxRecDepth 10000 in
theorem mf_X10_take : MF yX10_take cX10_take 2 (some .int) 0 := ⟨(tbt5 218 rfl rfl), (tbt1 12 rfl rfl), by decide +kernel, by decide⟩
set_option maxRecDepth 10000 in
theorem mv_X10_take : MV yX10_take := ⟨(tbt5 216 rfl rfl), (tbt5 217 rfl rfl)⟩
set_option maxRecDepth 10000 in
theorem mf_X10_same : MF yX10_same cX10_same 3 (some .int) 0 := ⟨(tbt5 222 rfl rfl), (tbt1 12 rfl rfl), by decide +kernel, by decide⟩
set_option maxRecDepth 10000 in
theorem mv_X10_same : MV yX10_same := ⟨(tbt5 220 rfl rfl), (tbt5 221 rfl rfl)⟩
set_option maxRecDepth 10000 in
theorem mf_X10_isMirror : MF yX10_isMirror cX10_isMirror 5 (some .boolean) 2 := ⟨(tbt5 230 rfl rfl), (tbt1 12 rfl rfl), by decide +kernel, by decide⟩
set_option maxRecDepth 10000 in
theorem mv_X10_isMirror : MV yX10_isMirror := ⟨(tbt5 229 rfl rfl), (tbp4 0 rfl)⟩
set_option maxRecDepth 10000 in
theorem mf_X10_mirror : MF yX10_mirror cX10_mirror 3 (some .int) 2 := ⟨(tbt5 226 rfl rfl), (tbt1 12 rfl rfl), by decide +kernel, by decide⟩
set_option maxRecDepth 10000 in
theorem mv_X10_mirror : MV yX10_mirror := ⟨(tbt5 224 rfl rfl), (tbt5 225 rfl rfl)⟩
set_option maxRecDepth 10000 in
theorem mf_X10_mirrors : MF yX10_mirrors cX10_mirrors 4 (some .int) 0 := ⟨(tbt5 234 rfl rfl), (tbt1 12 rfl rfl), by decide +kernel, by decide⟩
set_option maxRecDepth 10000 in
theorem mv_X10_mirrors : MV yX10_mirrors := ⟨(tbt5 232 rfl rfl), (tbt5 233 rfl rfl)⟩
set_option maxRecDepth 10000 in
theorem mf_X10_measure : MF yX10_measure cX10_measure 5 none 1 := ⟨(tbt6 6 rfl rfl), (tbt1 12 rfl rfl), by decide +kernel, by decide⟩
set_option maxRecDepth 10000 in
theorem mv_X10_measure : MV yX10_measure := ⟨(tbt6 5 rfl rfl), (tbp4 2 rfl)⟩
set_option maxRecDepth 10000 in
theorem mf_X10_goes : MF yX10_goes cX10_goes 11 (some .boolean) 2 := ⟨(tbt6 20 rfl rfl), (tbt1 12 rfl rfl), by decide +kernel, by decide⟩
set_option maxRecDepth 10000 in
theorem mv_X10_goes : MV yX10_goes := ⟨(tbt6 19 rfl rfl), (tbp4 5 rfl)⟩
set_option maxRecDepth 10000 in
theorem mf_X10_cuts : MF yX10_cuts cX10_cuts 13 (some .int) 1 := ⟨(tbt6 16 rfl rfl), (tbt1 12 rfl rfl), by decide +kernel, by decide⟩
set_option maxRecDepth 10000 in
theorem mv_X10_cuts : MV yX10_cuts := ⟨(tbt6 15 rfl rfl), (tbp4 4 rfl)⟩
set_option maxRecDepth 10000 in
theorem mf_X10_goThrough : MF yX10_goThrough cX10_goThrough 3 (some .boolean) 1 := ⟨(tbt6 12 rfl rfl), (tbt1 12 rfl rfl), by decide +kernel, by decide⟩
set_option maxRecDepth 10000 in
theorem mv_X10_goThrough : MV yX10_goThrough := ⟨(tbt6 11 rfl rfl), (tbp4 3 rfl)⟩
set_option maxRecDepth 10000 in
theorem mf_X10_look : MF yX10_look cX10_look 3 (some .int) 1 := ⟨(tbt6 2 rfl rfl), (tbt1 12 rfl rfl), by decide +kernel, by decide⟩
set_option maxRecDepth 10000 in
theorem mv_X10_look : MV yX10_look := ⟨(tbt6 1 rfl rfl), (tbp4 1 rfl)⟩
set_option maxRecDepth 10000 in
theorem mf_X10_fewest : MF yX10_fewest cX10_fewest 2 (some .int) 1 := ⟨(tbt5 238 rfl rfl), (tbt1 12 rfl rfl), by decide +kernel, by decide⟩
set_option maxRecDepth 10000 in
theorem mv_X10_fewest : MV yX10_fewest := ⟨(tbt5 236 rfl rfl), (tbt5 237 rfl rfl)⟩
set_option maxRecDepth 10000 in
theorem mf_X10_way : MF yX10_way cX10_way 5 (some .int) 2 := ⟨(tbt6 24 rfl rfl), (tbt1 12 rfl rfl), by decide +kernel, by decide⟩
set_option maxRecDepth 10000 in
theorem mv_X10_way : MV yX10_way := ⟨(tbt6 22 rfl rfl), (tbt6 23 rfl rfl)⟩
set_option maxRecDepth 10000 in
theorem mf_X10_ways : MF yX10_ways cX10_ways 2 (some .int) 1 := ⟨(tbt6 28 rfl rfl), (tbt1 12 rfl rfl), by decide +kernel, by decide⟩
set_option maxRecDepth 10000 in
theorem mv_X10_ways : MV yX10_ways := ⟨(tbt6 26 rfl rfl), (tbt6 27 rfl rfl)⟩
set_option maxRecDepth 10000 in
theorem mf_X10_count : MF yX10_count cX10_count 5 (some .int) 1 := ⟨(tbt6 32 rfl rfl), (tbt1 12 rfl rfl), by decide +kernel, by decide⟩
set_option maxRecDepth 10000 in
theorem mv_X10_count : MV yX10_count := ⟨(tbt6 30 rfl rfl), (tbt6 31 rfl rfl)⟩
set_option maxRecDepth 10000 in
theorem mf_J9_abs_0f7a4 : MF yJ9_abs_0f7a4 cJ9_abs_0f7a4 1 (some .int) 1 := ⟨(tbt4 38 rfl rfl), (tbt1 13 rfl rfl), by decide +kernel, by decide⟩
set_option maxRecDepth 10000 in
theorem ms_J9_abs_0f7a4 : Cond.static yJ9_abs_0f7a4 ∈ TB := (tbt4 37 rfl rfl)
set_option maxRecDepth 10000 in
theorem mf_J9_max_7cf53 : MF yJ9_max_7cf53 cJ9_max_7cf53 2 (some .int) 2 := ⟨(tbt3 31 rfl rfl), (tbt1 13 rfl rfl), by decide +kernel, by decide⟩
set_option maxRecDepth 10000 in
theorem ms_J9_max_7cf53 : Cond.static yJ9_max_7cf53 ∈ TB := (tbt3 30 rfl rfl)
set_option maxRecDepth 10000 in
theorem mf_J9_min_7cf53 : MF yJ9_min_7cf53 cJ9_min_7cf53 2 (some .int) 2 := ⟨(tbt3 46 rfl rfl), (tbt1 13 rfl rfl), by decide +kernel, by decide⟩
set_option maxRecDepth 10000 in
theorem ms_J9_min_7cf53 : Cond.static yJ9_min_7cf53 ∈ TB := (tbt3 45 rfl rfl)
set_option maxRecDepth 10000 in
theorem mf_J7_fill_53178 : MF yJ7_fill_53178 cJ7_fill_53178 4 none 2 := ⟨(tbt2 58 rfl rfl), (tbt1 10 rfl rfl), by decide +kernel, by decide⟩
set_option maxRecDepth 10000 in
theorem ms_J7_fill_53178 : Cond.static yJ7_fill_53178 ∈ TB := (tbt2 57 rfl rfl)
set_option maxRecDepth 10000 in
theorem ml_L_9 : ML RL 9 yX9_init := Or.inl (tbt1 16 rfl rfl)
set_option maxRecDepth 10000 in
theorem ml_X9_11 : ML RX9 11 yX7_init := Or.inr ⟨"OneSnip", (List.mem_of_getElem? (i := 0) rfl)⟩
set_option maxRecDepth 10000 in
theorem ml_X9_18 : ML RX9 18 yX4_init := Or.inl (tbt1 55 rfl rfl)
set_option maxRecDepth 10000 in
theorem ml_X9_27 : ML RX9 27 yX0_init := Or.inl (tbt1 99 rfl rfl)
set_option maxRecDepth 10000 in
theorem ml_X9_36 : ML RX9 36 yX8_init := Or.inl (tbt1 112 rfl rfl)
set_option maxRecDepth 10000 in
theorem ml_X9_43 : ML RX9 43 yX1_init := Or.inl (tbt1 139 rfl rfl)
set_option maxRecDepth 10000 in
theorem ml_X9_50 : ML RX9 50 yX6_init := Or.inl (tbt1 157 rfl rfl)
set_option maxRecDepth 10000 in
theorem ml_X6_11 : ML RX6 11 yX2_init := Or.inl (tbt1 163 rfl rfl)
set_option maxRecDepth 10000 in
theorem ml_X9_61 : ML RX9 61 yX9_begin := Or.inl (tbt1 237 rfl rfl)
set_option maxRecDepth 10000 in
theorem ml_X9_227 : ML RX9 227 yX7_resize := Or.inl (tbt2 1 rfl rfl)
set_option maxRecDepth 10000 in
theorem ml_X7_28 : ML RX7 28 yX7_place := Or.inl (tbt2 5 rfl rfl)
set_option maxRecDepth 10000 in
theorem ml_X7_32 : ML RX7 32 yX7_leaf := Or.inl (tbt2 9 rfl rfl)
set_option maxRecDepth 10000 in
theorem ml_X7_36 : ML RX7 36 yX5_put := Or.inl (tbt2 13 rfl rfl)
set_option maxRecDepth 10000 in
theorem ml_X7_42 : ML RX7 42 yX7_across := Or.inl (tbt2 16 rfl rfl)
set_option maxRecDepth 10000 in
theorem ml_X7_45 : ML RX7 45 yX7_hasCell := Or.inl (tbt2 20 rfl rfl)
set_option maxRecDepth 10000 in
theorem kc_X7_49 : Cond.constant RX7 49 (zI (-99999)) ∈ TB := (tbt2 24 rfl rfl)
set_option maxRecDepth 10000 in
theorem ml_X9_230 : ML RX9 230 yX4_flatten := Or.inl (tbt2 25 rfl rfl)
set_option maxRecDepth 10000 in
theorem ml_X4_52 : ML RX4 52 yX4_spread := Or.inl (tbt2 29 rfl rfl)
set_option maxRecDepth 10000 in
theorem ml_X4_78 : ML RX4 78 yX7_x := Or.inl (tbt2 33 rfl rfl)
set_option maxRecDepth 10000 in
theorem ml_X7_50 : ML RX7 50 yX5_get := Or.inl (tbt2 37 rfl rfl)
set_option maxRecDepth 10000 in
theorem ml_X4_55 : ML RX4 55 yX5_put := Or.inl (tbt2 40 rfl rfl)
set_option maxRecDepth 10000 in
theorem ml_X4_82 : ML RX4 82 yX7_y := Or.inl (tbt2 41 rfl rfl)
set_option maxRecDepth 10000 in
theorem ml_X4_85 : ML RX4 85 yX7_quarter := Or.inl (tbt2 45 rfl rfl)
set_option maxRecDepth 10000 in
theorem ml_X4_88 : ML RX4 88 yX4_measure := Or.inl (tbt2 49 rfl rfl)
set_option maxRecDepth 10000 in
theorem ml_X4_131 : ML RX4 131 yX5_fill := Or.inl (tbt2 53 rfl rfl)
set_option maxRecDepth 10000 in
theorem ml_X5_7 : ML RX5 7 yJ7_fill_53178 := Or.inl (tbt2 56 rfl rfl)
set_option maxRecDepth 10000 in
theorem ml_X4_135 : ML RX4 135 yX4_spot := Or.inl (tbt2 59 rfl rfl)
set_option maxRecDepth 10000 in
theorem ml_X4_69 : ML RX4 69 yX5_get := Or.inl (tbt2 63 rfl rfl)
set_option maxRecDepth 10000 in
theorem ml_X4_138 : ML RX4 138 yX3_spot := Or.inl (tbt2 64 rfl rfl)
set_option maxRecDepth 10000 in
theorem ml_X9_233 : ML RX9 233 yX8_mend := Or.inl (tbt2 67 rfl rfl)
set_option maxRecDepth 10000 in
theorem ml_X8_33 : ML RX8 33 yX5_fill := Or.inl (tbt2 71 rfl rfl)
set_option maxRecDepth 10000 in
theorem ml_X8_39 : ML RX8 39 yX8_part := Or.inl (tbt2 72 rfl rfl)
set_option maxRecDepth 10000 in
theorem kc_X8_65 : Cond.constant RX8 65 (zI (-99999)) ∈ TB := (tbt2 76 rfl rfl)
set_option maxRecDepth 10000 in
theorem ml_X8_66 : ML RX8 66 yX8_leastOf := Or.inl (tbt2 77 rfl rfl)
set_option maxRecDepth 10000 in
theorem ml_X8_61 : ML RX8 61 yX5_get := Or.inl (tbt2 81 rfl rfl)
set_option maxRecDepth 10000 in
theorem ml_X8_70 : ML RX8 70 yX8_gather := Or.inl (tbt2 82 rfl rfl)
set_option maxRecDepth 10000 in
theorem ml_X8_57 : ML RX8 57 yX5_put := Or.inl (tbt2 86 rfl rfl)
set_option maxRecDepth 10000 in
theorem ml_X8_74 : ML RX8 74 yX7_beside := Or.inl (tbt2 87 rfl rfl)
set_option maxRecDepth 10000 in
theorem ml_X8_78 : ML RX8 78 yX8_isDown := Or.inl (tbt2 91 rfl rfl)
set_option maxRecDepth 10000 in
theorem ml_X9_236 : ML RX9 236 yX1_wipe := Or.inl (tbt2 95 rfl rfl)
set_option maxRecDepth 10000 in
theorem ml_X1_19 : ML RX1 19 yX5_fill := Or.inl (tbt2 99 rfl rfl)
set_option maxRecDepth 10000 in
theorem ml_X9_239 : ML RX9 239 yX6_forget := Or.inl (tbt2 100 rfl rfl)
set_option maxRecDepth 10000 in
theorem kc_X6_45 : Cond.constant RX6 45 (zI (-99999)) ∈ TB := (tbt2 104 rfl rfl)
set_option maxRecDepth 10000 in
theorem ml_L_13 : ML RL 13 yX9_sheet := Or.inl (tbt2 127 rfl rfl)
set_option maxRecDepth 10000 in
theorem ml_L_18 : ML RL 18 yX9_fold := Or.inl (tbt2 131 rfl rfl)
set_option maxRecDepth 10000 in
theorem ml_X9_68 : ML RX9 68 yX3_isLine := Or.inl (tbt2 135 rfl rfl)
set_option maxRecDepth 10000 in
theorem ml_X9_74 : ML RX9 74 yX3_isSide := Or.inl (tbt2 138 rfl rfl)
set_option maxRecDepth 10000 in
theorem ml_X9_82 : ML RX9 82 yX4_isCrossed := Or.inl (tbt2 141 rfl rfl)
set_option maxRecDepth 10000 in
theorem ml_X4_146 : ML RX4 146 yX4_lying := Or.inl (tbt2 145 rfl rfl)
set_option maxRecDepth 10000 in
theorem ml_X4_95 : ML RX4 95 yX4_isOn := Or.inl (tbt2 149 rfl rfl)
set_option maxRecDepth 10000 in
theorem ml_X4_113 : ML RX4 113 yX4_x := Or.inl (tbt2 153 rfl rfl)
set_option maxRecDepth 10000 in
theorem ml_X4_114 : ML RX4 114 yX4_y := Or.inl (tbt2 157 rfl rfl)
set_option maxRecDepth 10000 in
theorem ml_X4_122 : ML RX4 122 yX4_quarter := Or.inl (tbt2 161 rfl rfl)
set_option maxRecDepth 10000 in
theorem ml_X4_140 : ML RX4 140 yX3_strip := Or.inl (tbt2 165 rfl rfl)
set_option maxRecDepth 10000 in
theorem ml_X4_143 : ML RX4 143 yX3_isOn := Or.inl (tbt2 168 rfl rfl)
set_option maxRecDepth 10000 in
theorem ml_X4_61 : ML RX4 61 yX9_yes := Or.inr ⟨"OneSnip", (List.mem_of_getElem? (i := 16) rfl)⟩
set_option maxRecDepth 10000 in
theorem ml_X9_87 : ML RX9 87 yX4_add := Or.inl (tbt2 174 rfl rfl)
set_option maxRecDepth 10000 in
theorem ml_X4_65 : ML RX4 65 yX4_turn := Or.inl (tbt2 178 rfl rfl)
set_option maxRecDepth 10000 in
theorem ml_X4_91 : ML RX4 91 yX4_layerBehind := Or.inl (tbt2 182 rfl rfl)
set_option maxRecDepth 10000 in
theorem ml_X4_103 : ML RX4 103 yX4_mirrorSpot := Or.inl (tbt2 186 rfl rfl)
set_option maxRecDepth 10000 in
theorem ml_X4_115 : ML RX4 115 yX3_mirrorX := Or.inl (tbt2 190 rfl rfl)
set_option maxRecDepth 10000 in
theorem ml_X4_119 : ML RX4 119 yX3_mirrorY := Or.inl (tbt2 193 rfl rfl)
set_option maxRecDepth 10000 in
theorem ml_X4_123 : ML RX4 123 yX3_mirrorQuarter := Or.inl (tbt2 196 rfl rfl)
set_option maxRecDepth 10000 in
theorem ml_X4_107 : ML RX4 107 yX4_heightOver := Or.inl (tbt2 199 rfl rfl)
set_option maxRecDepth 10000 in
theorem ml_X4_110 : ML RX4 110 yX4_layer := Or.inl (tbt2 203 rfl rfl)
set_option maxRecDepth 10000 in
theorem ml_X4_99 : ML RX4 99 yX4_flip := Or.inl (tbt2 207 rfl rfl)
set_option maxRecDepth 10000 in
theorem ml_X4_127 : ML RX4 127 yX4_isUp := Or.inl (tbt2 211 rfl rfl)
set_option maxRecDepth 10000 in
theorem ml_X9_91 : ML RX9 91 yX4_taken := Or.inl (tbt2 215 rfl rfl)
set_option maxRecDepth 10000 in
theorem ml_L_23 : ML RL 23 yX9_unfold := Or.inl (tbt2 219 rfl rfl)
set_option maxRecDepth 10000 in
theorem ml_X9_95 : ML RX9 95 yX4_undo := Or.inl (tbt2 223 rfl rfl)
set_option maxRecDepth 10000 in
theorem ml_L_28 : ML RL 28 yX9_facet := Or.inl (tbt2 227 rfl rfl)
set_option maxRecDepth 10000 in
theorem ml_X9_98 : ML RX9 98 yX7_has := Or.inl (tbt2 231 rfl rfl)
set_option maxRecDepth 10000 in
theorem ml_X9_101 : ML RX9 101 yX4_x := Or.inl (tbt2 235 rfl rfl)
set_option maxRecDepth 10000 in
theorem ml_X9_105 : ML RX9 105 yX4_y := Or.inl (tbt2 236 rfl rfl)
set_option maxRecDepth 10000 in
theorem ml_X9_108 : ML RX9 108 yX4_quarter := Or.inl (tbt2 237 rfl rfl)
set_option maxRecDepth 10000 in
theorem ml_X9_111 : ML RX9 111 yX4_layer := Or.inl (tbt2 238 rfl rfl)
set_option maxRecDepth 10000 in
theorem ml_X9_114 : ML RX9 114 yX4_isUp := Or.inl (tbt2 239 rfl rfl)
set_option maxRecDepth 10000 in
theorem ml_X9_117 : ML RX9 117 yX9_yes := Or.inl (tbt3 0 rfl rfl)
set_option maxRecDepth 10000 in
theorem ml_X9_121 : ML RX9 121 yX4_heightOver := Or.inl (tbt3 1 rfl rfl)
set_option maxRecDepth 10000 in
theorem ml_X9_124 : ML RX9 124 yX8_isDown := Or.inl (tbt3 2 rfl rfl)
set_option maxRecDepth 10000 in
theorem ml_X9_127 : ML RX9 127 yX1_has := Or.inl (tbt3 3 rfl rfl)
set_option maxRecDepth 10000 in
theorem ml_X1_29 : ML RX1 29 yX5_get := Or.inl (tbt3 7 rfl rfl)
set_option maxRecDepth 10000 in
theorem ml_L_33 : ML RL 33 yX9_at := Or.inl (tbt3 8 rfl rfl)
set_option maxRecDepth 10000 in
theorem ml_X9_128 : ML RX9 128 yX4_find := Or.inl (tbt3 12 rfl rfl)
set_option maxRecDepth 10000 in
theorem kc_X4_149 : Cond.constant RX4 149 (zI (-99999)) ∈ TB := (tbt3 16 rfl rfl)
set_option maxRecDepth 10000 in
theorem ml_L_38 : ML RL 38 yX9_places := Or.inl (tbt3 17 rfl rfl)
set_option maxRecDepth 10000 in
theorem ml_L_42 : ML RL 42 yX9_deepest := Or.inl (tbt3 21 rfl rfl)
set_option maxRecDepth 10000 in
theorem ml_X9_132 : ML RX9 132 yX4_highest := Or.inl (tbt3 25 rfl rfl)
set_option maxRecDepth 10000 in
theorem ml_X4_150 : ML RX4 150 yJ9_max_7cf53 := Or.inl (tbt3 29 rfl rfl)
set_option maxRecDepth 10000 in
theorem ml_L_46 : ML RL 46 yX9_reach := Or.inl (tbt3 32 rfl rfl)
set_option maxRecDepth 10000 in
theorem ml_X9_135 : ML RX9 135 yX4_leastX := Or.inl (tbt3 36 rfl rfl)
set_option maxRecDepth 10000 in
theorem ml_X4_159 : ML RX4 159 yX4_least := Or.inl (tbt3 40 rfl rfl)
set_option maxRecDepth 10000 in
theorem ml_X4_166 : ML RX4 166 yJ9_min_7cf53 := Or.inl (tbt3 44 rfl rfl)
set_option maxRecDepth 10000 in
theorem ml_X9_138 : ML RX9 138 yX4_greatestX := Or.inl (tbt3 47 rfl rfl)
set_option maxRecDepth 10000 in
theorem ml_X4_163 : ML RX4 163 yX4_greatest := Or.inl (tbt3 51 rfl rfl)
set_option maxRecDepth 10000 in
theorem ml_X9_141 : ML RX9 141 yX4_leastY := Or.inl (tbt3 55 rfl rfl)
set_option maxRecDepth 10000 in
theorem ml_X9_144 : ML RX9 144 yX4_greatestY := Or.inl (tbt3 59 rfl rfl)
set_option maxRecDepth 10000 in
theorem ml_L_50 : ML RL 50 yX9_folds := Or.inl (tbt3 63 rfl rfl)
set_option maxRecDepth 10000 in
theorem ml_L_54 : ML RL 54 yX9_crease := Or.inl (tbt3 67 rfl rfl)
set_option maxRecDepth 10000 in
theorem ml_X9_147 : ML RX9 147 yX9_isEdge := Or.inl (tbt3 71 rfl rfl)
set_option maxRecDepth 10000 in
theorem ml_X9_150 : ML RX9 150 yX0_kind := Or.inl (tbt3 74 rfl rfl)
set_option maxRecDepth 10000 in
theorem ml_X0_19 : ML RX0 19 yX7_beside := Or.inl (tbt3 78 rfl rfl)
set_option maxRecDepth 10000 in
theorem kc_X0_25 : Cond.constant RX0 25 (zI (-99999)) ∈ TB := (tbt3 79 rfl rfl)
set_option maxRecDepth 10000 in
theorem ml_X0_26 : ML RX0 26 yX4_isUp := Or.inl (tbt3 80 rfl rfl)
set_option maxRecDepth 10000 in
theorem ml_X0_32 : ML RX0 32 yX4_layer := Or.inl (tbt3 81 rfl rfl)
set_option maxRecDepth 10000 in
theorem ml_L_58 : ML RL 58 yX9_neighbour := Or.inl (tbt3 82 rfl rfl)
set_option maxRecDepth 10000 in
theorem ml_X9_154 : ML RX9 154 yX7_beside := Or.inl (tbt3 86 rfl rfl)
set_option maxRecDepth 10000 in
theorem ml_L_62 : ML RL 62 yX9_creases := Or.inl (tbt3 87 rfl rfl)
set_option maxRecDepth 10000 in
theorem ml_X9_157 : ML RX9 157 yX0_total := Or.inl (tbt3 91 rfl rfl)
set_option maxRecDepth 10000 in
theorem ml_X0_40 : ML RX0 40 yX0_isFirstOf := Or.inl (tbt3 95 rfl rfl)
set_option maxRecDepth 10000 in
theorem ml_X0_44 : ML RX0 44 yX0_kind := Or.inl (tbt3 99 rfl rfl)
set_option maxRecDepth 10000 in
theorem ml_X0_47 : ML RX0 47 yX9_yes := Or.inr ⟨"OneSnip", (List.mem_of_getElem? (i := 17) rfl)⟩
set_option maxRecDepth 10000 in
theorem ml_L_67 : ML RL 67 yX9_balance := Or.inl (tbt3 101 rfl rfl)
set_option maxRecDepth 10000 in
theorem ml_X9_160 : ML RX9 160 yX7_hasPoint := Or.inl (tbt3 105 rfl rfl)
set_option maxRecDepth 10000 in
theorem ml_X9_164 : ML RX9 164 yX0_ending := Or.inl (tbt3 109 rfl rfl)
set_option maxRecDepth 10000 in
theorem ml_X0_51 : ML RX0 51 yX0_endsAt := Or.inl (tbt3 113 rfl rfl)
set_option maxRecDepth 10000 in
theorem ml_X0_55 : ML RX0 55 yX7_x := Or.inl (tbt3 117 rfl rfl)
set_option maxRecDepth 10000 in
theorem ml_X0_58 : ML RX0 58 yX7_y := Or.inl (tbt3 118 rfl rfl)
set_option maxRecDepth 10000 in
theorem ml_X0_61 : ML RX0 61 yX7_quarter := Or.inl (tbt3 119 rfl rfl)
set_option maxRecDepth 10000 in
theorem ml_X0_64 : ML RX0 64 yX0_isCorner := Or.inl (tbt3 120 rfl rfl)
set_option maxRecDepth 10000 in
theorem ml_L_72 : ML RL 72 yX9_degree := Or.inl (tbt3 123 rfl rfl)
set_option maxRecDepth 10000 in
theorem ml_L_76 : ML RL 76 yX9_knife := Or.inl (tbt3 127 rfl rfl)
set_option maxRecDepth 10000 in
theorem ml_L_80 : ML RL 80 yX9_thickness := Or.inl (tbt3 131 rfl rfl)
set_option maxRecDepth 10000 in
theorem ml_X9_168 : ML RX9 168 yX4_heightOn := Or.inl (tbt3 135 rfl rfl)
set_option maxRecDepth 10000 in
theorem ml_X4_155 : ML RX4 155 yX3_touches := Or.inl (tbt3 139 rfl rfl)
set_option maxRecDepth 10000 in
theorem ml_L_84 : ML RL 84 yX9_would := Or.inl (tbt3 142 rfl rfl)
set_option maxRecDepth 10000 in
theorem ml_X9_171 : ML RX9 171 yX4_lying := Or.inl (tbt3 146 rfl rfl)
set_option maxRecDepth 10000 in
theorem ml_L_89 : ML RL 89 yX9_cut := Or.inl (tbt3 147 rfl rfl)
set_option maxRecDepth 10000 in
theorem ml_X9_175 : ML RX9 175 yX8_drop := Or.inl (tbt3 151 rfl rfl)
set_option maxRecDepth 10000 in
theorem ml_X8_47 : ML RX8 47 yX4_isOn := Or.inl (tbt3 155 rfl rfl)
set_option maxRecDepth 10000 in
theorem ml_X8_53 : ML RX8 53 yX9_yes := Or.inr ⟨"OneSnip", (List.mem_of_getElem? (i := 18) rfl)⟩
set_option maxRecDepth 10000 in
theorem ml_L_93 : ML RL 93 yX9_pieces := Or.inl (tbt3 157 rfl rfl)
set_option maxRecDepth 10000 in
theorem ml_X9_182 : ML RX9 182 yX8_total := Or.inl (tbt3 161 rfl rfl)
set_option maxRecDepth 10000 in
theorem ml_L_97 : ML RL 97 yX9_holes := Or.inl (tbt3 165 rfl rfl)
set_option maxRecDepth 10000 in
theorem ml_X9_184 : ML RX9 184 yX8_inner := Or.inl (tbt3 169 rfl rfl)
set_option maxRecDepth 10000 in
theorem ml_X8_82 : ML RX8 82 yX8_reachesOut := Or.inl (tbt3 173 rfl rfl)
set_option maxRecDepth 10000 in
theorem ml_L_101 : ML RL 101 yX9_rims := Or.inl (tbt3 177 rfl rfl)
set_option maxRecDepth 10000 in
theorem ml_X9_187 : ML RX9 187 yX8_border := Or.inl (tbt3 181 rfl rfl)
set_option maxRecDepth 10000 in
theorem ml_L_105 : ML RL 105 yX9_piece := Or.inl (tbt3 185 rfl rfl)
set_option maxRecDepth 10000 in
theorem ml_X9_190 : ML RX9 190 yX8_leastOf := Or.inl (tbt3 189 rfl rfl)
set_option maxRecDepth 10000 in
theorem ml_L_109 : ML RL 109 yX9_mark := Or.inl (tbt3 190 rfl rfl)
set_option maxRecDepth 10000 in
theorem ml_X9_193 : ML RX9 193 yX9_draw := Or.inl (tbt3 194 rfl rfl)
set_option maxRecDepth 10000 in
theorem ml_X9_242 : ML RX9 242 yX1_put := Or.inl (tbt3 198 rfl rfl)
set_option maxRecDepth 10000 in
theorem ml_X1_33 : ML RX1 33 yX9_yes := Or.inr ⟨"OneSnip", (List.mem_of_getElem? (i := 19) rfl)⟩
set_option maxRecDepth 10000 in
theorem ml_X1_37 : ML RX1 37 yX5_put := Or.inl (tbt3 203 rfl rfl)
set_option maxRecDepth 10000 in
theorem ml_L_114 : ML RL 114 yX9_markCell := Or.inl (tbt3 204 rfl rfl)
set_option maxRecDepth 10000 in
theorem ml_X9_197 : ML RX9 197 yX7_hasCell := Or.inl (tbt3 208 rfl rfl)
set_option maxRecDepth 10000 in
theorem ml_X9_200 : ML RX9 200 yX7_leaf := Or.inl (tbt3 209 rfl rfl)
set_option maxRecDepth 10000 in
theorem ml_L_118 : ML RL 118 yX9_take := Or.inl (tbt3 210 rfl rfl)
set_option maxRecDepth 10000 in
theorem ml_L_122 : ML RL 122 yX9_same := Or.inl (tbt3 214 rfl rfl)
set_option maxRecDepth 10000 in
theorem ml_L_126 : ML RL 126 yX9_mirror := Or.inl (tbt3 218 rfl rfl)
set_option maxRecDepth 10000 in
theorem ml_X9_208 : ML RX9 208 yX1_isMirror := Or.inl (tbt3 222 rfl rfl)
set_option maxRecDepth 10000 in
theorem ml_X1_50 : ML RX1 50 yX7_x := Or.inl (tbt3 226 rfl rfl)
set_option maxRecDepth 10000 in
theorem ml_X1_54 : ML RX1 54 yX7_y := Or.inl (tbt3 227 rfl rfl)
set_option maxRecDepth 10000 in
theorem ml_X1_57 : ML RX1 57 yX3_mirrorX := Or.inl (tbt3 228 rfl rfl)
set_option maxRecDepth 10000 in
theorem ml_X1_63 : ML RX1 63 yX3_mirrorY := Or.inl (tbt3 229 rfl rfl)
set_option maxRecDepth 10000 in
theorem ml_X1_66 : ML RX1 66 yX7_quarter := Or.inl (tbt3 230 rfl rfl)
set_option maxRecDepth 10000 in
theorem ml_X1_69 : ML RX1 69 yX3_mirrorQuarter := Or.inl (tbt3 231 rfl rfl)
set_option maxRecDepth 10000 in
theorem ml_X1_73 : ML RX1 73 yX7_hasCell := Or.inl (tbt3 232 rfl rfl)
set_option maxRecDepth 10000 in
theorem ml_X1_77 : ML RX1 77 yX7_leaf := Or.inl (tbt3 233 rfl rfl)
set_option maxRecDepth 10000 in
theorem ml_X1_46 : ML RX1 46 yX1_has := Or.inl (tbt3 234 rfl rfl)
set_option maxRecDepth 10000 in
theorem ml_L_130 : ML RL 130 yX9_mirrors := Or.inl (tbt3 235 rfl rfl)
set_option maxRecDepth 10000 in
theorem ml_L_134 : ML RL 134 yX9_fewest := Or.inl (tbt3 239 rfl rfl)
set_option maxRecDepth 10000 in
theorem ml_X9_211 : ML RX9 211 yX9_isWayLength := Or.inl (tbt4 3 rfl rfl)
set_option maxRecDepth 10000 in
theorem ml_X9_214 : ML RX9 214 yX6_solve := Or.inl (tbt4 6 rfl rfl)
set_option maxRecDepth 10000 in
theorem ml_X6_52 : ML RX6 52 yX2_load := Or.inl (tbt4 10 rfl rfl)
set_option maxRecDepth 10000 in
theorem ml_X2_47 : ML RX2 47 yX1_first := Or.inl (tbt4 14 rfl rfl)
set_option maxRecDepth 10000 in
theorem ml_X2_51 : ML RX2 51 yX2_clear := Or.inl (tbt4 18 rfl rfl)
set_option maxRecDepth 10000 in
theorem ml_X2_87 : ML RX2 87 yX5_get := Or.inl (tbt4 22 rfl rfl)
set_option maxRecDepth 10000 in
theorem ml_X2_93 : ML RX2 93 yX3_spot := Or.inl (tbt4 23 rfl rfl)
set_option maxRecDepth 10000 in
theorem ml_X2_97 : ML RX2 97 yX5_put := Or.inl (tbt4 24 rfl rfl)
set_option maxRecDepth 10000 in
theorem ml_X2_100 : ML RX2 100 yX5_fill := Or.inl (tbt4 25 rfl rfl)
set_option maxRecDepth 10000 in
theorem ml_X2_55 : ML RX2 55 yX2_putAround := Or.inl (tbt4 26 rfl rfl)
set_option maxRecDepth 10000 in
theorem ml_X2_62 : ML RX2 62 yX1_has := Or.inl (tbt4 30 rfl rfl)
set_option maxRecDepth 10000 in
theorem ml_X2_66 : ML RX2 66 yX7_distance := Or.inl (tbt4 31 rfl rfl)
set_option maxRecDepth 10000 in
theorem ml_X7_54 : ML RX7 54 yX7_x := Or.inl (tbt4 35 rfl rfl)
set_option maxRecDepth 10000 in
theorem ml_X7_58 : ML RX7 58 yJ9_abs_0f7a4 := Or.inl (tbt4 36 rfl rfl)
set_option maxRecDepth 10000 in
theorem ml_X7_63 : ML RX7 63 yX7_y := Or.inl (tbt4 39 rfl rfl)
set_option maxRecDepth 10000 in
theorem ml_X7_66 : ML RX7 66 yJ9_max_7cf53 := Or.inl (tbt4 40 rfl rfl)
set_option maxRecDepth 10000 in
theorem ml_X2_70 : ML RX2 70 yX7_x := Or.inl (tbt4 41 rfl rfl)
set_option maxRecDepth 10000 in
theorem ml_X2_74 : ML RX2 74 yX7_y := Or.inl (tbt4 42 rfl rfl)
set_option maxRecDepth 10000 in
theorem ml_X2_77 : ML RX2 77 yX7_quarter := Or.inl (tbt4 43 rfl rfl)
set_option maxRecDepth 10000 in
theorem ml_X2_80 : ML RX2 80 yX2_put := Or.inl (tbt4 44 rfl rfl)
set_option maxRecDepth 10000 in
theorem ml_X2_110 : ML RX2 110 yX9_yes := Or.inr ⟨"OneSnip", (List.mem_of_getElem? (i := 20) rfl)⟩
set_option maxRecDepth 10000 in
theorem ml_X2_113 : ML RX2 113 yX2_row := Or.inl (tbt4 49 rfl rfl)
set_option maxRecDepth 10000 in
theorem ml_X2_116 : ML RX2 116 yX3_strip := Or.inl (tbt4 52 rfl rfl)
set_option maxRecDepth 10000 in
theorem ml_X2_120 : ML RX2 120 yX2_widen := Or.inl (tbt4 53 rfl rfl)
set_option maxRecDepth 10000 in
theorem ml_X2_124 : ML RX2 124 yJ9_min_7cf53 := Or.inl (tbt4 57 rfl rfl)
set_option maxRecDepth 10000 in
theorem ml_X2_129 : ML RX2 129 yJ9_max_7cf53 := Or.inl (tbt4 58 rfl rfl)
set_option maxRecDepth 10000 in
theorem ml_X6_56 : ML RX6 56 yX6_tryRows := Or.inl (tbt4 59 rfl rfl)
set_option maxRecDepth 10000 in
theorem ml_X6_73 : ML RX6 73 yX6_lengthen := Or.inl (tbt4 63 rfl rfl)
set_option maxRecDepth 10000 in
theorem ml_X6_80 : ML RX6 80 yX6_weigh := Or.inl (tbt4 66 rfl rfl)
set_option maxRecDepth 10000 in
theorem ml_X6_120 : ML RX6 120 yX2_cuts := Or.inl (tbt4 70 rfl rfl)
set_option maxRecDepth 10000 in
theorem ml_X2_162 : ML RX2 162 yX2_lastCut := Or.inl (tbt4 74 rfl rfl)
set_option maxRecDepth 10000 in
theorem ml_X2_159 : ML RX2 159 yX2_firstCut_ := Or.inl (tbt4 78 rfl rfl)
set_option maxRecDepth 10000 in
theorem ml_X6_60 : ML RX6 60 yX5_get := Or.inl (tbt4 82 rfl rfl)
set_option maxRecDepth 10000 in
theorem ml_X6_112 : ML RX6 112 yX5_put := Or.inl (tbt4 83 rfl rfl)
set_option maxRecDepth 10000 in
theorem ml_X6_123 : ML RX6 123 yX2_firstCut := Or.inl (tbt4 84 rfl rfl)
set_option maxRecDepth 10000 in
theorem ml_X2_165 : ML RX2 165 yX6_tell := Or.inl (tbt4 88 rfl rfl)
set_option maxRecDepth 10000 in
theorem ml_X6_83 : ML RX6 83 yX2_lastStrip := Or.inl (tbt4 91 rfl rfl)
set_option maxRecDepth 10000 in
theorem ml_X2_135 : ML RX2 135 yX2_greatest := Or.inl (tbt4 95 rfl rfl)
set_option maxRecDepth 10000 in
theorem ml_X6_89 : ML RX6 89 yJ9_min_7cf53 := Or.inl (tbt4 99 rfl rfl)
set_option maxRecDepth 10000 in
theorem ml_X6_95 : ML RX6 95 yX2_firstStrip := Or.inl (tbt4 100 rfl rfl)
set_option maxRecDepth 10000 in
theorem ml_X2_132 : ML RX2 132 yX2_least := Or.inl (tbt4 104 rfl rfl)
set_option maxRecDepth 10000 in
theorem ml_X6_98 : ML RX6 98 yJ9_max_7cf53 := Or.inl (tbt4 108 rfl rfl)
set_option maxRecDepth 10000 in
theorem ml_X6_101 : ML RX6 101 yX2_isCrossed := Or.inl (tbt4 109 rfl rfl)
set_option maxRecDepth 10000 in
theorem ml_X6_105 : ML RX6 105 yX2_fits := Or.inl (tbt4 113 rfl rfl)
set_option maxRecDepth 10000 in
theorem ml_X2_138 : ML RX2 138 yX2_secondKind := Or.inl (tbt4 117 rfl rfl)
set_option maxRecDepth 10000 in
theorem ml_X2_142 : ML RX2 142 yX3_mirrorX := Or.inl (tbt4 121 rfl rfl)
set_option maxRecDepth 10000 in
theorem ml_X2_145 : ML RX2 145 yX3_mirrorY := Or.inl (tbt4 122 rfl rfl)
set_option maxRecDepth 10000 in
theorem ml_X2_148 : ML RX2 148 yX3_mirrorQuarter := Or.inl (tbt4 123 rfl rfl)
set_option maxRecDepth 10000 in
theorem ml_X6_108 : ML RX6 108 yX6_tell := Or.inl (tbt4 124 rfl rfl)
set_option maxRecDepth 10000 in
theorem ml_X6_116 : ML RX6 116 yX2_turnInto := Or.inl (tbt4 125 rfl rfl)
set_option maxRecDepth 10000 in
theorem ml_X2_151 : ML RX2 151 yX3_isOn := Or.inl (tbt4 129 rfl rfl)
set_option maxRecDepth 10000 in
theorem ml_X2_155 : ML RX2 155 yX2_isEntangled := Or.inl (tbt4 130 rfl rfl)
set_option maxRecDepth 10000 in
theorem ml_L_138 : ML RL 138 yX9_way := Or.inl (tbt4 134 rfl rfl)
set_option maxRecDepth 10000 in
theorem ml_X9_217 : ML RX9 217 yX6_told := Or.inl (tbt4 138 rfl rfl)
set_option maxRecDepth 10000 in
theorem ml_L_142 : ML RL 142 yX9_ways := Or.inl (tbt4 142 rfl rfl)
set_option maxRecDepth 10000 in
theorem kc_X9_220 : Cond.constant RX9 220 (zI (-99999)) ∈ TB := (tbt4 146 rfl rfl)
set_option maxRecDepth 10000 in
theorem ml_L_146 : ML RL 146 yX9_count := Or.inl (tbt4 147 rfl rfl)
set_option maxRecDepth 10000 in
theorem ml_X9_224 : ML RX9 224 yX4_turnedDown := Or.inl (tbt4 151 rfl rfl)
set_option maxRecDepth 10000 in
theorem ml_L_12 : ML RL 12 yX10_init := Or.inl (tbt4 157 rfl rfl)
set_option maxRecDepth 10000 in
theorem ml_X10_90 : ML RX10 90 yX10_begin := Or.inl (tbt4 161 rfl rfl)
set_option maxRecDepth 10000 in
theorem ml_X10_97 : ML RX10 97 yX10_facets := Or.inl (tbt4 165 rfl rfl)
set_option maxRecDepth 10000 in
theorem ml_L_17 : ML RL 17 yX10_sheet := Or.inl (tbt5 36 rfl rfl)
set_option maxRecDepth 10000 in
theorem kl_X10_136 : Cond.constantLong RX10 136 (zL (6)) ∈ TB := (tbt5 40 rfl rfl)
set_option maxRecDepth 10000 in
theorem ml_X10_101 : ML RX10 101 yX10_in := Or.inl (tbt5 41 rfl rfl)
set_option maxRecDepth 10000 in
theorem ml_L_22 : ML RL 22 yX10_fold := Or.inl (tbt5 44 rfl rfl)
set_option maxRecDepth 10000 in
theorem ml_X10_138 : ML RX10 138 yX10_noLine := Or.inl (tbt5 48 rfl rfl)
set_option maxRecDepth 10000 in
theorem kl_X10_105 : Cond.constantLong RX10 105 (zL (3)) ∈ TB := (tbt5 51 rfl rfl)
set_option maxRecDepth 10000 in
theorem kl_X10_107 : Cond.constantLong RX10 107 (zL (-24)) ∈ TB := (tbt5 52 rfl rfl)
set_option maxRecDepth 10000 in
theorem kl_X10_109 : Cond.constantLong RX10 109 (zL (48)) ∈ TB := (tbt5 53 rfl rfl)
set_option maxRecDepth 10000 in
theorem ml_X10_142 : ML RX10 142 yX10_sideOf := Or.inl (tbt5 54 rfl rfl)
set_option maxRecDepth 10000 in
theorem ml_X10_118 : ML RX10 118 yX10_along := Or.inl (tbt5 57 rfl rfl)
set_option maxRecDepth 10000 in
theorem ml_X10_146 : ML RX10 146 yX10_keep := Or.inl (tbt5 60 rfl rfl)
set_option maxRecDepth 10000 in
theorem ml_X10_149 : ML RX10 149 yX10_nextTo := Or.inl (tbt5 64 rfl rfl)
set_option maxRecDepth 10000 in
theorem kc_X10_135 : Cond.constant RX10 135 (zI (-99999)) ∈ TB := (tbt5 68 rfl rfl)
set_option maxRecDepth 10000 in
theorem ml_X10_153 : ML RX10 153 yX10_turn := Or.inl (tbt5 69 rfl rfl)
set_option maxRecDepth 10000 in
theorem ml_X10_131 : ML RX10 131 yX10_isThere := Or.inl (tbt5 73 rfl rfl)
set_option maxRecDepth 10000 in
theorem ml_X10_157 : ML RX10 157 yX10_placesOf := Or.inl (tbt5 77 rfl rfl)
set_option maxRecDepth 10000 in
theorem ml_L_27 : ML RL 27 yX10_unfold := Or.inl (tbt5 81 rfl rfl)
set_option maxRecDepth 10000 in
theorem ml_L_32 : ML RL 32 yX10_facet := Or.inl (tbt5 85 rfl rfl)
set_option maxRecDepth 10000 in
theorem ml_X10_160 : ML RX10 160 yX10_noFacet := Or.inl (tbt5 89 rfl rfl)
set_option maxRecDepth 10000 in
theorem ml_X10_164 : ML RX10 164 yX10_deepOf := Or.inl (tbt5 93 rfl rfl)
set_option maxRecDepth 10000 in
theorem ml_L_37 : ML RL 37 yX10_at := Or.inl (tbt5 97 rfl rfl)
set_option maxRecDepth 10000 in
theorem ml_L_41 : ML RL 41 yX10_places := Or.inl (tbt5 101 rfl rfl)
set_option maxRecDepth 10000 in
theorem ml_L_45 : ML RL 45 yX10_deepest := Or.inl (tbt5 105 rfl rfl)
set_option maxRecDepth 10000 in
theorem ml_L_49 : ML RL 49 yX10_reach := Or.inl (tbt5 109 rfl rfl)
set_option maxRecDepth 10000 in
theorem ml_L_53 : ML RL 53 yX10_folds := Or.inl (tbt5 113 rfl rfl)
set_option maxRecDepth 10000 in
theorem ml_L_57 : ML RL 57 yX10_crease := Or.inl (tbt5 117 rfl rfl)
set_option maxRecDepth 10000 in
theorem kl_X10_168 : Cond.constantLong RX10 168 (zL (2)) ∈ TB := (tbt5 121 rfl rfl)
set_option maxRecDepth 10000 in
theorem ml_L_61 : ML RL 61 yX10_neighbour := Or.inl (tbt5 122 rfl rfl)
set_option maxRecDepth 10000 in
theorem ml_L_66 : ML RL 66 yX10_creases := Or.inl (tbt5 126 rfl rfl)
set_option maxRecDepth 10000 in
theorem ml_L_71 : ML RL 71 yX10_balance := Or.inl (tbt5 130 rfl rfl)
set_option maxRecDepth 10000 in
theorem ml_X10_176 : ML RX10 176 yX10_noPoint := Or.inl (tbt5 134 rfl rfl)
set_option maxRecDepth 10000 in
theorem ml_X10_180 : ML RX10 180 yX10_ends := Or.inl (tbt5 138 rfl rfl)
set_option maxRecDepth 10000 in
theorem ml_X10_170 : ML RX10 170 yX10_slant := Or.inl (tbt5 142 rfl rfl)
set_option maxRecDepth 10000 in
theorem ml_X10_173 : ML RX10 173 yX10_outer := Or.inl (tbt5 146 rfl rfl)
set_option maxRecDepth 10000 in
theorem ml_L_75 : ML RL 75 yX10_degree := Or.inl (tbt5 150 rfl rfl)
set_option maxRecDepth 10000 in
theorem ml_L_79 : ML RL 79 yX10_knife := Or.inl (tbt5 154 rfl rfl)
set_option maxRecDepth 10000 in
theorem kl_X10_184 : Cond.constantLong RX10 184 (zL (144)) ∈ TB := (tbt5 158 rfl rfl)
set_option maxRecDepth 10000 in
theorem ml_L_83 : ML RL 83 yX10_thickness := Or.inl (tbt5 159 rfl rfl)
set_option maxRecDepth 10000 in
theorem ml_X10_190 : ML RX10 190 yX10_thickOf := Or.inl (tbt5 163 rfl rfl)
set_option maxRecDepth 10000 in
theorem ml_X10_186 : ML RX10 186 yX10_touches := Or.inl (tbt5 167 rfl rfl)
set_option maxRecDepth 10000 in
theorem ml_L_88 : ML RL 88 yX10_would := Or.inl (tbt5 171 rfl rfl)
set_option maxRecDepth 10000 in
theorem ml_X10_193 : ML RX10 193 yX10_fallsOf := Or.inl (tbt5 175 rfl rfl)
set_option maxRecDepth 10000 in
theorem ml_L_92 : ML RL 92 yX10_cut := Or.inl (tbt5 179 rfl rfl)
set_option maxRecDepth 10000 in
theorem ml_L_96 : ML RL 96 yX10_pieces := Or.inl (tbt5 183 rfl rfl)
set_option maxRecDepth 10000 in
theorem ml_X10_196 : ML RX10 196 yX10_hang := Or.inl (tbt5 187 rfl rfl)
set_option maxRecDepth 10000 in
theorem ml_L_100 : ML RL 100 yX10_holes := Or.inl (tbt5 191 rfl rfl)
set_option maxRecDepth 10000 in
theorem ml_L_104 : ML RL 104 yX10_rims := Or.inl (tbt5 195 rfl rfl)
set_option maxRecDepth 10000 in
theorem ml_L_108 : ML RL 108 yX10_piece := Or.inl (tbt5 199 rfl rfl)
set_option maxRecDepth 10000 in
theorem ml_L_113 : ML RL 113 yX10_mark := Or.inl (tbt5 203 rfl rfl)
set_option maxRecDepth 10000 in
theorem ml_L_117 : ML RL 117 yX10_markCell := Or.inl (tbt5 207 rfl rfl)
set_option maxRecDepth 10000 in
theorem ml_X10_199 : ML RX10 199 yX10_marked := Or.inl (tbt5 211 rfl rfl)
set_option maxRecDepth 10000 in
theorem ml_L_121 : ML RL 121 yX10_take := Or.inl (tbt5 215 rfl rfl)
set_option maxRecDepth 10000 in
theorem ml_L_125 : ML RL 125 yX10_same := Or.inl (tbt5 219 rfl rfl)
set_option maxRecDepth 10000 in
theorem ml_L_129 : ML RL 129 yX10_mirror := Or.inl (tbt5 223 rfl rfl)
set_option maxRecDepth 10000 in
theorem ml_X10_202 : ML RX10 202 yX10_isMirror := Or.inl (tbt5 227 rfl rfl)
set_option maxRecDepth 10000 in
theorem ml_L_133 : ML RL 133 yX10_mirrors := Or.inl (tbt5 231 rfl rfl)
set_option maxRecDepth 10000 in
theorem ml_L_137 : ML RL 137 yX10_fewest := Or.inl (tbt5 235 rfl rfl)
set_option maxRecDepth 10000 in
theorem ml_X10_229 : ML RX10 229 yX10_look := Or.inl (tbt5 239 rfl rfl)
set_option maxRecDepth 10000 in
theorem ml_X10_220 : ML RX10 220 yX10_measure := Or.inl (tbt6 3 rfl rfl)
set_option maxRecDepth 10000 in
theorem kc_X10_205 : Cond.constant RX10 205 (zI (1000000)) ∈ TB := (tbt6 7 rfl rfl)
set_option maxRecDepth 10000 in
theorem kc_X10_206 : Cond.constant RX10 206 (zI (-1000000)) ∈ TB := (tbt6 8 rfl rfl)
set_option maxRecDepth 10000 in
theorem ml_X10_226 : ML RX10 226 yX10_goThrough := Or.inl (tbt6 9 rfl rfl)
set_option maxRecDepth 10000 in
theorem ml_X10_213 : ML RX10 213 yX10_cuts := Or.inl (tbt6 13 rfl rfl)
set_option maxRecDepth 10000 in
theorem ml_X10_217 : ML RX10 217 yX10_goes := Or.inl (tbt6 17 rfl rfl)
set_option maxRecDepth 10000 in
theorem ml_L_141 : ML RL 141 yX10_way := Or.inl (tbt6 21 rfl rfl)
set_option maxRecDepth 10000 in
theorem ml_L_145 : ML RL 145 yX10_ways := Or.inl (tbt6 25 rfl rfl)
set_option maxRecDepth 10000 in
theorem ml_L_149 : ML RL 149 yX10_count := Or.inl (tbt6 29 rfl rfl)
section JROWS4
variable {κ : KT} {cc : ByteArray} {own : String} {fr : Nat} {lay : lyT} {ad : Nat → Nat} {cn sn pc : Nat} {st : List av} {w : wd}
set_option maxRecDepth 10000 in
theorem s_0 (X : Okk κ cc own fr) {a0 : Option av} {r : List (Option av)} {a : Int} (hd : decode cc pc = .ok (.istore_n 0, 1)) (hn : noL (a0 :: r) = true) (k : J κ lay ad cn sn (pc + 1) (some (vI a) :: r) st w) : J κ lay ad cn sn pc (a0 :: r) (vI a :: st) w := j_istore_ng (i := 0) X hd hn (by show 0 < _; simp only [List.length_cons]; omega) rfl k
set_option maxRecDepth 10000 in
theorem inc_0 (X : Okk κ cc own fr) {r : List (Option av)} {a n : Int} (hd : decode cc pc = .ok (.iinc 0 n, 3)) (hn : noL (some (vI a) :: r) = true) (k : J κ lay ad cn sn (pc + 3) (some (vI (a + n)) :: r) st w) : J κ lay ad cn sn pc (some (vI a) :: r) st w := j_iincg X hd hn rfl rfl k
set_option maxRecDepth 10000 in
theorem s_1 (X : Okk κ cc own fr) {a0 : Option av} {a1 : Option av} {r : List (Option av)} {a : Int} (hd : decode cc pc = .ok (.istore_n 1, 1)) (hn : noL (a0 :: a1 :: r) = true) (k : J κ lay ad cn sn (pc + 1) (a0 :: some (vI a) :: r) st w) : J κ lay ad cn sn pc (a0 :: a1 :: r) (vI a :: st) w := j_istore_ng (i := 1) X hd hn (by show 1 < _; simp only [List.length_cons]; omega) rfl k
set_option maxRecDepth 10000 in
theorem sa_1 (X : Okk κ cc own fr) {a0 : Option av} {a1 : Option av} {r : List (Option av)} {a : Nat} (hd : decode cc pc = .ok (.astore_n 1, 1)) (hn : noL (a0 :: a1 :: r) = true) (k : J κ lay ad cn sn (pc + 1) (a0 :: some (vR a) :: r) st w) : J κ lay ad cn sn pc (a0 :: a1 :: r) (vR a :: st) w := j_astore_ng (i := 1) X hd hn (by show 1 < _; simp only [List.length_cons]; omega) rfl k
set_option maxRecDepth 10000 in
theorem inc_1 (X : Okk κ cc own fr) {a0 : Option av} {r : List (Option av)} {a n : Int} (hd : decode cc pc = .ok (.iinc 1 n, 3)) (hn : noL (a0 :: some (vI a) :: r) = true) (k : J κ lay ad cn sn (pc + 3) (a0 :: some (vI (a + n)) :: r) st w) : J κ lay ad cn sn pc (a0 :: some (vI a) :: r) st w := j_iincg X hd hn rfl rfl k
set_option maxRecDepth 10000 in
theorem s_2 (X : Okk κ cc own fr) {a0 a1 : Option av} {a2 : Option av} {r : List (Option av)} {a : Int} (hd : decode cc pc = .ok (.istore_n 2, 1)) (hn : noL (a0 :: a1 :: a2 :: r) = true) (k : J κ lay ad cn sn (pc + 1) (a0 :: a1 :: some (vI a) :: r) st w) : J κ lay ad cn sn pc (a0 :: a1 :: a2 :: r) (vI a :: st) w := j_istore_ng (i := 2) X hd hn (by show 2 < _; simp only [List.length_cons]; omega) rfl k
set_option maxRecDepth 10000 in
theorem sa_2 (X : Okk κ cc own fr) {a0 a1 : Option av} {a2 : Option av} {r : List (Option av)} {a : Nat} (hd : decode cc pc = .ok (.astore_n 2, 1)) (hn : noL (a0 :: a1 :: a2 :: r) = true) (k : J κ lay ad cn sn (pc + 1) (a0 :: a1 :: some (vR a) :: r) st w) : J κ lay ad cn sn pc (a0 :: a1 :: a2 :: r) (vR a :: st) w := j_astore_ng (i := 2) X hd hn (by show 2 < _; simp only [List.length_cons]; omega) rfl k
set_option maxRecDepth 10000 in
theorem inc_2 (X : Okk κ cc own fr) {a0 a1 : Option av} {r : List (Option av)} {a n : Int} (hd : decode cc pc = .ok (.iinc 2 n, 3)) (hn : noL (a0 :: a1 :: some (vI a) :: r) = true) (k : J κ lay ad cn sn (pc + 3) (a0 :: a1 :: some (vI (a + n)) :: r) st w) : J κ lay ad cn sn pc (a0 :: a1 :: some (vI a) :: r) st w := j_iincg X hd hn rfl rfl k
set_option maxRecDepth 10000 in
theorem s_3 (X : Okk κ cc own fr) {a0 a1 a2 : Option av} {a3 : Option av} {r : List (Option av)} {a : Int} (hd : decode cc pc = .ok (.istore_n 3, 1)) (hn : noL (a0 :: a1 :: a2 :: a3 :: r) = true) (k : J κ lay ad cn sn (pc + 1) (a0 :: a1 :: a2 :: some (vI a) :: r) st w) : J κ lay ad cn sn pc (a0 :: a1 :: a2 :: a3 :: r) (vI a :: st) w := j_istore_ng (i := 3) X hd hn (by show 3 < _; simp only [List.length_cons]; omega) rfl k
set_option maxRecDepth 10000 in
theorem sa_3 (X : Okk κ cc own fr) {a0 a1 a2 : Option av} {a3 : Option av} {r : List (Option av)} {a : Nat} (hd : decode cc pc = .ok (.astore_n 3, 1)) (hn : noL (a0 :: a1 :: a2 :: a3 :: r) = true) (k : J κ lay ad cn sn (pc + 1) (a0 :: a1 :: a2 :: some (vR a) :: r) st w) : J κ lay ad cn sn pc (a0 :: a1 :: a2 :: a3 :: r) (vR a :: st) w := j_astore_ng (i := 3) X hd hn (by show 3 < _; simp only [List.length_cons]; omega) rfl k
set_option maxRecDepth 10000 in
theorem inc_3 (X : Okk κ cc own fr) {a0 a1 a2 : Option av} {r : List (Option av)} {a n : Int} (hd : decode cc pc = .ok (.iinc 3 n, 3)) (hn : noL (a0 :: a1 :: a2 :: some (vI a) :: r) = true) (k : J κ lay ad cn sn (pc + 3) (a0 :: a1 :: a2 :: some (vI (a + n)) :: r) st w) : J κ lay ad cn sn pc (a0 :: a1 :: a2 :: some (vI a) :: r) st w := j_iincg X hd hn rfl rfl k
set_option maxRecDepth 10000 in
theorem s_4 (X : Okk κ cc own fr) {a0 a1 a2 a3 : Option av} {a4 : Option av} {r : List (Option av)} {a : Int} (hd : decode cc pc = .ok (.istore 4, 2)) (hn : noL (a0 :: a1 :: a2 :: a3 :: a4 :: r) = true) (k : J κ lay ad cn sn (pc + 2) (a0 :: a1 :: a2 :: a3 :: some (vI a) :: r) st w) : J κ lay ad cn sn pc (a0 :: a1 :: a2 :: a3 :: a4 :: r) (vI a :: st) w := j_istoreg X hd hn (by simp only [List.length_cons]; omega) rfl k
set_option maxRecDepth 10000 in
theorem inc_4 (X : Okk κ cc own fr) {a0 a1 a2 a3 : Option av} {r : List (Option av)} {a n : Int} (hd : decode cc pc = .ok (.iinc 4 n, 3)) (hn : noL (a0 :: a1 :: a2 :: a3 :: some (vI a) :: r) = true) (k : J κ lay ad cn sn (pc + 3) (a0 :: a1 :: a2 :: a3 :: some (vI (a + n)) :: r) st w) : J κ lay ad cn sn pc (a0 :: a1 :: a2 :: a3 :: some (vI a) :: r) st w := j_iincg X hd hn rfl rfl k
set_option maxRecDepth 10000 in
theorem s_5 (X : Okk κ cc own fr) {a0 a1 a2 a3 a4 : Option av} {a5 : Option av} {r : List (Option av)} {a : Int} (hd : decode cc pc = .ok (.istore 5, 2)) (hn : noL (a0 :: a1 :: a2 :: a3 :: a4 :: a5 :: r) = true) (k : J κ lay ad cn sn (pc + 2) (a0 :: a1 :: a2 :: a3 :: a4 :: some (vI a) :: r) st w) : J κ lay ad cn sn pc (a0 :: a1 :: a2 :: a3 :: a4 :: a5 :: r) (vI a :: st) w := j_istoreg X hd hn (by simp only [List.length_cons]; omega) rfl k
set_option maxRecDepth 10000 in
theorem inc_5 (X : Okk κ cc own fr) {a0 a1 a2 a3 a4 : Option av} {r : List (Option av)} {a n : Int} (hd : decode cc pc = .ok (.iinc 5 n, 3)) (hn : noL (a0 :: a1 :: a2 :: a3 :: a4 :: some (vI a) :: r) = true) (k : J κ lay ad cn sn (pc + 3) (a0 :: a1 :: a2 :: a3 :: a4 :: some (vI (a + n)) :: r) st w) : J κ lay ad cn sn pc (a0 :: a1 :: a2 :: a3 :: a4 :: some (vI a) :: r) st w := j_iincg X hd hn rfl rfl k
set_option maxRecDepth 10000 in
theorem s_6 (X : Okk κ cc own fr) {a0 a1 a2 a3 a4 a5 : Option av} {a6 : Option av} {r : List (Option av)} {a : Int} (hd : decode cc pc = .ok (.istore 6, 2)) (hn : noL (a0 :: a1 :: a2 :: a3 :: a4 :: a5 :: a6 :: r) = true) (k : J κ lay ad cn sn (pc + 2) (a0 :: a1 :: a2 :: a3 :: a4 :: a5 :: some (vI a) :: r) st w) : J κ lay ad cn sn pc (a0 :: a1 :: a2 :: a3 :: a4 :: a5 :: a6 :: r) (vI a :: st) w := j_istoreg X hd hn (by simp only [List.length_cons]; omega) rfl k
set_option maxRecDepth 10000 in
theorem inc_6 (X : Okk κ cc own fr) {a0 a1 a2 a3 a4 a5 : Option av} {r : List (Option av)} {a n : Int} (hd : decode cc pc = .ok (.iinc 6 n, 3)) (hn : noL (a0 :: a1 :: a2 :: a3 :: a4 :: a5 :: some (vI a) :: r) = true) (k : J κ lay ad cn sn (pc + 3) (a0 :: a1 :: a2 :: a3 :: a4 :: a5 :: some (vI (a + n)) :: r) st w) : J κ lay ad cn sn pc (a0 :: a1 :: a2 :: a3 :: a4 :: a5 :: some (vI a) :: r) st w := j_iincg X hd hn rfl rfl k
set_option maxRecDepth 10000 in
theorem s_7 (X : Okk κ cc own fr) {a0 a1 a2 a3 a4 a5 a6 : Option av} {a7 : Option av} {r : List (Option av)} {a : Int} (hd : decode cc pc = .ok (.istore 7, 2)) (hn : noL (a0 :: a1 :: a2 :: a3 :: a4 :: a5 :: a6 :: a7 :: r) = true) (k : J κ lay ad cn sn (pc + 2) (a0 :: a1 :: a2 :: a3 :: a4 :: a5 :: a6 :: some (vI a) :: r) st w) : J κ lay ad cn sn pc (a0 :: a1 :: a2 :: a3 :: a4 :: a5 :: a6 :: a7 :: r) (vI a :: st) w := j_istoreg X hd hn (by simp only [List.length_cons]; omega) rfl k
set_option maxRecDepth 10000 in
theorem inc_7 (X : Okk κ cc own fr) {a0 a1 a2 a3 a4 a5 a6 : Option av} {r : List (Option av)} {a n : Int} (hd : decode cc pc = .ok (.iinc 7 n, 3)) (hn : noL (a0 :: a1 :: a2 :: a3 :: a4 :: a5 :: a6 :: some (vI a) :: r) = true) (k : J κ lay ad cn sn (pc + 3) (a0 :: a1 :: a2 :: a3 :: a4 :: a5 :: a6 :: some (vI (a + n)) :: r) st w) : J κ lay ad cn sn pc (a0 :: a1 :: a2 :: a3 :: a4 :: a5 :: a6 :: some (vI a) :: r) st w := j_iincg X hd hn rfl rfl k
set_option maxRecDepth 10000 in
theorem s_8 (X : Okk κ cc own fr) {a0 a1 a2 a3 a4 a5 a6 a7 : Option av} {a8 : Option av} {r : List (Option av)} {a : Int} (hd : decode cc pc = .ok (.istore 8, 2)) (hn : noL (a0 :: a1 :: a2 :: a3 :: a4 :: a5 :: a6 :: a7 :: a8 :: r) = true) (k : J κ lay ad cn sn (pc + 2) (a0 :: a1 :: a2 :: a3 :: a4 :: a5 :: a6 :: a7 :: some (vI a) :: r) st w) : J κ lay ad cn sn pc (a0 :: a1 :: a2 :: a3 :: a4 :: a5 :: a6 :: a7 :: a8 :: r) (vI a :: st) w := j_istoreg X hd hn (by simp only [List.length_cons]; omega) rfl k
set_option maxRecDepth 10000 in
theorem inc_8 (X : Okk κ cc own fr) {a0 a1 a2 a3 a4 a5 a6 a7 : Option av} {r : List (Option av)} {a n : Int} (hd : decode cc pc = .ok (.iinc 8 n, 3)) (hn : noL (a0 :: a1 :: a2 :: a3 :: a4 :: a5 :: a6 :: a7 :: some (vI a) :: r) = true) (k : J κ lay ad cn sn (pc + 3) (a0 :: a1 :: a2 :: a3 :: a4 :: a5 :: a6 :: a7 :: some (vI (a + n)) :: r) st w) : J κ lay ad cn sn pc (a0 :: a1 :: a2 :: a3 :: a4 :: a5 :: a6 :: a7 :: some (vI a) :: r) st w := j_iincg X hd hn rfl rfl k
set_option maxRecDepth 10000 in
theorem s_9 (X : Okk κ cc own fr) {a0 a1 a2 a3 a4 a5 a6 a7 a8 : Option av} {a9 : Option av} {r : List (Option av)} {a : Int} (hd : decode cc pc = .ok (.istore 9, 2)) (hn : noL (a0 :: a1 :: a2 :: a3 :: a4 :: a5 :: a6 :: a7 :: a8 :: a9 :: r) = true) (k : J κ lay ad cn sn (pc + 2) (a0 :: a1 :: a2 :: a3 :: a4 :: a5 :: a6 :: a7 :: a8 :: some (vI a) :: r) st w) : J κ lay ad cn sn pc (a0 :: a1 :: a2 :: a3 :: a4 :: a5 :: a6 :: a7 :: a8 :: a9 :: r) (vI a :: st) w := j_istoreg X hd hn (by simp only [List.length_cons]; omega) rfl k
set_option maxRecDepth 10000 in
theorem inc_9 (X : Okk κ cc own fr) {a0 a1 a2 a3 a4 a5 a6 a7 a8 : Option av} {r : List (Option av)} {a n : Int} (hd : decode cc pc = .ok (.iinc 9 n, 3)) (hn : noL (a0 :: a1 :: a2 :: a3 :: a4 :: a5 :: a6 :: a7 :: a8 :: some (vI a) :: r) = true) (k : J κ lay ad cn sn (pc + 3) (a0 :: a1 :: a2 :: a3 :: a4 :: a5 :: a6 :: a7 :: a8 :: some (vI (a + n)) :: r) st w) : J κ lay ad cn sn pc (a0 :: a1 :: a2 :: a3 :: a4 :: a5 :: a6 :: a7 :: a8 :: some (vI a) :: r) st w := j_iincg X hd hn rfl rfl k
set_option maxRecDepth 10000 in
theorem s_10 (X : Okk κ cc own fr) {a0 a1 a2 a3 a4 a5 a6 a7 a8 a9 : Option av} {a10 : Option av} {r : List (Option av)} {a : Int} (hd : decode cc pc = .ok (.istore 10, 2)) (hn : noL (a0 :: a1 :: a2 :: a3 :: a4 :: a5 :: a6 :: a7 :: a8 :: a9 :: a10 :: r) = true) (k : J κ lay ad cn sn (pc + 2) (a0 :: a1 :: a2 :: a3 :: a4 :: a5 :: a6 :: a7 :: a8 :: a9 :: some (vI a) :: r) st w) : J κ lay ad cn sn pc (a0 :: a1 :: a2 :: a3 :: a4 :: a5 :: a6 :: a7 :: a8 :: a9 :: a10 :: r) (vI a :: st) w := j_istoreg X hd hn (by simp only [List.length_cons]; omega) rfl k
set_option maxRecDepth 10000 in
theorem inc_10 (X : Okk κ cc own fr) {a0 a1 a2 a3 a4 a5 a6 a7 a8 a9 : Option av} {r : List (Option av)} {a n : Int} (hd : decode cc pc = .ok (.iinc 10 n, 3)) (hn : noL (a0 :: a1 :: a2 :: a3 :: a4 :: a5 :: a6 :: a7 :: a8 :: a9 :: some (vI a) :: r) = true) (k : J κ lay ad cn sn (pc + 3) (a0 :: a1 :: a2 :: a3 :: a4 :: a5 :: a6 :: a7 :: a8 :: a9 :: some (vI (a + n)) :: r) st w) : J κ lay ad cn sn pc (a0 :: a1 :: a2 :: a3 :: a4 :: a5 :: a6 :: a7 :: a8 :: a9 :: some (vI a) :: r) st w := j_iincg X hd hn rfl rfl k
set_option maxRecDepth 10000 in
theorem s_11 (X : Okk κ cc own fr) {a0 a1 a2 a3 a4 a5 a6 a7 a8 a9 a10 : Option av} {a11 : Option av} {r : List (Option av)} {a : Int} (hd : decode cc pc = .ok (.istore 11, 2)) (hn : noL (a0 :: a1 :: a2 :: a3 :: a4 :: a5 :: a6 :: a7 :: a8 :: a9 :: a10 :: a11 :: r) = true) (k : J κ lay ad cn sn (pc + 2) (a0 :: a1 :: a2 :: a3 :: a4 :: a5 :: a6 :: a7 :: a8 :: a9 :: a10 :: some (vI a) :: r) st w) : J κ lay ad cn sn pc (a0 :: a1 :: a2 :: a3 :: a4 :: a5 :: a6 :: a7 :: a8 :: a9 :: a10 :: a11 :: r) (vI a :: st) w := j_istoreg X hd hn (by simp only [List.length_cons]; omega) rfl k
set_option maxRecDepth 10000 in
theorem inc_11 (X : Okk κ cc own fr) {a0 a1 a2 a3 a4 a5 a6 a7 a8 a9 a10 : Option av} {r : List (Option av)} {a n : Int} (hd : decode cc pc = .ok (.iinc 11 n, 3)) (hn : noL (a0 :: a1 :: a2 :: a3 :: a4 :: a5 :: a6 :: a7 :: a8 :: a9 :: a10 :: some (vI a) :: r) = true) (k : J κ lay ad cn sn (pc + 3) (a0 :: a1 :: a2 :: a3 :: a4 :: a5 :: a6 :: a7 :: a8 :: a9 :: a10 :: some (vI (a + n)) :: r) st w) : J κ lay ad cn sn pc (a0 :: a1 :: a2 :: a3 :: a4 :: a5 :: a6 :: a7 :: a8 :: a9 :: a10 :: some (vI a) :: r) st w := j_iincg X hd hn rfl rfl k
set_option maxRecDepth 10000 in
theorem s_12 (X : Okk κ cc own fr) {a0 a1 a2 a3 a4 a5 a6 a7 a8 a9 a10 a11 : Option av} {a12 : Option av} {r : List (Option av)} {a : Int} (hd : decode cc pc = .ok (.istore 12, 2)) (hn : noL (a0 :: a1 :: a2 :: a3 :: a4 :: a5 :: a6 :: a7 :: a8 :: a9 :: a10 :: a11 :: a12 :: r) = true) (k : J κ lay ad cn sn (pc + 2) (a0 :: a1 :: a2 :: a3 :: a4 :: a5 :: a6 :: a7 :: a8 :: a9 :: a10 :: a11 :: some (vI a) :: r) st w) : J κ lay ad cn sn pc (a0 :: a1 :: a2 :: a3 :: a4 :: a5 :: a6 :: a7 :: a8 :: a9 :: a10 :: a11 :: a12 :: r) (vI a :: st) w := j_istoreg X hd hn (by simp only [List.length_cons]; omega) rfl k
set_option maxRecDepth 10000 in
theorem inc_12 (X : Okk κ cc own fr) {a0 a1 a2 a3 a4 a5 a6 a7 a8 a9 a10 a11 : Option av} {r : List (Option av)} {a n : Int} (hd : decode cc pc = .ok (.iinc 12 n, 3)) (hn : noL (a0 :: a1 :: a2 :: a3 :: a4 :: a5 :: a6 :: a7 :: a8 :: a9 :: a10 :: a11 :: some (vI a) :: r) = true) (k : J κ lay ad cn sn (pc + 3) (a0 :: a1 :: a2 :: a3 :: a4 :: a5 :: a6 :: a7 :: a8 :: a9 :: a10 :: a11 :: some (vI (a + n)) :: r) st w) : J κ lay ad cn sn pc (a0 :: a1 :: a2 :: a3 :: a4 :: a5 :: a6 :: a7 :: a8 :: a9 :: a10 :: a11 :: some (vI a) :: r) st w := j_iincg X hd hn rfl rfl k
set_option maxRecDepth 10000 in
theorem s_13 (X : Okk κ cc own fr) {a0 a1 a2 a3 a4 a5 a6 a7 a8 a9 a10 a11 a12 : Option av} {a13 : Option av} {r : List (Option av)} {a : Int} (hd : decode cc pc = .ok (.istore 13, 2)) (hn : noL (a0 :: a1 :: a2 :: a3 :: a4 :: a5 :: a6 :: a7 :: a8 :: a9 :: a10 :: a11 :: a12 :: a13 :: r) = true) (k : J κ lay ad cn sn (pc + 2) (a0 :: a1 :: a2 :: a3 :: a4 :: a5 :: a6 :: a7 :: a8 :: a9 :: a10 :: a11 :: a12 :: some (vI a) :: r) st w) : J κ lay ad cn sn pc (a0 :: a1 :: a2 :: a3 :: a4 :: a5 :: a6 :: a7 :: a8 :: a9 :: a10 :: a11 :: a12 :: a13 :: r) (vI a :: st) w := j_istoreg X hd hn (by simp only [List.length_cons]; omega) rfl k
set_option maxRecDepth 10000 in
theorem inc_13 (X : Okk κ cc own fr) {a0 a1 a2 a3 a4 a5 a6 a7 a8 a9 a10 a11 a12 : Option av} {r : List (Option av)} {a n : Int} (hd : decode cc pc = .ok (.iinc 13 n, 3)) (hn : noL (a0 :: a1 :: a2 :: a3 :: a4 :: a5 :: a6 :: a7 :: a8 :: a9 :: a10 :: a11 :: a12 :: some (vI a) :: r) = true) (k : J κ lay ad cn sn (pc + 3) (a0 :: a1 :: a2 :: a3 :: a4 :: a5 :: a6 :: a7 :: a8 :: a9 :: a10 :: a11 :: a12 :: some (vI (a + n)) :: r) st w) : J κ lay ad cn sn pc (a0 :: a1 :: a2 :: a3 :: a4 :: a5 :: a6 :: a7 :: a8 :: a9 :: a10 :: a11 :: a12 :: some (vI a) :: r) st w := j_iincg X hd hn rfl rfl k
set_option maxRecDepth 10000 in
theorem s_14 (X : Okk κ cc own fr) {a0 a1 a2 a3 a4 a5 a6 a7 a8 a9 a10 a11 a12 a13 : Option av} {a14 : Option av} {r : List (Option av)} {a : Int} (hd : decode cc pc = .ok (.istore 14, 2)) (hn : noL (a0 :: a1 :: a2 :: a3 :: a4 :: a5 :: a6 :: a7 :: a8 :: a9 :: a10 :: a11 :: a12 :: a13 :: a14 :: r) = true) (k : J κ lay ad cn sn (pc + 2) (a0 :: a1 :: a2 :: a3 :: a4 :: a5 :: a6 :: a7 :: a8 :: a9 :: a10 :: a11 :: a12 :: a13 :: some (vI a) :: r) st w) : J κ lay ad cn sn pc (a0 :: a1 :: a2 :: a3 :: a4 :: a5 :: a6 :: a7 :: a8 :: a9 :: a10 :: a11 :: a12 :: a13 :: a14 :: r) (vI a :: st) w := j_istoreg X hd hn (by simp only [List.length_cons]; omega) rfl k
set_option maxRecDepth 10000 in
theorem inc_14 (X : Okk κ cc own fr) {a0 a1 a2 a3 a4 a5 a6 a7 a8 a9 a10 a11 a12 a13 : Option av} {r : List (Option av)} {a n : Int} (hd : decode cc pc = .ok (.iinc 14 n, 3)) (hn : noL (a0 :: a1 :: a2 :: a3 :: a4 :: a5 :: a6 :: a7 :: a8 :: a9 :: a10 :: a11 :: a12 :: a13 :: some (vI a) :: r) = true) (k : J κ lay ad cn sn (pc + 3) (a0 :: a1 :: a2 :: a3 :: a4 :: a5 :: a6 :: a7 :: a8 :: a9 :: a10 :: a11 :: a12 :: a13 :: some (vI (a + n)) :: r) st w) : J κ lay ad cn sn pc (a0 :: a1 :: a2 :: a3 :: a4 :: a5 :: a6 :: a7 :: a8 :: a9 :: a10 :: a11 :: a12 :: a13 :: some (vI a) :: r) st w := j_iincg X hd hn rfl rfl k
set_option maxRecDepth 10000 in
theorem s_15 (X : Okk κ cc own fr) {a0 a1 a2 a3 a4 a5 a6 a7 a8 a9 a10 a11 a12 a13 a14 : Option av} {a15 : Option av} {r : List (Option av)} {a : Int} (hd : decode cc pc = .ok (.istore 15, 2)) (hn : noL (a0 :: a1 :: a2 :: a3 :: a4 :: a5 :: a6 :: a7 :: a8 :: a9 :: a10 :: a11 :: a12 :: a13 :: a14 :: a15 :: r) = true) (k : J κ lay ad cn sn (pc + 2) (a0 :: a1 :: a2 :: a3 :: a4 :: a5 :: a6 :: a7 :: a8 :: a9 :: a10 :: a11 :: a12 :: a13 :: a14 :: some (vI a) :: r) st w) : J κ lay ad cn sn pc (a0 :: a1 :: a2 :: a3 :: a4 :: a5 :: a6 :: a7 :: a8 :: a9 :: a10 :: a11 :: a12 :: a13 :: a14 :: a15 :: r) (vI a :: st) w := j_istoreg X hd hn (by simp only [List.length_cons]; omega) rfl k
set_option maxRecDepth 10000 in
theorem inc_15 (X : Okk κ cc own fr) {a0 a1 a2 a3 a4 a5 a6 a7 a8 a9 a10 a11 a12 a13 a14 : Option av} {r : List (Option av)} {a n : Int} (hd : decode cc pc = .ok (.iinc 15 n, 3)) (hn : noL (a0 :: a1 :: a2 :: a3 :: a4 :: a5 :: a6 :: a7 :: a8 :: a9 :: a10 :: a11 :: a12 :: a13 :: a14 :: some (vI a) :: r) = true) (k : J κ lay ad cn sn (pc + 3) (a0 :: a1 :: a2 :: a3 :: a4 :: a5 :: a6 :: a7 :: a8 :: a9 :: a10 :: a11 :: a12 :: a13 :: a14 :: some (vI (a + n)) :: r) st w) : J κ lay ad cn sn pc (a0 :: a1 :: a2 :: a3 :: a4 :: a5 :: a6 :: a7 :: a8 :: a9 :: a10 :: a11 :: a12 :: a13 :: a14 :: some (vI a) :: r) st w := j_iincg X hd hn rfl rfl k
variable {ls : List (Option av)} {y : MethodName} {cy : ByteArray} {nLy : Nat} {ty : FieldType} {d idx : Nat}
set_option maxRecDepth 10000 in
theorem cV0i (X : Okk κ cc own fr) {P : Int → wd → Prop} {o ci N : Nat} {T : u_T} {fs : List (Option (Option Nat))} (hm : MF y cy nLy (some ty) 0) (hv : MV y) (hl : ML own idx y) (hd2 : d + 1 ≤ fr) (hlay : lay[o]? = some (.inl (ci, fs))) (hc : vwCl[ci]? = some (y.cls, T, N)) (hr : ((st.map (cv ad)).map fun v => v.category).sum ≤ 8) (hd : decode cc pc = .ok (.invokevirtual idx, 3)) (hM : CalI y cy nLy ty d lay w [vR o] P) (k : ∀ a w', P a w' → J κ lay ad 0 0 (pc + 3) ls (vI a :: st) w') : J κ lay ad 0 0 pc ls (vR o :: st) w := jc_Vi X csOk_0 hm hv hl hd2 hlay hc (avs := []) rfl rfl hr hd hM k
set_option maxRecDepth 10000 in
theorem cS0i (X : Okk κ cc own fr) {P : Int → wd → Prop} (hm : MF y cy nLy (some ty) 0) (hv : Cond.static y ∈ TB) (hl : ML own idx y) (hd2 : d + 1 ≤ fr) (hr : ((st.map (cv ad)).map fun v => v.category).sum ≤ 8) (hd : decode cc pc = .ok (.invokestatic idx, 3)) (hM : CalI y cy nLy ty d lay w [] P) (k : ∀ a w', P a w' → J κ lay ad 0 0 (pc + 3) ls (vI a :: st) w') : J κ lay ad 0 0 pc ls (st) w := jc_Si X csOk_0 hm hv hl hd2 (avs := []) rfl rfl hr hd hM k
set_option maxRecDepth 10000 in
theorem cV0v (X : Okk κ cc own fr) {P : wd → Prop} {o ci N : Nat} {T : u_T} {fs : List (Option (Option Nat))} (hm : MF y cy nLy none 0) (hv : MV y) (hl : ML own idx y) (hd2 : d + 1 ≤ fr) (hlay : lay[o]? = some (.inl (ci, fs))) (hc : vwCl[ci]? = some (y.cls, T, N)) (hr : ((st.map (cv ad)).map fun v => v.category).sum ≤ 8) (hd : decode cc pc = .ok (.invokevirtual idx, 3)) (hM : CalV y cy nLy d lay w [vR o] P) (k : ∀ w', P w' → J κ lay ad 0 0 (pc + 3) ls st w') : J κ lay ad 0 0 pc ls (vR o :: st) w := jc_Vv X csOk_0 hm hv hl hd2 hlay hc (avs := []) rfl rfl hr hd hM k
set_option maxRecDepth 10000 in
theorem cS0v (X : Okk κ cc own fr) {P : wd → Prop} (hm : MF y cy nLy none 0) (hv : Cond.static y ∈ TB) (hl : ML own idx y) (hd2 : d + 1 ≤ fr) (hr : ((st.map (cv ad)).map fun v => v.category).sum ≤ 8) (hd : decode cc pc = .ok (.invokestatic idx, 3)) (hM : CalV y cy nLy d lay w [] P) (k : ∀ w', P w' → J κ lay ad 0 0 (pc + 3) ls st w') : J κ lay ad 0 0 pc ls (st) w := jc_Sv X csOk_0 hm hv hl hd2 (avs := []) rfl rfl hr hd hM k
set_option maxRecDepth 10000 in
theorem cV1i (X : Okk κ cc own fr) {P : Int → wd → Prop} {x1 : av} {o ci N : Nat} {T : u_T} {fs : List (Option (Option Nat))} (hm : MF y cy nLy (some ty) 1) (hv : MV y) (hl : ML own idx y) (hd2 : d + 1 ≤ fr) (hlay : lay[o]? = some (.inl (ci, fs))) (hc : vwCl[ci]? = some (y.cls, T, N)) (hr : ((st.map (cv ad)).map fun v => v.category).sum ≤ 8) (hd : decode cc pc = .ok (.invokevirtual idx, 3)) (hM : CalI y cy nLy ty d lay w [vR o, x1] P) (k : ∀ a w', P a w' → J κ lay ad 0 0 (pc + 3) ls (vI a :: st) w') : J κ lay ad 0 0 pc ls (x1 :: vR o :: st) w := jc_Vi X csOk_0 hm hv hl hd2 hlay hc (avs := [x1]) rfl rfl hr hd hM k
set_option maxRecDepth 10000 in
theorem cS1i (X : Okk κ cc own fr) {P : Int → wd → Prop} {x1 : av} (hm : MF y cy nLy (some ty) 1) (hv : Cond.static y ∈ TB) (hl : ML own idx y) (hd2 : d + 1 ≤ fr) (hr : ((st.map (cv ad)).map fun v => v.category).sum ≤ 8) (hd : decode cc pc = .ok (.invokestatic idx, 3)) (hM : CalI y cy nLy ty d lay w [x1] P) (k : ∀ a w', P a w' → J κ lay ad 0 0 (pc + 3) ls (vI a :: st) w') : J κ lay ad 0 0 pc ls (x1 :: st) w := jc_Si X csOk_0 hm hv hl hd2 (avs := [x1]) rfl rfl hr hd hM k
set_option maxRecDepth 10000 in
theorem cV1v (X : Okk κ cc own fr) {P : wd → Prop} {x1 : av} {o ci N : Nat} {T : u_T} {fs : List (Option (Option Nat))} (hm : MF y cy nLy none 1) (hv : MV y) (hl : ML own idx y) (hd2 : d + 1 ≤ fr) (hlay : lay[o]? = some (.inl (ci, fs))) (hc : vwCl[ci]? = some (y.cls, T, N)) (hr : ((st.map (cv ad)).map fun v => v.category).sum ≤ 8) (hd : decode cc pc = .ok (.invokevirtual idx, 3)) (hM : CalV y cy nLy d lay w [vR o, x1] P) (k : ∀ w', P w' → J κ lay ad 0 0 (pc + 3) ls st w') : J κ lay ad 0 0 pc ls (x1 :: vR o :: st) w := jc_Vv X csOk_0 hm hv hl hd2 hlay hc (avs := [x1]) rfl rfl hr hd hM k
set_option maxRecDepth 10000 in
theorem cS1v (X : Okk κ cc own fr) {P : wd → Prop} {x1 : av} (hm : MF y cy nLy none 1) (hv : Cond.static y ∈ TB) (hl : ML own idx y) (hd2 : d + 1 ≤ fr) (hr : ((st.map (cv ad)).map fun v => v.category).sum ≤ 8) (hd : decode cc pc = .ok (.invokestatic idx, 3)) (hM : CalV y cy nLy d lay w [x1] P) (k : ∀ w', P w' → J κ lay ad 0 0 (pc + 3) ls st w') : J κ lay ad 0 0 pc ls (x1 :: st) w := jc_Sv X csOk_0 hm hv hl hd2 (avs := [x1]) rfl rfl hr hd hM k
set_option maxRecDepth 10000 in
theorem cV2i (X : Okk κ cc own fr) {P : Int → wd → Prop} {x1 x2 : av} {o ci N : Nat} {T : u_T} {fs : List (Option (Option Nat))} (hm : MF y cy nLy (some ty) 2) (hv : MV y) (hl : ML own idx y) (hd2 : d + 1 ≤ fr) (hlay : lay[o]? = some (.inl (ci, fs))) (hc : vwCl[ci]? = some (y.cls, T, N)) (hr : ((st.map (cv ad)).map fun v => v.category).sum ≤ 8) (hd : decode cc pc = .ok (.invokevirtual idx, 3)) (hM : CalI y cy nLy ty d lay w [vR o, x1, x2] P) (k : ∀ a w', P a w' → J κ lay ad 0 0 (pc + 3) ls (vI a :: st) w') : J κ lay ad 0 0 pc ls (x2 :: x1 :: vR o :: st) w := jc_Vi X csOk_0 hm hv hl hd2 hlay hc (avs := [x1, x2]) rfl rfl hr hd hM k
set_option maxRecDepth 10000 in
theorem cS2i (X : Okk κ cc own fr) {P : Int → wd → Prop} {x1 x2 : av} (hm : MF y cy nLy (some ty) 2) (hv : Cond.static y ∈ TB) (hl : ML own idx y) (hd2 : d + 1 ≤ fr) (hr : ((st.map (cv ad)).map fun v => v.category).sum ≤ 8) (hd : decode cc pc = .ok (.invokestatic idx, 3)) (hM : CalI y cy nLy ty d lay w [x1, x2] P) (k : ∀ a w', P a w' → J κ lay ad 0 0 (pc + 3) ls (vI a :: st) w') : J κ lay ad 0 0 pc ls (x2 :: x1 :: st) w := jc_Si X csOk_0 hm hv hl hd2 (avs := [x1, x2]) rfl rfl hr hd hM k
set_option maxRecDepth 10000 in
theorem cV2v (X : Okk κ cc own fr) {P : wd → Prop} {x1 x2 : av} {o ci N : Nat} {T : u_T} {fs : List (Option (Option Nat))} (hm : MF y cy nLy none 2) (hv : MV y) (hl : ML own idx y) (hd2 : d + 1 ≤ fr) (hlay : lay[o]? = some (.inl (ci, fs))) (hc : vwCl[ci]? = some (y.cls, T, N)) (hr : ((st.map (cv ad)).map fun v => v.category).sum ≤ 8) (hd : decode cc pc = .ok (.invokevirtual idx, 3)) (hM : CalV y cy nLy d lay w [vR o, x1, x2] P) (k : ∀ w', P w' → J κ lay ad 0 0 (pc + 3) ls st w') : J κ lay ad 0 0 pc ls (x2 :: x1 :: vR o :: st) w := jc_Vv X csOk_0 hm hv hl hd2 hlay hc (avs := [x1, x2]) rfl rfl hr hd hM k
set_option maxRecDepth 10000 in
theorem cS2v (X : Okk κ cc own fr) {P : wd → Prop} {x1 x2 : av} (hm : MF y cy nLy none 2) (hv : Cond.static y ∈ TB) (hl : ML own idx y) (hd2 : d + 1 ≤ fr) (hr : ((st.map (cv ad)).map fun v => v.category).sum ≤ 8) (hd : decode cc pc = .ok (.invokestatic idx, 3)) (hM : CalV y cy nLy d lay w [x1, x2] P) (k : ∀ w', P w' → J κ lay ad 0 0 (pc + 3) ls st w') : J κ lay ad 0 0 pc ls (x2 :: x1 :: st) w := jc_Sv X csOk_0 hm hv hl hd2 (avs := [x1, x2]) rfl rfl hr hd hM k
set_option maxRecDepth 10000 in
theorem cV3i (X : Okk κ cc own fr) {P : Int → wd → Prop} {x1 x2 x3 : av} {o ci N : Nat} {T : u_T} {fs : List (Option (Option Nat))} (hm : MF y cy nLy (some ty) 3) (hv : MV y) (hl : ML own idx y) (hd2 : d + 1 ≤ fr) (hlay : lay[o]? = some (.inl (ci, fs))) (hc : vwCl[ci]? = some (y.cls, T, N)) (hr : ((st.map (cv ad)).map fun v => v.category).sum ≤ 8) (hd : decode cc pc = .ok (.invokevirtual idx, 3)) (hM : CalI y cy nLy ty d lay w [vR o, x1, x2, x3] P) (k : ∀ a w', P a w' → J κ lay ad 0 0 (pc + 3) ls (vI a :: st) w') : J κ lay ad 0 0 pc ls (x3 :: x2 :: x1 :: vR o :: st) w := jc_Vi X csOk_0 hm hv hl hd2 hlay hc (avs := [x1, x2, x3]) rfl rfl hr hd hM k
set_option maxRecDepth 10000 in
theorem cS3i (X : Okk κ cc own fr) {P : Int → wd → Prop} {x1 x2 x3 : av} (hm : MF y cy nLy (some ty) 3) (hv : Cond.static y ∈ TB) (hl : ML own idx y) (hd2 : d + 1 ≤ fr) (hr : ((st.map (cv ad)).map fun v => v.category).sum ≤ 8) (hd : decode cc pc = .ok (.invokestatic idx, 3)) (hM : CalI y cy nLy ty d lay w [x1, x2, x3] P) (k : ∀ a w', P a w' → J κ lay ad 0 0 (pc + 3) ls (vI a :: st) w') : J κ lay ad 0 0 pc ls (x3 :: x2 :: x1 :: st) w := jc_Si X csOk_0 hm hv hl hd2 (avs := [x1, x2, x3]) rfl rfl hr hd hM k
set_option maxRecDepth 10000 in
theorem cV3v (X : Okk κ cc own fr) {P : wd → Prop} {x1 x2 x3 : av} {o ci N : Nat} {T : u_T} {fs : List (Option (Option Nat))} (hm : MF y cy nLy none 3) (hv : MV y) (hl : ML own idx y) (hd2 : d + 1 ≤ fr) (hlay : lay[o]? = some (.inl (ci, fs))) (hc : vwCl[ci]? = some (y.cls, T, N)) (hr : ((st.map (cv ad)).map fun v => v.category).sum ≤ 8) (hd : decode cc pc = .ok (.invokevirtual idx, 3)) (hM : CalV y cy nLy d lay w [vR o, x1, x2, x3] P) (k : ∀ w', P w' → J κ lay ad 0 0 (pc + 3) ls st w') : J κ lay ad 0 0 pc ls (x3 :: x2 :: x1 :: vR o :: st) w := jc_Vv X csOk_0 hm hv hl hd2 hlay hc (avs := [x1, x2, x3]) rfl rfl hr hd hM k
set_option maxRecDepth 10000 in
theorem cS3v (X : Okk κ cc own fr) {P : wd → Prop} {x1 x2 x3 : av} (hm : MF y cy nLy none 3) (hv : Cond.static y ∈ TB) (hl : ML own idx y) (hd2 : d + 1 ≤ fr) (hr : ((st.map (cv ad)).map fun v => v.category).sum ≤ 8) (hd : decode cc pc = .ok (.invokestatic idx, 3)) (hM : CalV y cy nLy d lay w [x1, x2, x3] P) (k : ∀ w', P w' → J κ lay ad 0 0 (pc + 3) ls st w') : J κ lay ad 0 0 pc ls (x3 :: x2 :: x1 :: st) w := jc_Sv X csOk_0 hm hv hl hd2 (avs := [x1, x2, x3]) rfl rfl hr hd hM k
set_option maxRecDepth 10000 in
theorem cV4i (X : Okk κ cc own fr) {P : Int → wd → Prop} {x1 x2 x3 x4 : av} {o ci N : Nat} {T : u_T} {fs : List (Option (Option Nat))} (hm : MF y cy nLy (some ty) 4) (hv : MV y) (hl : ML own idx y) (hd2 : d + 1 ≤ fr) (hlay : lay[o]? = some (.inl (ci, fs))) (hc : vwCl[ci]? = some (y.cls, T, N)) (hr : ((st.map (cv ad)).map fun v => v.category).sum ≤ 8) (hd : decode cc pc = .ok (.invokevirtual idx, 3)) (hM : CalI y cy nLy ty d lay w [vR o, x1, x2, x3, x4] P) (k : ∀ a w', P a w' → J κ lay ad 0 0 (pc + 3) ls (vI a :: st) w') : J κ lay ad 0 0 pc ls (x4 :: x3 :: x2 :: x1 :: vR o :: st) w := jc_Vi X csOk_0 hm hv hl hd2 hlay hc (avs := [x1, x2, x3, x4]) rfl rfl hr hd hM k
set_option maxRecDepth 10000 in
theorem cS4i (X : Okk κ cc own fr) {P : Int → wd → Prop} {x1 x2 x3 x4 : av} (hm : MF y cy nLy (some ty) 4) (hv : Cond.static y ∈ TB) (hl : ML own idx y) (hd2 : d + 1 ≤ fr) (hr : ((st.map (cv ad)).map fun v => v.category).sum ≤ 8) (hd : decode cc pc = .ok (.invokestatic idx, 3)) (hM : CalI y cy nLy ty d lay w [x1, x2, x3, x4] P) (k : ∀ a w', P a w' → J κ lay ad 0 0 (pc + 3) ls (vI a :: st) w') : J κ lay ad 0 0 pc ls (x4 :: x3 :: x2 :: x1 :: st) w := jc_Si X csOk_0 hm hv hl hd2 (avs := [x1, x2, x3, x4]) rfl rfl hr hd hM k
set_option maxRecDepth 10000 in
theorem cV4v (X : Okk κ cc own fr) {P : wd → Prop} {x1 x2 x3 x4 : av} {o ci N : Nat} {T : u_T} {fs : List (Option (Option Nat))} (hm : MF y cy nLy none 4) (hv : MV y) (hl : ML own idx y) (hd2 : d + 1 ≤ fr) (hlay : lay[o]? = some (.inl (ci, fs))) (hc : vwCl[ci]? = some (y.cls, T, N)) (hr : ((st.map (cv ad)).map fun v => v.category).sum ≤ 8) (hd : decode cc pc = .ok (.invokevirtual idx, 3)) (hM : CalV y cy nLy d lay w [vR o, x1, x2, x3, x4] P) (k : ∀ w', P w' → J κ lay ad 0 0 (pc + 3) ls st w') : J κ lay ad 0 0 pc ls (x4 :: x3 :: x2 :: x1 :: vR o :: st) w := jc_Vv X csOk_0 hm hv hl hd2 hlay hc (avs := [x1, x2, x3, x4]) rfl rfl hr hd hM k
set_option maxRecDepth 10000 in
theorem cS4v (X : Okk κ cc own fr) {P : wd → Prop} {x1 x2 x3 x4 : av} (hm : MF y cy nLy none 4) (hv : Cond.static y ∈ TB) (hl : ML own idx y) (hd2 : d + 1 ≤ fr) (hr : ((st.map (cv ad)).map fun v => v.category).sum ≤ 8) (hd : decode cc pc = .ok (.invokestatic idx, 3)) (hM : CalV y cy nLy d lay w [x1, x2, x3, x4] P) (k : ∀ w', P w' → J κ lay ad 0 0 (pc + 3) ls st w') : J κ lay ad 0 0 pc ls (x4 :: x3 :: x2 :: x1 :: st) w := jc_Sv X csOk_0 hm hv hl hd2 (avs := [x1, x2, x3, x4]) rfl rfl hr hd hM k
set_option maxRecDepth 10000 in
theorem cV5i (X : Okk κ cc own fr) {P : Int → wd → Prop} {x1 x2 x3 x4 x5 : av} {o ci N : Nat} {T : u_T} {fs : List (Option (Option Nat))} (hm : MF y cy nLy (some ty) 5) (hv : MV y) (hl : ML own idx y) (hd2 : d + 1 ≤ fr) (hlay : lay[o]? = some (.inl (ci, fs))) (hc : vwCl[ci]? = some (y.cls, T, N)) (hr : ((st.map (cv ad)).map fun v => v.category).sum ≤ 8) (hd : decode cc pc = .ok (.invokevirtual idx, 3)) (hM : CalI y cy nLy ty d lay w [vR o, x1, x2, x3, x4, x5] P) (k : ∀ a w', P a w' → J κ lay ad 0 0 (pc + 3) ls (vI a :: st) w') : J κ lay ad 0 0 pc ls (x5 :: x4 :: x3 :: x2 :: x1 :: vR o :: st) w := jc_Vi X csOk_0 hm hv hl hd2 hlay hc (avs := [x1, x2, x3, x4, x5]) rfl rfl hr hd hM k
set_option maxRecDepth 10000 in
theorem cS5i (X : Okk κ cc own fr) {P : Int → wd → Prop} {x1 x2 x3 x4 x5 : av} (hm : MF y cy nLy (some ty) 5) (hv : Cond.static y ∈ TB) (hl : ML own idx y) (hd2 : d + 1 ≤ fr) (hr : ((st.map (cv ad)).map fun v => v.category).sum ≤ 8) (hd : decode cc pc = .ok (.invokestatic idx, 3)) (hM : CalI y cy nLy ty d lay w [x1, x2, x3, x4, x5] P) (k : ∀ a w', P a w' → J κ lay ad 0 0 (pc + 3) ls (vI a :: st) w') : J κ lay ad 0 0 pc ls (x5 :: x4 :: x3 :: x2 :: x1 :: st) w := jc_Si X csOk_0 hm hv hl hd2 (avs := [x1, x2, x3, x4, x5]) rfl rfl hr hd hM k
set_option maxRecDepth 10000 in
theorem cV5v (X : Okk κ cc own fr) {P : wd → Prop} {x1 x2 x3 x4 x5 : av} {o ci N : Nat} {T : u_T} {fs : List (Option (Option Nat))} (hm : MF y cy nLy none 5) (hv : MV y) (hl : ML own idx y) (hd2 : d + 1 ≤ fr) (hlay : lay[o]? = some (.inl (ci, fs))) (hc : vwCl[ci]? = some (y.cls, T, N)) (hr : ((st.map (cv ad)).map fun v => v.category).sum ≤ 8) (hd : decode cc pc = .ok (.invokevirtual idx, 3)) (hM : CalV y cy nLy d lay w [vR o, x1, x2, x3, x4, x5] P) (k : ∀ w', P w' → J κ lay ad 0 0 (pc + 3) ls st w') : J κ lay ad 0 0 pc ls (x5 :: x4 :: x3 :: x2 :: x1 :: vR o :: st) w := jc_Vv X csOk_0 hm hv hl hd2 hlay hc (avs := [x1, x2, x3, x4, x5]) rfl rfl hr hd hM k
set_option maxRecDepth 10000 in
theorem cS5v (X : Okk κ cc own fr) {P : wd → Prop} {x1 x2 x3 x4 x5 : av} (hm : MF y cy nLy none 5) (hv : Cond.static y ∈ TB) (hl : ML own idx y) (hd2 : d + 1 ≤ fr) (hr : ((st.map (cv ad)).map fun v => v.category).sum ≤ 8) (hd : decode cc pc = .ok (.invokestatic idx, 3)) (hM : CalV y cy nLy d lay w [x1, x2, x3, x4, x5] P) (k : ∀ w', P w' → J κ lay ad 0 0 (pc + 3) ls st w') : J κ lay ad 0 0 pc ls (x5 :: x4 :: x3 :: x2 :: x1 :: st) w := jc_Sv X csOk_0 hm hv hl hd2 (avs := [x1, x2, x3, x4, x5]) rfl rfl hr hd hM k
set_option maxRecDepth 10000 in
theorem cV6i (X : Okk κ cc own fr) {P : Int → wd → Prop} {x1 x2 x3 x4 x5 x6 : av} {o ci N : Nat} {T : u_T} {fs : List (Option (Option Nat))} (hm : MF y cy nLy (some ty) 6) (hv : MV y) (hl : ML own idx y) (hd2 : d + 1 ≤ fr) (hlay : lay[o]? = some (.inl (ci, fs))) (hc : vwCl[ci]? = some (y.cls, T, N)) (hr : ((st.map (cv ad)).map fun v => v.category).sum ≤ 8) (hd : decode cc pc = .ok (.invokevirtual idx, 3)) (hM : CalI y cy nLy ty d lay w [vR o, x1, x2, x3, x4, x5, x6] P) (k : ∀ a w', P a w' → J κ lay ad 0 0 (pc + 3) ls (vI a :: st) w') : J κ lay ad 0 0 pc ls (x6 :: x5 :: x4 :: x3 :: x2 :: x1 :: vR o :: st) w := jc_Vi X csOk_0 hm hv hl hd2 hlay hc (avs := [x1, x2, x3, x4, x5, x6]) rfl rfl hr hd hM k
set_option maxRecDepth 10000 in
theorem cS6i (X : Okk κ cc own fr) {P : Int → wd → Prop} {x1 x2 x3 x4 x5 x6 : av} (hm : MF y cy nLy (some ty) 6) (hv : Cond.static y ∈ TB) (hl : ML own idx y) (hd2 : d + 1 ≤ fr) (hr : ((st.map (cv ad)).map fun v => v.category).sum ≤ 8) (hd : decode cc pc = .ok (.invokestatic idx, 3)) (hM : CalI y cy nLy ty d lay w [x1, x2, x3, x4, x5, x6] P) (k : ∀ a w', P a w' → J κ lay ad 0 0 (pc + 3) ls (vI a :: st) w') : J κ lay ad 0 0 pc ls (x6 :: x5 :: x4 :: x3 :: x2 :: x1 :: st) w := jc_Si X csOk_0 hm hv hl hd2 (avs := [x1, x2, x3, x4, x5, x6]) rfl rfl hr hd hM k
set_option maxRecDepth 10000 in
theorem cV6v (X : Okk κ cc own fr) {P : wd → Prop} {x1 x2 x3 x4 x5 x6 : av} {o ci N : Nat} {T : u_T} {fs : List (Option (Option Nat))} (hm : MF y cy nLy none 6) (hv : MV y) (hl : ML own idx y) (hd2 : d + 1 ≤ fr) (hlay : lay[o]? = some (.inl (ci, fs))) (hc : vwCl[ci]? = some (y.cls, T, N)) (hr : ((st.map (cv ad)).map fun v => v.category).sum ≤ 8) (hd : decode cc pc = .ok (.invokevirtual idx, 3)) (hM : CalV y cy nLy d lay w [vR o, x1, x2, x3, x4, x5, x6] P) (k : ∀ w', P w' → J κ lay ad 0 0 (pc + 3) ls st w') : J κ lay ad 0 0 pc ls (x6 :: x5 :: x4 :: x3 :: x2 :: x1 :: vR o :: st) w := jc_Vv X csOk_0 hm hv hl hd2 hlay hc (avs := [x1, x2, x3, x4, x5, x6]) rfl rfl hr hd hM k
set_option maxRecDepth 10000 in
theorem cS6v (X : Okk κ cc own fr) {P : wd → Prop} {x1 x2 x3 x4 x5 x6 : av} (hm : MF y cy nLy none 6) (hv : Cond.static y ∈ TB) (hl : ML own idx y) (hd2 : d + 1 ≤ fr) (hr : ((st.map (cv ad)).map fun v => v.category).sum ≤ 8) (hd : decode cc pc = .ok (.invokestatic idx, 3)) (hM : CalV y cy nLy d lay w [x1, x2, x3, x4, x5, x6] P) (k : ∀ w', P w' → J κ lay ad 0 0 (pc + 3) ls st w') : J κ lay ad 0 0 pc ls (x6 :: x5 :: x4 :: x3 :: x2 :: x1 :: st) w := jc_Sv X csOk_0 hm hv hl hd2 (avs := [x1, x2, x3, x4, x5, x6]) rfl rfl hr hd hM k
end JROWS4
