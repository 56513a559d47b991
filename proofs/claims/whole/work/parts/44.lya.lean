/-! ===== the class alone: contracts over its own 54 cells ===== -/
def LYA : lyT := [.inl (7, [some (some 1), some (some 5), some (some 16), some (some 17), some (some 21), some (some 23), none]),
  .inl (5, [some (some 2), some (some 3), some (some 4), none, none]),
  .inr (false, 144),
  .inr (false, 144),
  .inr (false, 432),
  .inl (3, [some (some 1), some (some 6), some (some 7), some (some 8), some (some 9), some (some 10), some (some 11), some (some 12), some (some 13), some (some 14), some (some 15), none]),
  .inr (false, 144),
  .inr (false, 144),
  .inr (false, 144),
  .inr (false, 144),
  .inr (false, 144),
  .inr (false, 1024),
  .inr (false, 8),
  .inr (false, 8),
  .inr (false, 8),
  .inr (false, 8),
  .inl (0, [some (some 1), some (some 5)]),
  .inl (6, [some (some 1), some (some 18), some (some 19), some (some 20), none, none]),
  .inr (false, 144),
  .inr (false, 144),
  .inr (false, 144),
  .inl (1, [some (some 1), some (some 22), none]),
  .inr (false, 144),
  .inl (4, [some (some 1), some (some 21), some (some 24), some (some 52), some (some 53), none, none, none, none, none, none, none]),
  .inl (2, [some (some 25), some (some 46), some (some 47), some (some 48), some (some 49), some (some 50), some (some 51), none, none, none]),
  .inl (2, [some (some 26), some (some 40), some (some 41), some (some 42), some (some 43), some (some 44), some (some 45), none, none, none]),
  .inl (2, [some (some 27), some (some 34), some (some 35), some (some 36), some (some 37), some (some 38), some (some 39), none, none, none]),
  .inl (2, [some none, some (some 28), some (some 29), some (some 30), some (some 31), some (some 32), some (some 33), none, none, none]),
  .inr (false, 144),
  .inr (false, 144),
  .inr (false, 144),
  .inr (false, 1024),
  .inr (false, 12),
  .inr (false, 12),
  .inr (false, 144),
  .inr (false, 144),
  .inr (false, 144),
  .inr (false, 1024),
  .inr (false, 12),
  .inr (false, 12),
  .inr (false, 144),
  .inr (false, 144),
  .inr (false, 144),
  .inr (false, 1024),
  .inr (false, 12),
  .inr (false, 12),
  .inr (false, 144),
  .inr (false, 144),
  .inr (false, 144),
  .inr (false, 1024),
  .inr (false, 12),
  .inr (false, 12),
  .inr (false, 3),
  .inr (false, 4)]
set_option maxHeartbeats 4000000 in
set_option maxRecDepth 20000 in
theorem sq_X5_get {o n : Nat} {i : Int} {w : wd} (hl : LYA[o]? = some (.inr (false, n))) (hn : n < 2147483648) (hi : rg i) : CalI yX5_get cX5_get 2 .int 1 LYA w [vR o, vI i] (fun a w' => a = rget (w o) n i ∧ w' = w) := by
  refine calI_intro (ls := [some (vR o), some (vI i)]) (by decide) (Nat.le_of_ble_eq_true rfl) rfl (fun κ ad X hR => ?_)
  refine j_aload_n X dX5_get_0 rfl ?_
  refine j_ifnull X dX5_get_1 ?_
  refine j_iload_n X dX5_get_4 rfl ?_
  refine j_if_lt (tgt := 20) X dX5_get_5 (by decide) hi (fun h_5 => ?_) (fun h_5 => ?_)
  · refine j_iconst X dX5_get_20 ?_
    exact j_ireturn X hR dX5_get_21 ⟨by unfold rget; rw [if_neg (by omega)], rfl⟩
  · have h_5n : 0 ≤ i := by omega
    refine j_iload_n X dX5_get_8 rfl ?_
    refine j_aload_n X dX5_get_9 rfl ?_
    refine j_alen X dX5_get_10 hl ?_
    refine j_icmp_ge (tgt := 20) X dX5_get_11 (by decide) hi ⟨by omega, by omega⟩ (fun h_11 => ?_) (fun h_11 => ?_)
    · refine j_iconst X dX5_get_20 ?_
      exact j_ireturn X hR dX5_get_21 ⟨by unfold rget; rw [if_neg (by omega)], rfl⟩
    · have h_11n : i < n := by omega
      refine j_aload_n X dX5_get_14 rfl ?_
      refine j_iload_n X dX5_get_15 rfl ?_
      refine j_iald X dX5_get_16 hl h_5n h_11n (by omega) ?_
      refine j_goto (tgt := 21) X dX5_get_17 (by decide) ?_
      exact j_ireturn X hR dX5_get_21 ⟨by unfold rget; rw [if_pos ⟨h_5n, h_11n⟩], rfl⟩
theorem sq_getk {o n k : Nat} {w : wd} (hl : LYA[o]? = some (.inr (false, n))) (hn : n < 2147483648) (hk : k < n) : CalI yX5_get cX5_get 2 .int 1 LYA w [vR o, vI (k : Int)] (fun a w' => a = w o k ∧ w' = w) := by
  refine (sq_X5_get hl hn ⟨by omega, by omega⟩).mono (fun a w' h => ⟨h.1.trans ?_, h.2⟩)
  unfold rget
  rw [if_pos (by omega)]
  rfl
set_option maxHeartbeats 4000000 in
set_option maxRecDepth 20000 in
theorem sq_X5_put {o n : Nat} {i v : Int} {w : wd} (hl : LYA[o]? = some (.inr (false, n))) (hn : n < 2147483648) (hi : rg i) : CalV yX5_put cX5_put 3 1 LYA w [vR o, vI i, vI v] (fun w' => w' = wpt w o n i v) := by
  refine calV_intro (ls := [some (vR o), some (vI i), some (vI v)]) (by decide) (Nat.le_of_ble_eq_true rfl) rfl (fun κ ad X hR => ?_)
  refine j_aload_n X dX5_put_0 rfl ?_
  refine j_ifnull X dX5_put_1 ?_
  refine j_iload_n X dX5_put_4 rfl ?_
  refine j_if_lt (tgt := 18) X dX5_put_5 (by decide) hi (fun h_5 => ?_) (fun h_5 => ?_)
  · exact j_return X hR dX5_put_18 (by unfold wpt; rw [if_neg (by omega)])
  · have h_5n : 0 ≤ i := by omega
    refine j_iload_n X dX5_put_8 rfl ?_
    refine j_aload_n X dX5_put_9 rfl ?_
    refine j_alen X dX5_put_10 hl ?_
    refine j_icmp_ge (tgt := 18) X dX5_put_11 (by decide) hi ⟨by omega, by omega⟩ (fun h_11 => ?_) (fun h_11 => ?_)
    · exact j_return X hR dX5_put_18 (by unfold wpt; rw [if_neg (by omega)])
    · have h_11n : i < n := by omega
      refine j_aload_n X dX5_put_14 rfl ?_
      refine j_iload_n X dX5_put_15 rfl ?_
      refine j_iload_n X dX5_put_16 rfl ?_
      refine j_iast X dX5_put_17 hl h_5n h_11n (by omega) ?_
      exact j_return X hR dX5_put_18 (by unfold wpt; rw [if_pos ⟨h_5n, h_11n⟩])
theorem sq_putk {o n k : Nat} {v : Int} {w : wd} (hl : LYA[o]? = some (.inr (false, n))) (hn : n < 2147483648) (hk : k < n) : CalV yX5_put cX5_put 3 1 LYA w [vR o, vI (k : Int), vI v] (fun w' => w' = wst w o k v) := by
  refine (sq_X5_put hl hn ⟨by omega, by omega⟩).mono (fun w' h => h.trans ?_)
  unfold wpt
  rw [if_pos (by omega)]
  rfl
set_option maxHeartbeats 4000000 in
set_option maxRecDepth 20000 in
theorem sq_J7_fill_53178 {o n : Nat} {v : Int} {w : wd} (hl : LYA[o]? = some (.inr (false, n))) (hn : n < 2147483647) : CalV yJ7_fill_53178 cJ7_fill_53178 4 1 LYA w [vR o, vI v] (fun w' => w' = wfl w o n v) := by
  refine calV_intro (ls := [some (vR o), some (vI v), none, none]) (by decide) (Nat.le_of_ble_eq_true rfl) rfl (fun κ ad X hR => ?_)
  refine j_iconst X dJ7_fill_53178_0 ?_
  refine s_2 X dJ7_fill_53178_1 rfl ?_
  refine j_aload_n X dJ7_fill_53178_2 rfl ?_
  refine j_alen X dJ7_fill_53178_3 hl ?_
  refine s_3 X dJ7_fill_53178_4 rfl ?_
  have L_5 : ∀ (m : Nat) (i : Nat) (_ : i ≤ n) (_ : n - i < m), J κ LYA ad 0 0 5 [some (vR o), some (vI v), some (vI (i : Int)), some (vI (n : Int))] [] (wfl w o i v) := by
    intro m
    induction m with
    | zero => intro i h1 h2; omega
    | succ m ih5 =>
      intro i h1 h2
      refine j_iload_n X dJ7_fill_53178_5 rfl ?_
      refine j_iload_n X dJ7_fill_53178_6 rfl ?_
      refine j_icmp_ge (tgt := 20) X dJ7_fill_53178_7 (by decide) ⟨by omega, by omega⟩ ⟨by omega, by omega⟩ (fun h_7 => ?_) (fun h_7 => ?_)
      · exact j_return X hR dJ7_fill_53178_20 (by rw [show n = i by omega])
      · refine j_aload_n X dJ7_fill_53178_10 rfl ?_
        refine j_iload_n X dJ7_fill_53178_11 rfl ?_
        refine j_iload_n X dJ7_fill_53178_12 rfl ?_
        refine j_iast X dJ7_fill_53178_13 hl (by omega) (by omega) (by omega) ?_
        refine inc_2 X dJ7_fill_53178_14 rfl ?_
        refine j_goto (tgt := 5) X dJ7_fill_53178_17 (by decide) ?_
        rw [Int.toNat_natCast, wfl_s]; exact ih5 (i + 1) (by omega) (by omega)
  have h0 := L_5 (n + 1) 0 (by omega) (by omega)
  rw [wfl_0] at h0
  exact h0
set_option maxHeartbeats 4000000 in
set_option maxRecDepth 20000 in
theorem sq_X5_fill {o n : Nat} {v : Int} {w : wd} (hl : LYA[o]? = some (.inr (false, n))) (hn : n < 2147483647) : CalV yX5_fill cX5_fill 2 2 LYA w [vR o, vI v] (fun w' => w' = wfl w o n v) := by
  refine calV_intro (ls := [some (vR o), some (vI v)]) (by decide) (Nat.le_of_ble_eq_true rfl) rfl (fun κ ad X hR => ?_)
  refine j_aload_n X dX5_fill_0 rfl ?_
  refine j_ifnull X dX5_fill_1 ?_
  refine j_aload_n X dX5_fill_4 rfl ?_
  refine j_iload_n X dX5_fill_5 rfl ?_
  refine cS2v X mf_J7_fill_53178 ms_J7_fill_53178 ml_X5_7 (by decide) (Nat.le_of_ble_eq_true rfl) dX5_fill_6 (sq_J7_fill_53178 hl hn) (fun w_6 h_6 => ?_)
  change _ = _ at h_6
  subst w_6
  exact j_return X hR dX5_fill_9 rfl
set_option maxHeartbeats 4000000 in
set_option maxRecDepth 20000 in
theorem sq_X3_spot {x y q : Int} {w : wd} : CalI yX3_spot cX3_spot 3 .int 1 LYA w [vI x, vI y, vI q] (fun a w' => a = spot x y q ∧ w' = w) := by
  refine calI_intro (ls := [some (vI x), some (vI y), some (vI q)]) (by decide) (Nat.le_of_ble_eq_true rfl) rfl (fun κ ad X hR => ?_)
  refine j_iload_n X dX3_spot_0 rfl ?_
  refine j_bipush X dX3_spot_1 (by decide +kernel) ?_
  refine j_iand X dX3_spot_3 (z_and15 _) ?_
  refine j_bipush X dX3_spot_4 (by decide +kernel) ?_
  refine j_ishl X dX3_spot_6 (z_shl 6 (by omega) (by omega) (by decide) _ (by decide +kernel)) ?_
  refine j_iload_n X dX3_spot_7 rfl ?_
  refine j_bipush X dX3_spot_8 (by decide +kernel) ?_
  refine j_iand X dX3_spot_10 (z_and15 _) ?_
  refine j_iconst X dX3_spot_11 ?_
  refine j_ishl X dX3_spot_12 (z_shl 2 (by omega) (by omega) (by decide) _ (by decide +kernel)) ?_
  refine j_ior X dX3_spot_13 (z_or 6 (by omega) (by omega) (by omega)) ?_
  refine j_iload_n X dX3_spot_14 rfl ?_
  refine j_iconst X dX3_spot_15 ?_
  refine j_iand X dX3_spot_16 (z_and3 _) ?_
  rw [show x % 16 * ((2 ^ 6 : Nat) : Int) + y % 16 * ((2 ^ 2 : Nat) : Int) = ((x % 16) * 16 + y % 16) * ((2 ^ 2 : Nat) : Int) by omega]
  refine j_ior X dX3_spot_17 ((show zI (((x % 16) * 16 + y % 16) * ((2 ^ 2 : Nat) : Int)) ||| zI (q % 4) = _ from z_or 2 (by omega) (by omega) (by omega))) ?_
  exact j_ireturn X hR dX3_spot_18 ⟨by unfold spot; omega, rfl⟩
set_option maxHeartbeats 4000000 in
set_option maxRecDepth 20000 in
theorem sq_X7_hasCell {x y n : Int} {w : wd} (hn : w 1 3 = n) (hn0 : 0 ≤ n ∧ n ≤ 6) (hx : rg x) (hy : rg y) : CalI yX7_hasCell cX7_hasCell 3 .boolean 1 LYA w [vR 1, vI x, vI y] (fun a w' => a = ib (0 ≤ x ∧ x < n ∧ 0 ≤ y ∧ y < n) ∧ w' = w) := by
  refine calI_intro (ls := [some (vR 1), some (vI x), some (vI y)]) (by decide) (Nat.le_of_ble_eq_true rfl) rfl (fun κ ad X hR => ?_)
  refine j_iload_n X dX7_hasCell_0 rfl ?_
  refine j_if_lt (tgt := 28) X dX7_hasCell_1 (by decide) ⟨by omega, by omega⟩ (fun h_1 => ?_) (fun h_1 => ?_)
  · refine j_iconst X dX7_hasCell_28 ?_
    exact j_zreturn X hR dX7_hasCell_29 (by first | exact Or.inl rfl | exact Or.inr rfl | exact ib_01) ⟨by first | exact (ib_t (by omega)).symm | exact (ib_f (by omega)).symm, rfl⟩
  · refine j_iload_n X dX7_hasCell_4 rfl ?_
    refine j_aload_n X dX7_hasCell_5 rfl ?_
    refine j_getI X dX7_hasCell_6 ff_X7_21 rfl rfl ?_
    refine j_icmp_ge (tgt := 28) X dX7_hasCell_9 (by decide) ⟨by omega, by omega⟩ ⟨by omega, by omega⟩ (fun h_9 => ?_) (fun h_9 => ?_)
    · refine j_iconst X dX7_hasCell_28 ?_
      exact j_zreturn X hR dX7_hasCell_29 (by first | exact Or.inl rfl | exact Or.inr rfl | exact ib_01) ⟨by first | exact (ib_t (by omega)).symm | exact (ib_f (by omega)).symm, rfl⟩
    · refine j_iload_n X dX7_hasCell_12 rfl ?_
      refine j_if_lt (tgt := 28) X dX7_hasCell_13 (by decide) ⟨by omega, by omega⟩ (fun h_13 => ?_) (fun h_13 => ?_)
      · refine j_iconst X dX7_hasCell_28 ?_
        exact j_zreturn X hR dX7_hasCell_29 (by first | exact Or.inl rfl | exact Or.inr rfl | exact ib_01) ⟨by first | exact (ib_t (by omega)).symm | exact (ib_f (by omega)).symm, rfl⟩
      · refine j_iload_n X dX7_hasCell_16 rfl ?_
        refine j_aload_n X dX7_hasCell_17 rfl ?_
        refine j_getI X dX7_hasCell_18 ff_X7_21 rfl rfl ?_
        refine j_icmp_ge (tgt := 28) X dX7_hasCell_21 (by decide) ⟨by omega, by omega⟩ ⟨by omega, by omega⟩ (fun h_21 => ?_) (fun h_21 => ?_)
        · refine j_iconst X dX7_hasCell_28 ?_
          exact j_zreturn X hR dX7_hasCell_29 (by first | exact Or.inl rfl | exact Or.inr rfl | exact ib_01) ⟨by first | exact (ib_t (by omega)).symm | exact (ib_f (by omega)).symm, rfl⟩
        · refine j_iconst X dX7_hasCell_24 ?_
          refine j_goto (tgt := 29) X dX7_hasCell_25 (by decide) ?_
          exact j_zreturn X hR dX7_hasCell_29 (by first | exact Or.inl rfl | exact Or.inr rfl | exact ib_01) ⟨by first | exact (ib_t (by omega)).symm | exact (ib_f (by omega)).symm, rfl⟩
set_option maxHeartbeats 4000000 in
set_option maxRecDepth 20000 in
theorem sq_X7_leaf {x y q n : Int} {w : wd} (hn : w 1 3 = n) : CalI yX7_leaf cX7_leaf 4 .int 1 LYA w [vR 1, vI x, vI y, vI q] (fun a w' => a = 4 * (y * n + x) + q ∧ w' = w) := by
  refine calI_intro (ls := [some (vR 1), some (vI x), some (vI y), some (vI q)]) (by decide) (Nat.le_of_ble_eq_true rfl) rfl (fun κ ad X hR => ?_)
  refine j_iconst X dX7_leaf_0 ?_
  refine j_iload_n X dX7_leaf_1 rfl ?_
  refine j_aload_n X dX7_leaf_2 rfl ?_
  refine j_getI X dX7_leaf_3 ff_X7_21 rfl rfl ?_
  refine j_imul X dX7_leaf_6 ?_
  refine j_iload_n X dX7_leaf_7 rfl ?_
  refine j_iadd X dX7_leaf_8 ?_
  refine j_imul X dX7_leaf_9 ?_
  refine j_iload_n X dX7_leaf_10 rfl ?_
  refine j_iadd X dX7_leaf_11 ?_
  exact j_ireturn X hR dX7_leaf_12 ⟨by rw [hn], rfl⟩
set_option maxHeartbeats 4000000 in
set_option maxRecDepth 20000 in
theorem sq_X7_x {k n : Nat} {w : wd} (hs : ShO n w) (hk : k < 4 * n * n) : CalI yX7_x cX7_x 2 .int 2 LYA w [vR 1, vI (k : Int)] (fun a w' => a = lx n k ∧ w' = w) := by
  have h144 := nn_le hs.1.2
  refine calI_intro (ls := [some (vR 1), some (vI (k : Int))]) (by decide) (Nat.le_of_ble_eq_true rfl) rfl (fun κ ad X hR => ?_)
  refine j_aload_n X dX7_x_0 rfl ?_
  refine j_getR X dX7_x_1 ff_X7_9 rfl rfl ?_
  refine j_iload_n X dX7_x_4 rfl ?_
  refine cS2i X mf_X5_get ms_X5_get ml_X7_50 (by decide) (Nat.le_of_ble_eq_true rfl) dX7_x_5 (sq_getk rfl (by decide) (by omega)) (fun a_5 w_5 h_5 => ?_)
  obtain ⟨_, _⟩ := h_5
  subst a_5
  subst w_5
  exact j_ireturn X hR dX7_x_8 ⟨(hs.2.2.2.1 k hk).1, rfl⟩
set_option maxHeartbeats 4000000 in
set_option maxRecDepth 20000 in
theorem sq_X7_y {k n : Nat} {w : wd} (hs : ShO n w) (hk : k < 4 * n * n) : CalI yX7_y cX7_y 2 .int 2 LYA w [vR 1, vI (k : Int)] (fun a w' => a = ly n k ∧ w' = w) := by
  have h144 := nn_le hs.1.2
  refine calI_intro (ls := [some (vR 1), some (vI (k : Int))]) (by decide) (Nat.le_of_ble_eq_true rfl) rfl (fun κ ad X hR => ?_)
  refine j_aload_n X dX7_y_0 rfl ?_
  refine j_getR X dX7_y_1 ff_X7_15 rfl rfl ?_
  refine j_iload_n X dX7_y_4 rfl ?_
  refine cS2i X mf_X5_get ms_X5_get ml_X7_50 (by decide) (Nat.le_of_ble_eq_true rfl) dX7_y_5 (sq_getk rfl (by decide) (by omega)) (fun a_5 w_5 h_5 => ?_)
  obtain ⟨_, _⟩ := h_5
  subst a_5
  subst w_5
  exact j_ireturn X hR dX7_y_8 ⟨(hs.2.2.2.1 k hk).2, rfl⟩
set_option maxHeartbeats 4000000 in
set_option maxRecDepth 20000 in
theorem sq_X7_quarter {k : Nat} {w : wd} : CalI yX7_quarter cX7_quarter 2 .int 1 LYA w [vR 1, vI (k : Int)] (fun a w' => a = lq k ∧ w' = w) := by
  refine calI_intro (ls := [some (vR 1), some (vI (k : Int))]) (by decide) (Nat.le_of_ble_eq_true rfl) rfl (fun κ ad X hR => ?_)
  refine j_iload_n X dX7_quarter_0 rfl ?_
  refine j_iconst X dX7_quarter_1 ?_
  refine j_iand X dX7_quarter_2 (z_and3 _) ?_
  exact j_ireturn X hR dX7_quarter_3 ⟨by unfold lq; omega, rfl⟩
set_option maxHeartbeats 4000000 in
set_option maxRecDepth 20000 in
theorem sq_X7_beside {k e n : Nat} {w : wd} (hs : ShO n w) (hk : k < 4 * n * n) (he : e < 3) : CalI yX7_beside cX7_beside 3 .int 2 LYA w [vR 1, vI (k : Int), vI (e : Int)] (fun a w' => a = nb n k e ∧ w' = w) := by
  have h144 := nn_le hs.1.2
  refine calI_intro (ls := [some (vR 1), some (vI (k : Int)), some (vI (e : Int))]) (by decide) (Nat.le_of_ble_eq_true rfl) rfl (fun κ ad X hR => ?_)
  refine j_aload_n X dX7_beside_0 rfl ?_
  refine j_getR X dX7_beside_1 ff_X7_18 rfl rfl ?_
  refine j_iconst X dX7_beside_4 ?_
  refine j_iload_n X dX7_beside_5 rfl ?_
  refine j_imul X dX7_beside_6 ?_
  refine j_iload_n X dX7_beside_7 rfl ?_
  refine j_iadd X dX7_beside_8 ?_
  refine cS2i X mf_X5_get ms_X5_get ml_X7_50 (by decide) (Nat.le_of_ble_eq_true rfl) dX7_beside_9 (sq_getk (k := 3 * k + e) rfl (by decide) (by omega)) (fun a_9 w_9 h_9 => ?_)
  obtain ⟨_, _⟩ := h_9
  subst a_9
  subst w_9
  exact j_ireturn X hR dX7_beside_12 ⟨hs.2.2.2.2 k e hk he, rfl⟩
set_option maxHeartbeats 4000000 in
set_option maxRecDepth 20000 in
theorem sq_X7_across {x y q n : Int} {w : wd} (hn : w 1 3 = n) (hn0 : 0 ≤ n ∧ n ≤ 6) (hx : -10 ≤ x ∧ x ≤ 10) (hy : -10 ≤ y ∧ y ≤ 10) (hq : 0 ≤ q ∧ q < 4) : CalI yX7_across cX7_across 6 .int 2 LYA w [vR 1, vI x, vI y, vI q] (fun a w' => a = acr n x y q ∧ w' = w) := by
  have bx : -11 ≤ ax x q ∧ ax x q ≤ 11 := by unfold ax; (repeat' split) <;> omega
  have by_ : -11 ≤ ay y q ∧ ay y q ≤ 11 := by unfold ay; (repeat' split) <;> omega
  refine calI_intro (ls := [some (vR 1), some (vI x), some (vI y), some (vI q), none, none]) (by decide) (Nat.le_of_ble_eq_true rfl) rfl (fun κ ad X hR => ?_)
  have C_42 : ∀ v : Int, y + v = ay y q → J κ LYA ad 0 0 42 [some (vR 1), some (vI x), some (vI y), some (vI q), some (vI (ax x q)), none] [vI v, vI y] w := by
    intro v hv
    refine j_iadd X dX7_across_42 ?_
    rw [hv]
    refine s_5 X dX7_across_43 rfl ?_
    refine j_aload_n X dX7_across_45 rfl ?_
    refine j_iload X dX7_across_46 rfl ?_
    refine j_iload X dX7_across_48 rfl ?_
    refine cV2i X mf_X7_hasCell mv_X7_hasCell ml_X7_45 (by decide) rfl rfl (Nat.le_of_ble_eq_true rfl) dX7_across_50 (sq_X7_hasCell hn hn0 ⟨by omega, by omega⟩ ⟨by omega, by omega⟩) (fun a_50 w_50 h_50 => ?_)
    obtain ⟨_, _⟩ := h_50
    subst a_50
    subst w_50
    refine jb_eq (tgt := 70) X dX7_across_53 (by decide) (fun h_53 => ?_) (fun h_53 => ?_)
    · refine j_ldc X dX7_across_70 kc_X7_49 ?_
      exact j_ireturn X hR dX7_across_72 ⟨by unfold acr; rw [if_neg (by omega)], rfl⟩
    · refine j_aload_n X dX7_across_56 rfl ?_
      refine j_iload X dX7_across_57 rfl ?_
      refine j_iload X dX7_across_59 rfl ?_
      refine j_iload_n X dX7_across_61 rfl ?_
      refine j_iconst X dX7_across_62 ?_
      refine j_ixor X dX7_across_63 (z_xor2 hq.1 hq.2) ?_
      refine cV3i X mf_X7_leaf mv_X7_leaf ml_X7_32 (by decide) rfl rfl (Nat.le_of_ble_eq_true rfl) dX7_across_64 (sq_X7_leaf hn) (fun a_64 w_64 h_64 => ?_)
      obtain ⟨_, _⟩ := h_64
      subst a_64
      subst w_64
      refine j_goto (tgt := 72) X dX7_across_67 (by decide) ?_
      exact j_ireturn X hR dX7_across_72 ⟨by unfold acr; rw [if_pos (by omega)], rfl⟩
  have C_20 : ∀ v : Int, x + v = ax x q → J κ LYA ad 0 0 20 [some (vR 1), some (vI x), some (vI y), some (vI q), none, none] [vI v, vI x] w := by
    intro v hv
    refine j_iadd X dX7_across_20 ?_
    rw [hv]
    refine s_4 X dX7_across_21 rfl ?_
    refine j_iload_n X dX7_across_23 rfl ?_
    refine j_iload_n X dX7_across_24 rfl ?_
    refine j_iconst X dX7_across_25 ?_
    refine j_icmp_ne (tgt := 33) X dX7_across_26 (by decide) ⟨by omega, by omega⟩ ⟨by omega, by omega⟩ (fun h_26 => ?_) (fun h_26 => ?_)
    · refine j_iload_n X dX7_across_33 rfl ?_
      refine j_if_ne (tgt := 41) X dX7_across_34 (by decide) ⟨by omega, by omega⟩ (fun h_34 => ?_) (fun h_34 => ?_)
      · refine j_iconst X dX7_across_41 ?_
        exact C_42 _ (by unfold ay; (repeat' split) <;> omega)
      · refine j_iconst X dX7_across_37 ?_
        refine j_goto (tgt := 42) X dX7_across_38 (by decide) ?_
        exact C_42 _ (by unfold ay; (repeat' split) <;> omega)
    · refine j_iconst X dX7_across_29 ?_
      refine j_goto (tgt := 42) X dX7_across_30 (by decide) ?_
      exact C_42 _ (by unfold ay; (repeat' split) <;> omega)
  refine j_iload_n X dX7_across_0 rfl ?_
  refine j_iload_n X dX7_across_1 rfl ?_
  refine j_iconst X dX7_across_2 ?_
  refine j_icmp_ne (tgt := 10) X dX7_across_3 (by decide) ⟨by omega, by omega⟩ ⟨by omega, by omega⟩ (fun h_3 => ?_) (fun h_3 => ?_)
  · refine j_iload_n X dX7_across_10 rfl ?_
    refine j_iconst X dX7_across_11 ?_
    refine j_icmp_ne (tgt := 19) X dX7_across_12 (by decide) ⟨by omega, by omega⟩ ⟨by omega, by omega⟩ (fun h_12 => ?_) (fun h_12 => ?_)
    · refine j_iconst X dX7_across_19 ?_
      exact C_20 _ (by unfold ax; (repeat' split) <;> omega)
    · refine j_iconst X dX7_across_15 ?_
      refine j_goto (tgt := 20) X dX7_across_16 (by decide) ?_
      exact C_20 _ (by unfold ax; (repeat' split) <;> omega)
  · refine j_iconst X dX7_across_6 ?_
    refine j_goto (tgt := 20) X dX7_across_7 (by decide) ?_
    exact C_20 _ (by unfold ax; (repeat' split) <;> omega)
set_option maxHeartbeats 4000000 in
set_option maxRecDepth 20000 in
theorem sq_X7_place {x y q n : Int} {k : Nat} {w : wd} (hn : w 1 3 = n) (hn0 : 0 ≤ n ∧ n ≤ 6) (hx : -10 ≤ x ∧ x ≤ 10) (hy : -10 ≤ y ∧ y ≤ 10) (hq : 0 ≤ q ∧ q < 4) (hk : 4 * (y * n + x) + q = (k : Int)) (h144 : k < 144) : CalV yX7_place cX7_place 5 3 LYA w [vR 1, vI x, vI y, vI q] (fun w' => w' = plW n w k x y q) := by
  refine calV_intro (ls := [some (vR 1), some (vI x), some (vI y), some (vI q), none]) (by decide) (Nat.le_of_ble_eq_true rfl) rfl (fun κ ad X hR => ?_)
  refine j_aload_n X dX7_place_0 rfl ?_
  refine j_iload_n X dX7_place_1 rfl ?_
  refine j_iload_n X dX7_place_2 rfl ?_
  refine j_iload_n X dX7_place_3 rfl ?_
  refine cV3i X mf_X7_leaf mv_X7_leaf ml_X7_32 (by decide) rfl rfl (Nat.le_of_ble_eq_true rfl) dX7_place_4 (sq_X7_leaf hn) (fun a_4 w_4 h_4 => ?_)
  obtain ⟨h1, rfl⟩ := h_4
  rw [hk] at h1
  subst h1
  refine s_4 X dX7_place_7 rfl ?_
  refine j_aload_n X dX7_place_9 rfl ?_
  refine j_getR X dX7_place_10 ff_X7_9 rfl rfl ?_
  refine j_iload X dX7_place_13 rfl ?_
  refine j_iload_n X dX7_place_15 rfl ?_
  refine cS3v X mf_X5_put ms_X5_put ml_X7_36 (by decide) (Nat.le_of_ble_eq_true rfl) dX7_place_16 (sq_putk rfl (by decide) (by omega)) (fun w_16 h_16 => ?_)
  change _ = _ at h_16
  subst w_16
  refine j_aload_n X dX7_place_19 rfl ?_
  refine j_getR X dX7_place_20 ff_X7_15 rfl rfl ?_
  refine j_iload X dX7_place_23 rfl ?_
  refine j_iload_n X dX7_place_25 rfl ?_
  refine cS3v X mf_X5_put ms_X5_put ml_X7_36 (by decide) (Nat.le_of_ble_eq_true rfl) dX7_place_26 (sq_putk rfl (by decide) (by omega)) (fun w_26 h_26 => ?_)
  change _ = _ at h_26
  subst w_26
  refine j_aload_n X dX7_place_29 rfl ?_
  refine j_getR X dX7_place_30 ff_X7_18 rfl rfl ?_
  refine j_iconst X dX7_place_33 ?_
  refine j_iload X dX7_place_34 rfl ?_
  refine j_imul X dX7_place_36 ?_
  refine j_aload_n X dX7_place_37 rfl ?_
  refine j_iload_n X dX7_place_38 rfl ?_
  refine j_iload_n X dX7_place_39 rfl ?_
  refine j_iload_n X dX7_place_40 rfl ?_
  refine cV3i X mf_X7_across mv_X7_across ml_X7_42 (by decide) rfl rfl (Nat.le_of_ble_eq_true rfl) dX7_place_41 (sq_X7_across (n := n) hn hn0 hx hy hq) (fun a_41 w_41 h_41 => ?_)
  obtain ⟨_, _⟩ := h_41
  subst a_41
  subst w_41
  refine cS3v X mf_X5_put ms_X5_put ml_X7_36 (by decide) (Nat.le_of_ble_eq_true rfl) dX7_place_44 (sq_putk (k := 3 * k) rfl (by decide) (by omega)) (fun w_44 h_44 => ?_)
  change _ = _ at h_44
  subst w_44
  refine j_aload_n X dX7_place_47 rfl ?_
  refine j_getR X dX7_place_48 ff_X7_18 rfl rfl ?_
  refine j_iconst X dX7_place_51 ?_
  refine j_iload X dX7_place_52 rfl ?_
  refine j_imul X dX7_place_54 ?_
  refine j_iconst X dX7_place_55 ?_
  refine j_iadd X dX7_place_56 ?_
  refine j_aload_n X dX7_place_57 rfl ?_
  refine j_iload_n X dX7_place_58 rfl ?_
  refine j_iload_n X dX7_place_59 rfl ?_
  refine j_iload_n X dX7_place_60 rfl ?_
  refine j_iconst X dX7_place_61 ?_
  refine j_iadd X dX7_place_62 ?_
  refine j_iconst X dX7_place_63 ?_
  refine j_iand X dX7_place_64 (z_and3 _) ?_
  refine cV3i X mf_X7_leaf mv_X7_leaf ml_X7_32 (by decide) rfl rfl (Nat.le_of_ble_eq_true rfl) dX7_place_65 (sq_X7_leaf (n := n) hn) (fun a_65 w_65 h_65 => ?_)
  obtain ⟨_, _⟩ := h_65
  subst a_65
  subst w_65
  refine cS3v X mf_X5_put ms_X5_put ml_X7_36 (by decide) (Nat.le_of_ble_eq_true rfl) dX7_place_68 (sq_putk (k := 3 * k + 1) rfl (by decide) (by omega)) (fun w_68 h_68 => ?_)
  change _ = _ at h_68
  subst w_68
  refine j_aload_n X dX7_place_71 rfl ?_
  refine j_getR X dX7_place_72 ff_X7_18 rfl rfl ?_
  refine j_iconst X dX7_place_75 ?_
  refine j_iload X dX7_place_76 rfl ?_
  refine j_imul X dX7_place_78 ?_
  refine j_iconst X dX7_place_79 ?_
  refine j_iadd X dX7_place_80 ?_
  refine j_aload_n X dX7_place_81 rfl ?_
  refine j_iload_n X dX7_place_82 rfl ?_
  refine j_iload_n X dX7_place_83 rfl ?_
  refine j_iload_n X dX7_place_84 rfl ?_
  refine j_iconst X dX7_place_85 ?_
  refine j_iadd X dX7_place_86 ?_
  refine j_iconst X dX7_place_87 ?_
  refine j_iand X dX7_place_88 (z_and3 _) ?_
  refine cV3i X mf_X7_leaf mv_X7_leaf ml_X7_32 (by decide) rfl rfl (Nat.le_of_ble_eq_true rfl) dX7_place_89 (sq_X7_leaf (n := n) hn) (fun a_89 w_89 h_89 => ?_)
  obtain ⟨_, _⟩ := h_89
  subst a_89
  subst w_89
  refine cS3v X mf_X5_put ms_X5_put ml_X7_36 (by decide) (Nat.le_of_ble_eq_true rfl) dX7_place_92 (sq_putk (k := 3 * k + 2) rfl (by decide) (by omega)) (fun w_92 h_92 => ?_)
  change _ = _ at h_92
  subst w_92
  exact j_return X hR dX7_place_95 rfl
set_option maxHeartbeats 4000000 in
set_option maxRecDepth 20000 in
theorem sq_X7_resize {n : Nat} {w : wd} (hn : 1 ≤ n ∧ n ≤ 6) : CalV yX7_resize cX7_resize 5 4 LYA w [vR 1, vI (n : Int)] (fun w' => w' = resW w n) := by
  have h144 := nn_le hn.2
  refine calV_intro (ls := [some (vR 1), some (vI (n : Int)), none, none, none]) (by decide) (Nat.le_of_ble_eq_true rfl) rfl (fun κ ad X hR => ?_)
  refine j_aload_n X dX7_resize_0 rfl ?_
  refine j_iload_n X dX7_resize_1 rfl ?_
  refine j_putI X dX7_resize_2 fp_X7_21 rfl rfl ?_
  refine j_aload_n X dX7_resize_5 rfl ?_
  refine j_iconst X dX7_resize_6 ?_
  refine j_iload_n X dX7_resize_7 rfl ?_
  refine j_imul X dX7_resize_8 ?_
  refine j_iload_n X dX7_resize_9 rfl ?_
  refine j_imul X dX7_resize_10 ?_
  refine j_putI X dX7_resize_11 fp_X7_25 rfl rfl ?_
  refine j_iconst X dX7_resize_14 ?_
  refine s_2 X dX7_resize_15 rfl ?_
  have L_16 : ∀ (m : Nat) (y : Nat) (_ : y ≤ n) (_ : n - y < m), J κ LYA ad 0 0 16 [some (vR 1), some (vI (n : Int)), some (vI (y : Int)), none, none] [] (resP (wst (wst w 1 3 (n : Int)) 1 4 (4 * (n : Int) * n)) n (4 * (y * n))) := by
    intro m
    induction m with
    | zero => intro y h1 h2; omega
    | succ m ih16 =>
      intro y h1 h2
      refine j_iload_n X dX7_resize_16 rfl ?_
      refine j_iload_n X dX7_resize_17 rfl ?_
      refine j_icmp_ge (tgt := 63) X dX7_resize_18 (by decide) ⟨by omega, by omega⟩ ⟨by omega, by omega⟩ (fun h_18 => ?_) (fun h_18 => ?_)
      · exact j_return X hR dX7_resize_63 (by rw [show y = n by omega]; unfold resW; rw [Nat.mul_assoc])
      · refine j_iconst X dX7_resize_21 ?_
        refine s_3 X dX7_resize_22 rfl ?_
        have L_23 : ∀ (m : Nat) (x : Nat) (_ : x ≤ n) (_ : n - x < m), J κ LYA ad 0 0 23 [some (vR 1), some (vI (n : Int)), some (vI (y : Int)), some (vI (x : Int)), none] [] (resP (wst (wst w 1 3 (n : Int)) 1 4 (4 * (n : Int) * n)) n (4 * (y * n + x))) := by
          intro m
          induction m with
          | zero => intro x h3 h4; omega
          | succ m ih23 =>
            intro x h3 h4
            refine j_iload_n X dX7_resize_23 rfl ?_
            refine j_iload_n X dX7_resize_24 rfl ?_
            refine j_icmp_ge (tgt := 57) X dX7_resize_25 (by decide) ⟨by omega, by omega⟩ ⟨by omega, by omega⟩ (fun h_25 => ?_) (fun h_25 => ?_)
            · refine inc_2 X dX7_resize_57 rfl ?_
              refine j_goto (tgt := 16) X dX7_resize_60 (by decide) ?_
              refine fg_3 ?_
              rw [show 4 * (y * n + x) = 4 * ((y + 1) * n) by rw [show x = n by omega, Nat.add_mul, Nat.one_mul]]
              exact ih16 (y + 1) (by omega) (by omega)
            · refine j_iconst X dX7_resize_28 ?_
              refine s_4 X dX7_resize_29 rfl ?_
              have L_31 : ∀ (m : Nat) (q : Nat) (_ : q ≤ 4) (_ : 4 - q < m), J κ LYA ad 0 0 31 [some (vR 1), some (vI (n : Int)), some (vI (y : Int)), some (vI (x : Int)), some (vI (q : Int))] [] (resP (wst (wst w 1 3 (n : Int)) 1 4 (4 * (n : Int) * n)) n (4 * (y * n + x) + q)) := by
                intro m
                induction m with
                | zero => intro q h5 h6; omega
                | succ m ih31 =>
                  intro q h5 h6
                  refine j_iload X dX7_resize_31 rfl ?_
                  refine j_iconst X dX7_resize_33 ?_
                  refine j_icmp_ge (tgt := 51) X dX7_resize_34 (by decide) ⟨by omega, by omega⟩ ⟨by omega, by omega⟩ (fun h_34 => ?_) (fun h_34 => ?_)
                  · refine inc_3 X dX7_resize_51 rfl ?_
                    refine j_goto (tgt := 23) X dX7_resize_54 (by decide) ?_
                    refine fg_4 ?_
                    rw [show 4 * (y * n + x) + q = 4 * (y * n + (x + 1)) by omega]
                    exact ih23 (x + 1) (by omega) (by omega)
                  · have hyn : y < n := by omega
                    refine j_aload_n X dX7_resize_37 rfl ?_
                    refine j_iload_n X dX7_resize_38 rfl ?_
                    refine j_iload_n X dX7_resize_39 rfl ?_
                    refine j_iload X dX7_resize_40 rfl ?_
                    refine cV3v X mf_X7_place mv_X7_place ml_X7_28 (by decide) rfl rfl (Nat.le_of_ble_eq_true rfl) dX7_resize_42 (sq_X7_place (n := (n : Int)) (k := 4 * (y * n + x) + q) (by simp [resP, wst, w1]) ⟨by omega, by omega⟩ ⟨by omega, by omega⟩ ⟨by omega, by omega⟩ ⟨by omega, by omega⟩ (by rw [Int.natCast_add, Int.natCast_mul, Int.natCast_add, Int.natCast_mul]; rfl) (by have := idx_lt (n := n) (x := x) (y := y) (q := q) (by omega) (by omega) (by omega); omega)) (fun w_42 h_42 => ?_)
                    change _ = _ at h_42
                    subst w_42
                    refine inc_4 X dX7_resize_45 rfl ?_
                    refine j_goto (tgt := 31) X dX7_resize_48 (by decide) ?_
                    have hx9 : x < n := by omega
                    have hq9 : q < 4 := by omega
                    rw [resP_s hx9 hq9]
                    exact ih31 (q + 1) (by omega) (by omega)
              exact L_31 5 0 (by omega) (by omega)
        exact L_23 (n + 1) 0 (by omega) (by omega)
  have h0 := L_16 (n + 1) 0 (by omega) (by omega)
  rw [Nat.zero_mul, Nat.mul_zero, resP_0] at h0
  exact h0
set_option maxHeartbeats 4000000 in
set_option maxRecDepth 20000 in
theorem sq_X4_spot {k : Nat} {w : wd} (hk : k < 144) : CalI yX4_spot cX4_spot 2 .int 2 LYA w [vR 5, vI (k : Int)] (fun a w' => a = psp w k ∧ w' = w) := by
  refine calI_intro (ls := [some (vR 5), some (vI (k : Int))]) (by decide) (Nat.le_of_ble_eq_true rfl) rfl (fun κ ad X hR => ?_)
  refine j_aload_n X dX4_spot_0 rfl ?_
  refine j_getR X dX4_spot_1 ff_X4_9 rfl rfl ?_
  refine j_iload_n X dX4_spot_4 rfl ?_
  refine cS2i X mf_X5_get ms_X5_get ml_X4_69 (by decide) (Nat.le_of_ble_eq_true rfl) dX4_spot_5 (sq_getk rfl (by decide) (by omega)) (fun a_5 w_5 h_5 => ?_)
  obtain ⟨_, _⟩ := h_5
  subst a_5
  subst w_5
  refine j_aload_n X dX4_spot_8 rfl ?_
  refine j_getR X dX4_spot_9 ff_X4_15 rfl rfl ?_
  refine j_iload_n X dX4_spot_12 rfl ?_
  refine cS2i X mf_X5_get ms_X5_get ml_X4_69 (by decide) (Nat.le_of_ble_eq_true rfl) dX4_spot_13 (sq_getk rfl (by decide) (by omega)) (fun a_13 w_13 h_13 => ?_)
  obtain ⟨_, _⟩ := h_13
  subst a_13
  subst w_13
  refine j_aload_n X dX4_spot_16 rfl ?_
  refine j_getR X dX4_spot_17 ff_X4_18 rfl rfl ?_
  refine j_iload_n X dX4_spot_20 rfl ?_
  refine cS2i X mf_X5_get ms_X5_get ml_X4_69 (by decide) (Nat.le_of_ble_eq_true rfl) dX4_spot_21 (sq_getk rfl (by decide) (by omega)) (fun a_21 w_21 h_21 => ?_)
  obtain ⟨_, _⟩ := h_21
  subst a_21
  subst w_21
  refine cS3i X mf_X3_spot ms_X3_spot ml_X4_138 (by decide) (Nat.le_of_ble_eq_true rfl) dX4_spot_24 (sq_X3_spot) (fun a_24 w_24 h_24 => ?_)
  obtain ⟨_, _⟩ := h_24
  subst a_24
  subst w_24
  exact j_ireturn X hR dX4_spot_27 ⟨rfl, rfl⟩
set_option maxHeartbeats 4000000 in
set_option maxRecDepth 20000 in
theorem sq_X4_measure {N : Nat} {w : wd} (hn : w 1 4 = (N : Int)) (hN : N ≤ 144) : CalV yX4_measure cX4_measure 3 3 LYA w [vR 5] (fun w' => w' = mesP w N) := by
  refine calV_intro (ls := [some (vR 5), none, none]) (by decide) (Nat.le_of_ble_eq_true rfl) rfl (fun κ ad X hR => ?_)
  refine j_aload_n X dX4_measure_0 rfl ?_
  refine j_getR X dX4_measure_1 ff_X4_29 rfl rfl ?_
  refine j_iconst X dX4_measure_4 ?_
  refine cS2v X mf_X5_fill ms_X5_fill ml_X4_131 (by decide) (Nat.le_of_ble_eq_true rfl) dX4_measure_5 (sq_X5_fill rfl (by decide)) (fun w_5 h_5 => ?_)
  change _ = _ at h_5
  subst w_5
  refine j_iconst X dX4_measure_8 ?_
  refine s_1 X dX4_measure_9 rfl ?_
  have L_10 : ∀ (m : Nat) (k : Nat) (_ : k ≤ N) (_ : N - k < m), J κ LYA ad 0 0 10 [some (vR 5), some (vI (k : Int)), none] [] (mesP w k) := by
    intro m
    induction m with
    | zero => intro k h1 h2; omega
    | succ m ih10 =>
      intro k h1 h2
      obtain ⟨s, hs, hs2⟩ : ∃ s : Nat, psp w k = (s : Int) ∧ s < 1024 := ⟨(psp w k).toNat, by have := spot_lt (w 6 k) (w 7 k) (w 8 k); unfold psp; omega, by have := spot_lt (w 6 k) (w 7 k) (w 8 k); unfold psp; omega⟩
      have hn2 : mesP w k 1 4 = (N : Int) := hn
      refine j_iload_n X dX4_measure_10 rfl ?_
      refine j_aload_n X dX4_measure_11 rfl ?_
      refine j_getR X dX4_measure_12 ff_X4_44 rfl rfl ?_
      refine j_getI X dX4_measure_15 ff_X4_73 rfl rfl ?_
      refine j_icmp_ge (tgt := 51) X dX4_measure_18 (by decide) ⟨by omega, by omega⟩ ⟨by omega, by omega⟩ (fun h_18 => ?_) (fun h_18 => ?_)
      · exact j_return X hR dX4_measure_51 (by rw [show k = N by omega])
      · refine j_aload_n X dX4_measure_21 rfl ?_
        refine j_iload_n X dX4_measure_22 rfl ?_
        refine cV1i X mf_X4_spot mv_X4_spot ml_X4_135 (by decide) rfl rfl (Nat.le_of_ble_eq_true rfl) dX4_measure_23 (sq_X4_spot (by omega)) (fun a_23 w_23 h_23 => ?_)
        obtain ⟨_, _⟩ := h_23
        subst a_23
        subst w_23
        rw [show psp (mesP w k) k = (s : Int) from hs]
        refine s_2 X dX4_measure_26 rfl ?_
        refine j_aload_n X dX4_measure_27 rfl ?_
        refine j_getR X dX4_measure_28 ff_X4_29 rfl rfl ?_
        refine j_iload_n X dX4_measure_31 rfl ?_
        refine j_aload_n X dX4_measure_32 rfl ?_
        refine j_getR X dX4_measure_33 ff_X4_29 rfl rfl ?_
        refine j_iload_n X dX4_measure_36 rfl ?_
        refine cS2i X mf_X5_get ms_X5_get ml_X4_69 (by decide) (Nat.le_of_ble_eq_true rfl) dX4_measure_37 (sq_getk (k := s) rfl (by decide) hs2) (fun a_37 w_37 h_37 => ?_)
        obtain ⟨_, _⟩ := h_37
        subst a_37
        subst w_37
        refine j_iconst X dX4_measure_40 ?_
        refine j_iadd X dX4_measure_41 ?_
        refine cS3v X mf_X5_put ms_X5_put ml_X4_55 (by decide) (Nat.le_of_ble_eq_true rfl) dX4_measure_42 (sq_putk (k := s) rfl (by decide) hs2) (fun w_42 h_42 => ?_)
        change _ = _ at h_42
        subst w_42
        refine inc_1 X dX4_measure_45 rfl ?_
        refine j_goto (tgt := 10) X dX4_measure_48 (by decide) ?_
        refine fg_2 ?_
        rw [mesP_s hs hs2]
        exact ih10 (k + 1) (by omega) (by omega)
  rw [mesP_0]
  exact L_10 (N + 1) 0 (by omega) (by omega)
set_option maxHeartbeats 4000000 in
set_option maxRecDepth 20000 in
theorem sq_X4_spread {n : Nat} {w : wd} (hs : ShO n w) : CalV yX4_spread cX4_spread 2 4 LYA w [vR 5] (fun w' => w' = mesP (sprP n (4 * n * n) w) (4 * n * n)) := by
  have h144 := nn_le hs.1.2
  refine calV_intro (ls := [some (vR 5), none]) (by decide) (Nat.le_of_ble_eq_true rfl) rfl (fun κ ad X hR => ?_)
  refine j_iconst X dX4_spread_0 ?_
  refine s_1 X dX4_spread_1 rfl ?_
  have L_2 : ∀ (m : Nat) (k : Nat) (_ : k ≤ 4 * n * n) (_ : 4 * n * n - k < m), J κ LYA ad 0 0 2 [some (vR 5), some (vI (k : Int))] [] (sprP n k w) := by
    intro m
    induction m with
    | zero => intro k h1 h2; omega
    | succ m ih2 =>
      intro k h1 h2
      have hsk : ShO n (sprP n k w) := hs.keep (fun o ho => by funext i; simp only [sprP]; rw [if_neg (by omega)])
      have hn2 := hsk.2.2.1
      refine j_iload_n X dX4_spread_2 rfl ?_
      refine j_aload_n X dX4_spread_3 rfl ?_
      refine j_getR X dX4_spread_4 ff_X4_44 rfl rfl ?_
      refine j_getI X dX4_spread_7 ff_X4_73 rfl rfl ?_
      refine j_icmp_ge (tgt := 85) X dX4_spread_10 (by decide) ⟨by omega, by omega⟩ ⟨by omega, by omega⟩ (fun h_10 => ?_) (fun h_10 => ?_)
      · refine j_aload_n X dX4_spread_85 rfl ?_
        refine cV0v X mf_X4_measure mv_X4_measure ml_X4_88 (by decide) rfl rfl (Nat.le_of_ble_eq_true rfl) dX4_spread_86 (sq_X4_measure hn2 h144) (fun w_86 h_86 => ?_)
        change _ = _ at h_86
        subst w_86
        exact j_return X hR dX4_spread_89 (by rw [show k = 4 * n * n by omega])
      · refine j_aload_n X dX4_spread_13 rfl ?_
        refine j_getR X dX4_spread_14 ff_X4_9 rfl rfl ?_
        refine j_iload_n X dX4_spread_17 rfl ?_
        refine j_aload_n X dX4_spread_18 rfl ?_
        refine j_getR X dX4_spread_19 ff_X4_44 rfl rfl ?_
        refine j_iload_n X dX4_spread_22 rfl ?_
        refine cV1i X mf_X7_x mv_X7_x ml_X4_78 (by decide) rfl rfl (Nat.le_of_ble_eq_true rfl) dX4_spread_23 (sq_X7_x (n := n) hsk (by omega)) (fun a_23 w_23 h_23 => ?_)
        obtain ⟨_, _⟩ := h_23
        subst a_23
        subst w_23
        refine cS3v X mf_X5_put ms_X5_put ml_X4_55 (by decide) (Nat.le_of_ble_eq_true rfl) dX4_spread_26 (sq_putk rfl (by decide) (by omega)) (fun w_26 h_26 => ?_)
        change _ = _ at h_26
        subst w_26
        refine j_aload_n X dX4_spread_29 rfl ?_
        refine j_getR X dX4_spread_30 ff_X4_15 rfl rfl ?_
        refine j_iload_n X dX4_spread_33 rfl ?_
        refine j_aload_n X dX4_spread_34 rfl ?_
        refine j_getR X dX4_spread_35 ff_X4_44 rfl rfl ?_
        refine j_iload_n X dX4_spread_38 rfl ?_
        refine cV1i X mf_X7_y mv_X7_y ml_X4_82 (by decide) rfl rfl (Nat.le_of_ble_eq_true rfl) dX4_spread_39 (sq_X7_y (n := n) (hsk.keep (fun o ho => by simp only [wst]; rw [if_neg (by omega)])) (by omega)) (fun a_39 w_39 h_39 => ?_)
        obtain ⟨_, _⟩ := h_39
        subst a_39
        subst w_39
        refine cS3v X mf_X5_put ms_X5_put ml_X4_55 (by decide) (Nat.le_of_ble_eq_true rfl) dX4_spread_42 (sq_putk rfl (by decide) (by omega)) (fun w_42 h_42 => ?_)
        change _ = _ at h_42
        subst w_42
        refine j_aload_n X dX4_spread_45 rfl ?_
        refine j_getR X dX4_spread_46 ff_X4_18 rfl rfl ?_
        refine j_iload_n X dX4_spread_49 rfl ?_
        refine j_aload_n X dX4_spread_50 rfl ?_
        refine j_getR X dX4_spread_51 ff_X4_44 rfl rfl ?_
        refine j_iload_n X dX4_spread_54 rfl ?_
        refine cV1i X mf_X7_quarter mv_X7_quarter ml_X4_85 (by decide) rfl rfl (Nat.le_of_ble_eq_true rfl) dX4_spread_55 (sq_X7_quarter) (fun a_55 w_55 h_55 => ?_)
        obtain ⟨_, _⟩ := h_55
        subst a_55
        subst w_55
        refine cS3v X mf_X5_put ms_X5_put ml_X4_55 (by decide) (Nat.le_of_ble_eq_true rfl) dX4_spread_58 (sq_putk rfl (by decide) (by omega)) (fun w_58 h_58 => ?_)
        change _ = _ at h_58
        subst w_58
        refine j_aload_n X dX4_spread_61 rfl ?_
        refine j_getR X dX4_spread_62 ff_X4_21 rfl rfl ?_
        refine j_iload_n X dX4_spread_65 rfl ?_
        refine j_iconst X dX4_spread_66 ?_
        refine cS3v X mf_X5_put ms_X5_put ml_X4_55 (by decide) (Nat.le_of_ble_eq_true rfl) dX4_spread_67 (sq_putk rfl (by decide) (by omega)) (fun w_67 h_67 => ?_)
        change _ = _ at h_67
        subst w_67
        refine j_aload_n X dX4_spread_70 rfl ?_
        refine j_getR X dX4_spread_71 ff_X4_24 rfl rfl ?_
        refine j_iload_n X dX4_spread_74 rfl ?_
        refine j_iconst X dX4_spread_75 ?_
        refine cS3v X mf_X5_put ms_X5_put ml_X4_55 (by decide) (Nat.le_of_ble_eq_true rfl) dX4_spread_76 (sq_putk rfl (by decide) (by omega)) (fun w_76 h_76 => ?_)
        change _ = _ at h_76
        subst w_76
        refine inc_1 X dX4_spread_79 rfl ?_
        refine j_goto (tgt := 2) X dX4_spread_82 (by decide) ?_
        rw [sprP_s]
        exact ih2 (k + 1) (by omega) (by omega)
  have h0 := L_2 (4 * n * n + 1) 0 (by omega) (by omega)
  rw [sprP_0] at h0
  exact h0
set_option maxHeartbeats 4000000 in
set_option maxRecDepth 20000 in
theorem sq_X4_flatten {n : Nat} {w : wd} (hs : ShO n w) : CalV yX4_flatten cX4_flatten 1 5 LYA w [vR 5] (fun w' => w' = flatW n (wst w 5 11 0)) := by
  refine calV_intro (ls := [some (vR 5)]) (by decide) (Nat.le_of_ble_eq_true rfl) rfl (fun κ ad X hR => ?_)
  refine j_aload_n X dX4_flatten_0 rfl ?_
  refine j_iconst X dX4_flatten_1 ?_
  refine j_putI X dX4_flatten_2 fp_X4_48 rfl rfl ?_
  refine j_aload_n X dX4_flatten_5 rfl ?_
  refine cV0v X mf_X4_spread mv_X4_spread ml_X4_52 (by decide) rfl rfl (Nat.le_of_ble_eq_true rfl) dX4_flatten_6 (sq_X4_spread (n := n) (hs.keep (fun o ho => by simp only [wst]; rw [if_neg (by omega)]))) (fun w_6 h_6 => ?_)
  change _ = _ at h_6
  subst w_6
  exact j_return X hR dX4_flatten_9 rfl
set_option maxHeartbeats 4000000 in
set_option maxRecDepth 20000 in
theorem sq_X8_isDown {k : Nat} {w : wd} (hg : FlO w) (hk : k < 144) : CalI yX8_isDown cX8_isDown 2 .boolean 2 LYA w [vR 17, vI (k : Int)] (fun a w' => a = ib (w 18 k = 1) ∧ w' = w) := by
  have h1 := hg k hk
  refine calI_intro (ls := [some (vR 17), some (vI (k : Int))]) (by decide) (Nat.le_of_ble_eq_true rfl) rfl (fun κ ad X hR => ?_)
  refine j_aload_n X dX8_isDown_0 rfl ?_
  refine j_getR X dX8_isDown_1 ff_X8_9 rfl rfl ?_
  refine j_iload_n X dX8_isDown_4 rfl ?_
  refine cS2i X mf_X5_get ms_X5_get ml_X8_61 (by decide) (Nat.le_of_ble_eq_true rfl) dX8_isDown_5 (sq_getk rfl (by decide) (by omega)) (fun a_5 w_5 h_5 => ?_)
  obtain ⟨_, _⟩ := h_5
  subst a_5
  subst w_5
  refine j_iconst X dX8_isDown_8 ?_
  refine j_icmp_ne (tgt := 16) X dX8_isDown_9 (by decide) ⟨by omega, by omega⟩ ⟨by omega, by omega⟩ (fun h_9 => ?_) (fun h_9 => ?_)
  · refine j_iconst X dX8_isDown_16 ?_
    exact j_zreturn X hR dX8_isDown_17 (by first | exact Or.inl rfl | exact Or.inr rfl | exact ib_01) ⟨by first | exact (ib_t (by omega)).symm | exact (ib_f (by omega)).symm, rfl⟩
  · refine j_iconst X dX8_isDown_12 ?_
    refine j_goto (tgt := 17) X dX8_isDown_13 (by decide) ?_
    exact j_zreturn X hR dX8_isDown_17 (by first | exact Or.inl rfl | exact Or.inr rfl | exact ib_01) ⟨by first | exact (ib_t (by omega)).symm | exact (ib_f (by omega)).symm, rfl⟩
set_option maxHeartbeats 4000000 in
set_option maxRecDepth 20000 in
theorem sq_X8_leastOf {k : Nat} {w : wd} (hk : k < 144) : CalI yX8_leastOf cX8_leastOf 2 .int 2 LYA w [vR 17, vI (k : Int)] (fun a w' => a = w 19 k ∧ w' = w) := by
  refine calI_intro (ls := [some (vR 17), some (vI (k : Int))]) (by decide) (Nat.le_of_ble_eq_true rfl) rfl (fun κ ad X hR => ?_)
  refine j_aload_n X dX8_leastOf_0 rfl ?_
  refine j_getR X dX8_leastOf_1 ff_X8_15 rfl rfl ?_
  refine j_iload_n X dX8_leastOf_4 rfl ?_
  refine cS2i X mf_X5_get ms_X5_get ml_X8_61 (by decide) (Nat.le_of_ble_eq_true rfl) dX8_leastOf_5 (sq_getk rfl (by decide) (by omega)) (fun a_5 w_5 h_5 => ?_)
  obtain ⟨_, _⟩ := h_5
  subst a_5
  subst w_5
  exact j_ireturn X hR dX8_leastOf_8 ⟨rfl, rfl⟩
set_option maxHeartbeats 4000000 in
set_option maxRecDepth 20000 in
theorem sq_X1_wipe {w : wd} : CalV yX1_wipe cX1_wipe 1 3 LYA w [vR 21] (fun w' => w' = wst (wfl w 22 144 0) 21 2 0) := by
  refine calV_intro (ls := [some (vR 21)]) (by decide) (Nat.le_of_ble_eq_true rfl) rfl (fun κ ad X hR => ?_)
  refine j_aload_n X dX1_wipe_0 rfl ?_
  refine j_getR X dX1_wipe_1 ff_X1_9 rfl rfl ?_
  refine j_iconst X dX1_wipe_4 ?_
  refine cS2v X mf_X5_fill ms_X5_fill ml_X1_19 (by decide) (Nat.le_of_ble_eq_true rfl) dX1_wipe_5 (sq_X5_fill rfl (by decide)) (fun w_5 h_5 => ?_)
  change _ = _ at h_5
  subst w_5
  refine j_aload_n X dX1_wipe_8 rfl ?_
  refine j_iconst X dX1_wipe_9 ?_
  refine j_putI X dX1_wipe_10 fp_X1_25 rfl rfl ?_
  exact j_return X hR dX1_wipe_13 rfl
set_option maxHeartbeats 4000000 in
set_option maxRecDepth 20000 in
theorem sq_X8_gather {n f : Nat} {w : wd} (hs : ShO n w) (hg : FlO w) (hc : lClo n (fun k => ib (w 18 k = 1)) (w 19)) (hf : f < 4 * n * n) (hfn : w 19 f = -99999) (hlow : ∀ a, a < f → w 19 a ≠ -99999) : CalV yX8_gather cX8_gather 7 3 LYA w [vR 17, vI (f : Int)] (fun w' => ∃ L Q, w' = wLQ w L Q ∧ lClo n (fun k => ib (w 18 k = 1)) L ∧ L f ≠ -99999 ∧ (∀ a, a < 4 * n * n → w 19 a ≠ -99999 → L a = w 19 a) ∧ ∀ a, 4 * n * n ≤ a → L a = w 19 a) := by
  have h144 := nn_le hs.1.2
  have hFk : ∀ k, (fun k => ib (w 18 k = 1)) k = ib (w 18 k = 1) := fun k => rfl
  generalize hF : (fun k => ib (w 18 k = 1)) = F at hc hFk
  have hN : ∀ L Q, ShO n (wLQ w L Q) := fun L Q => hs.keep (fun o ho => by funext i; simp only [wLQ]; rw [if_neg (by omega), if_neg (by omega)])
  have hG : ∀ L Q, FlO (wLQ w L Q) := fun L Q => hg
  have hLr0 : ∀ a, a < 4 * n * n → -99999 ≤ w 19 a ∧ w 19 a ≤ 144 := fun a ha => by
    by_cases q : w 19 a = -99999
    · omega
    · obtain ⟨⟨r, e1, e2, -⟩, -⟩ := hc a ha q
      omega
  refine calV_intro (ls := [some (vR 17), some (vI (f : Int)), none, none, none, none, none]) (by decide) (Nat.le_of_ble_eq_true rfl) rfl (fun κ ad X hR => ?_)
  refine j_aload_n X dX8_gather_0 rfl ?_
  refine j_getR X dX8_gather_1 ff_X8_15 rfl rfl ?_
  refine j_iload_n X dX8_gather_4 rfl ?_
  refine j_iload_n X dX8_gather_5 rfl ?_
  refine cS3v X mf_X5_put ms_X5_put ml_X8_57 (by decide) (Nat.le_of_ble_eq_true rfl) dX8_gather_6 (sq_putk (k := f) rfl (by decide) (by omega)) (fun w_6 h_6 => ?_)
  change _ = _ at h_6
  subst w_6
  refine j_aload_n X dX8_gather_9 rfl ?_
  refine j_getR X dX8_gather_10 ff_X8_18 rfl rfl ?_
  refine j_iconst X dX8_gather_13 ?_
  refine j_iload_n X dX8_gather_14 rfl ?_
  refine cS3v X mf_X5_put ms_X5_put ml_X8_57 (by decide) (Nat.le_of_ble_eq_true rfl) dX8_gather_15 (sq_putk (k := 0) rfl (by decide) (by decide)) (fun w_15 h_15 => ?_)
  change _ = _ at h_15
  subst w_15
  rw [show wst (wst w 19 f (f : Int)) 20 0 (f : Int) = wLQ w (w1 (w 19) f f) (w1 (w 20) 0 f) by rw [← wLQ_Q, ← wLQ_L, wLQ_id]]
  have hG0 := gatO_0 (F := F) (Q := w 20) hf hfn
  refine j_iconst X dX8_gather_18 ?_
  refine s_2 X dX8_gather_19 rfl ?_
  refine j_iconst X dX8_gather_20 ?_
  refine s_3 X dX8_gather_21 rfl ?_
  have L_22 : ∀ (m : Nat) (i t : Nat) (L Q : Nat → Int) (_ : gatO n f F (w 19) L Q t i 0) (_ : ∀ a, a < 4 * n * n → -99999 ≤ L a ∧ L a ≤ 144) (_ : L f = (f : Int) ∧ ∀ a, 4 * n * n ≤ a → L a = w 19 a) (_ : i ≤ t) (_ : 144 - i < m), J κ LYA ad 0 0 22 [some (vR 17), some (vI (f : Int)), some (vI (t : Int)), some (vI (i : Int)), none, none, none] [] (wLQ w L Q) := by
    intro m
    induction m with
    | zero => intro i t L Q hO hLr hLf h1 h2; exact absurd h2 (Nat.not_lt_zero _)
    | succ m ih22 =>
      intro i t L Q hO hLr hLf h1 h2
      have htN := gatO_t hO
      refine j_iload_n X dX8_gather_22 rfl ?_
      refine j_iload_n X dX8_gather_23 rfl ?_
      refine j_icmp_ge (tgt := 134) X dX8_gather_24 (by decide) ⟨by omega, by omega⟩ ⟨by omega, by omega⟩ (fun h_24 => ?_) (fun h_24 => ?_)
      · have hit9 : i = t := by omega
        subst hit9
        exact j_return X hR dX8_gather_134 ⟨L, Q, rfl, gatO_end hO hc, by rw [hLf.1]; omega, hO.2.2.1, hLf.2⟩
      · refine j_iload_n X dX8_gather_27 rfl ?_
        refine j_sipush X dX8_gather_28 (by decide +kernel) ?_
        refine j_icmp_ge (tgt := 134) X dX8_gather_31 (by decide) ⟨by omega, by omega⟩ ⟨by omega, by omega⟩ (fun h_31 => ?_) (fun h_31 => ?_)
        · have hit9 : i = t := by omega
          subst hit9
          exact j_return X hR dX8_gather_134 ⟨L, Q, rfl, gatO_end hO hc, by rw [hLf.1]; omega, hO.2.2.1, hLf.2⟩
        · have hit : i < t := by omega
          obtain ⟨x, hxq, hxN, hxL, hx0, hxf, hxg⟩ := hO.1 i hit
          refine j_aload_n X dX8_gather_34 rfl ?_
          refine j_getR X dX8_gather_35 ff_X8_18 rfl rfl ?_
          refine j_iload_n X dX8_gather_38 rfl ?_
          refine cS2i X mf_X5_get ms_X5_get ml_X8_61 (by decide) (Nat.le_of_ble_eq_true rfl) dX8_gather_39 (sq_getk (k := i) rfl (by decide) (by omega)) (fun a_39 w_39 h_39 => ?_)
          obtain ⟨_, _⟩ := h_39
          subst a_39
          subst w_39
          rw [show wLQ w L Q 20 i = (x : Int) from hxq]
          refine s_4 X dX8_gather_42 rfl ?_
          refine j_iconst X dX8_gather_44 ?_
          refine s_5 X dX8_gather_45 rfl ?_
          have L_47 : ∀ (m : Nat) (e t : Nat) (L Q : Nat → Int) (_ : gatO n f F (w 19) L Q t i e) (_ : ∀ a, a < 4 * n * n → -99999 ≤ L a ∧ L a ≤ 144) (_ : L f = (f : Int) ∧ ∀ a, 4 * n * n ≤ a → L a = w 19 a) (_ : i < t) (_ : Q i = (x : Int)) (_ : e ≤ 3) (_ : 3 - e < m), J κ LYA ad 0 0 47 [some (vR 17), some (vI (f : Int)), some (vI (t : Int)), some (vI (i : Int)), some (vI (x : Int)), some (vI (e : Int)), none] [] (wLQ w L Q) := by
            intro m
            induction m with
            | zero => intro e t L Q hO hLr hLf hit hxq h3 h4; exact absurd h4 (Nat.not_lt_zero _)
            | succ m ih47 =>
              intro e t L Q hO hLr hLf hit hxq h3 h4
              have htN := gatO_t hO
              refine j_iload X dX8_gather_47 rfl ?_
              refine j_iconst X dX8_gather_49 ?_
              refine j_icmp_ge (tgt := 128) X dX8_gather_50 (by decide) ⟨by omega, by omega⟩ ⟨by omega, by omega⟩ (fun h_50 => ?_) (fun h_50 => ?_)
              · refine inc_3 X dX8_gather_128 rfl ?_
                refine j_goto (tgt := 22) X dX8_gather_131 (by decide) ?_
                refine fg_4 ?_
                refine fg_5 ?_
                refine fg_6 ?_
                have he9 : e = 3 := by omega
                subst he9
                exact ih22 (i + 1) t L Q (gatO_next hO) hLr hLf (by omega) (by omega)
              · have he3 : e < 3 := by omega
                have hbb := nb_b hs.1 hxN he3
                refine j_aload_n X dX8_gather_53 rfl ?_
                refine j_getR X dX8_gather_54 ff_X8_21 rfl rfl ?_
                refine j_iload X dX8_gather_57 rfl ?_
                refine j_iload X dX8_gather_59 rfl ?_
                refine cV2i X mf_X7_beside mv_X7_beside ml_X8_74 (by decide) rfl rfl (Nat.le_of_ble_eq_true rfl) dX8_gather_61 (sq_X7_beside (hN _ _) hxN he3) (fun a_61 w_61 h_61 => ?_)
                obtain ⟨_, _⟩ := h_61
                subst a_61
                subst w_61
                refine s_6 X dX8_gather_64 rfl ?_
                refine j_iload X dX8_gather_66 rfl ?_
                refine j_ldc X dX8_gather_68 kc_X8_65 ?_
                refine j_icmp_eq (tgt := 122) X dX8_gather_70 (by decide) ⟨by omega, by omega⟩ ⟨by omega, by omega⟩ (fun h_70 => ?_) (fun h_70 => ?_)
                · refine inc_5 X dX8_gather_122 rfl ?_
                  refine j_goto (tgt := 47) X dX8_gather_125 (by decide) ?_
                  refine fg_6 ?_
                  exact ih47 (e + 1) t L Q (gatO_skip hO hit hxq (fun b hb hn hF => by omega)) hLr hLf hit hxq (by omega) (by omega)
                · obtain ⟨b, hnb, hbN⟩ := (nb_rg hs.1 hxN he3).resolve_left h_70
                  rw [hnb]
                  refine j_aload_n X dX8_gather_73 rfl ?_
                  refine j_iload X dX8_gather_74 rfl ?_
                  refine cV1i X mf_X8_leastOf mv_X8_leastOf ml_X8_66 (by decide) rfl rfl (Nat.le_of_ble_eq_true rfl) dX8_gather_76 (sq_X8_leastOf (by omega)) (fun a_76 w_76 h_76 => ?_)
                  obtain ⟨_, _⟩ := h_76
                  subst a_76
                  subst w_76
                  have hLb : -99999 ≤ L b ∧ L b ≤ 144 := hLr b hbN
                  change J κ LYA ad 0 0 _ _ [vI (L b)] _
                  refine j_ldc X dX8_gather_79 kc_X8_65 ?_
                  refine j_icmp_ne (tgt := 122) X dX8_gather_81 (by decide) ⟨by omega, by omega⟩ ⟨by omega, by omega⟩ (fun h_81 => ?_) (fun h_81 => ?_)
                  · refine inc_5 X dX8_gather_122 rfl ?_
                    refine j_goto (tgt := 47) X dX8_gather_125 (by decide) ?_
                    refine fg_6 ?_
                    exact ih47 (e + 1) t L Q (gatO_skip hO hit hxq (fun b2 hb2 hn2 hF2 => gatO_old hO hc hs.1.2 he3 hxN hx0 hb2 (by rw [show b2 = b by omega]; exact h_81) hn2 hF2)) hLr hLf hit hxq (by omega) (by omega)
                  · refine j_aload_n X dX8_gather_84 rfl ?_
                    refine j_iload X dX8_gather_85 rfl ?_
                    refine cV1i X mf_X8_isDown mv_X8_isDown ml_X8_78 (by decide) rfl rfl (Nat.le_of_ble_eq_true rfl) dX8_gather_87 (sq_X8_isDown (hG _ _) (by omega)) (fun a_87 w_87 h_87 => ?_)
                    obtain ⟨_, _⟩ := h_87
                    subst a_87
                    subst w_87
                    refine j_aload_n X dX8_gather_90 rfl ?_
                    refine j_iload X dX8_gather_91 rfl ?_
                    refine cV1i X mf_X8_isDown mv_X8_isDown ml_X8_78 (by decide) rfl rfl (Nat.le_of_ble_eq_true rfl) dX8_gather_93 (sq_X8_isDown (hG _ _) (by omega)) (fun a_93 w_93 h_93 => ?_)
                    obtain ⟨_, _⟩ := h_93
                    subst a_93
                    subst w_93
                    refine j_icmp_ne (tgt := 122) X dX8_gather_96 (by decide) ib_rg ib_rg (fun h_96 => ?_) (fun h_96 => ?_)
                    · refine inc_5 X dX8_gather_122 rfl ?_
                      refine j_goto (tgt := 47) X dX8_gather_125 (by decide) ?_
                      refine fg_6 ?_
                      exact ih47 (e + 1) t L Q (gatO_skip hO hit hxq (fun b2 hb2 hn2 hF2 => by rw [show b2 = b by omega, hFk, hFk] at hF2; exact absurd hF2.symm h_96)) hLr hLf hit hxq (by omega) (by omega)
                    · have hbF : F x = F b := by rw [hFk, hFk]; exact h_96.symm
                      have ht1 := gatO_t1 hO hbN h_81
                      refine j_aload_n X dX8_gather_99 rfl ?_
                      refine j_getR X dX8_gather_100 ff_X8_15 rfl rfl ?_
                      refine j_iload X dX8_gather_103 rfl ?_
                      refine j_iload_n X dX8_gather_105 rfl ?_
                      refine cS3v X mf_X5_put ms_X5_put ml_X8_57 (by decide) (Nat.le_of_ble_eq_true rfl) dX8_gather_106 (sq_putk (k := b) rfl (by decide) (by omega)) (fun w_106 h_106 => ?_)
                      change _ = _ at h_106
                      subst w_106
                      refine j_aload_n X dX8_gather_109 rfl ?_
                      refine j_getR X dX8_gather_110 ff_X8_18 rfl rfl ?_
                      refine j_iload_n X dX8_gather_113 rfl ?_
                      refine j_iload X dX8_gather_114 rfl ?_
                      refine cS3v X mf_X5_put ms_X5_put ml_X8_57 (by decide) (Nat.le_of_ble_eq_true rfl) dX8_gather_116 (sq_putk (k := t) rfl (by decide) (by omega)) (fun w_116 h_116 => ?_)
                      change _ = _ at h_116
                      subst w_116
                      refine inc_2 X dX8_gather_119 rfl ?_
                      refine inc_5 X dX8_gather_122 rfl ?_
                      refine j_goto (tgt := 47) X dX8_gather_125 (by decide) ?_
                      rw [wLQ_L, wLQ_Q]
                      refine fg_6 ?_
                      refine ih47 (e + 1) (t + 1) _ _ (gatO_add hO hit hxq he3 hbN h_81 hnb hbF hlow hxN) (fun a ha => ?_) ⟨?_, fun a ha => by simp [w1, show ¬ a = b by omega]; exact hLf.2 a ha⟩ (by omega) (by simp [w1, show ¬ i = t by omega]; exact hxq) (by omega) (by omega)
                      · by_cases q : a = b
                        · subst q; simp [w1]; omega
                        · simp [w1, q]; exact hLr a ha
                      · by_cases q : f = b
                        · simp [w1, q]
                        · simp [w1, q]; exact hLf.1
          exact L_47 4 0 t L Q hO hLr hLf hit hxq (by omega) (by omega)
  refine L_22 145 0 1 _ _ hG0 (fun a ha => ?_) ⟨by simp [w1], fun a ha => by simp [w1, show ¬ a = f by omega]⟩ (by omega) (by omega)
  by_cases q : a = f
  · subst q; simp [w1]; omega
  · simp [w1, q]; exact hLr0 a ha
set_option maxHeartbeats 4000000 in
set_option maxRecDepth 20000 in
theorem sq_X8_part {n : Nat} {w : wd} (hs : ShO n w) (hg : FlO w) : CalV yX8_part cX8_part 2 4 LYA w [vR 17] (fun w' => ∃ L Q, w' = wLQ w L Q ∧ Lab n (fun k => ib (w 18 k = 1)) L ∧ ∀ a, a < 144 → -99999 ≤ L a ∧ L a ≤ 144) := by
  have h144 := nn_le hs.1.2
  have hn2 := hs.2.2.1
  have hN : ∀ L Q, ShO n (wLQ w L Q) := fun L Q => hs.keep (fun o ho => by funext i; simp only [wLQ]; rw [if_neg (by omega), if_neg (by omega)])
  have hG : ∀ L Q, FlO (wLQ w L Q) := fun L Q => hg
  have hcr : ∀ L, lClo n (fun k => ib (w 18 k = 1)) L → ∀ a, a < 4 * n * n → -99999 ≤ L a ∧ L a ≤ 144 := fun L hc a ha => by
    by_cases q : L a = -99999
    · omega
    · obtain ⟨⟨r, e1, e2, -⟩, -⟩ := hc a ha q
      omega
  refine calV_intro (ls := [some (vR 17), none]) (by decide) (Nat.le_of_ble_eq_true rfl) rfl (fun κ ad X hR => ?_)
  refine j_aload_n X dX8_part_0 rfl ?_
  refine j_getR X dX8_part_1 ff_X8_15 rfl rfl ?_
  refine j_ldc X dX8_part_4 kc_X8_65 ?_
  refine cS2v X mf_X5_fill ms_X5_fill ml_X8_33 (by decide) (Nat.le_of_ble_eq_true rfl) dX8_part_6 (sq_X5_fill rfl (by decide)) (fun w_6 h_6 => ?_)
  change _ = _ at h_6
  subst w_6
  rw [wLQ_f]
  refine j_iconst X dX8_part_9 ?_
  refine s_1 X dX8_part_10 rfl ?_
  have L_11 : ∀ (m : Nat) (k : Nat) (L Q : Nat → Int) (_ : lClo n (fun k => ib (w 18 k = 1)) L) (_ : ∀ a, a < k → L a ≠ -99999) (_ : ∀ a, 4 * n * n ≤ a → a < 144 → L a = -99999) (_ : k ≤ 4 * n * n) (_ : 4 * n * n - k < m), J κ LYA ad 0 0 11 [some (vR 17), some (vI (k : Int))] [] (wLQ w L Q) := by
    intro m
    induction m with
    | zero => intro k L Q hc hl ho h1 h2; exact absurd h2 (Nat.not_lt_zero _)
    | succ m ih11 =>
      intro k L Q hc hl ho h1 h2
      have hn9 : wLQ w L Q 1 4 = ((4 * n * n : Nat) : Int) := hn2
      refine j_iload_n X dX8_part_11 rfl ?_
      refine j_aload_n X dX8_part_12 rfl ?_
      refine j_getR X dX8_part_13 ff_X8_21 rfl rfl ?_
      refine j_getI X dX8_part_16 ff_X8_42 rfl rfl ?_
      refine j_icmp_ge (tgt := 43) X dX8_part_19 (by decide) ⟨by omega, by omega⟩ ⟨by omega, by omega⟩ (fun h_19 => ?_) (fun h_19 => ?_)
      · exact j_return X hR dX8_part_43 ⟨L, Q, rfl, hc.Lab (fun a ha => hl a (by omega)), fun a ha => by rcases Nat.lt_or_ge a (4 * n * n) with q | q; exact hcr L hc a q; rw [ho a q ha]; omega⟩
      · have hk : k < 4 * n * n := by omega
        have hLk := hcr L hc k hk
        refine j_aload_n X dX8_part_22 rfl ?_
        refine j_iload_n X dX8_part_23 rfl ?_
        refine cV1i X mf_X8_leastOf mv_X8_leastOf ml_X8_66 (by decide) rfl rfl (Nat.le_of_ble_eq_true rfl) dX8_part_24 (sq_X8_leastOf (by omega)) (fun a_24 w_24 h_24 => ?_)
        obtain ⟨_, _⟩ := h_24
        subst a_24
        subst w_24
        change J κ LYA ad 0 0 _ _ [vI (L k)] _
        refine j_ldc X dX8_part_27 kc_X8_65 ?_
        refine j_icmp_ne (tgt := 37) X dX8_part_29 (by decide) ⟨by omega, by omega⟩ ⟨by omega, by omega⟩ (fun h_29 => ?_) (fun h_29 => ?_)
        · refine inc_1 X dX8_part_37 rfl ?_
          refine j_goto (tgt := 11) X dX8_part_40 (by decide) ?_
          exact ih11 (k + 1) L Q hc (fun a ha => by by_cases q : a = k; rw [q]; exact h_29; exact hl a (by omega)) ho (by omega) (by omega)
        · refine j_aload_n X dX8_part_32 rfl ?_
          refine j_iload_n X dX8_part_33 rfl ?_
          refine cV1v X mf_X8_gather mv_X8_gather ml_X8_70 (by decide) rfl rfl (Nat.le_of_ble_eq_true rfl) dX8_part_34 (sq_X8_gather (hN _ _) (hG _ _) hc hk h_29 hl) (fun w_34 h_34 => ?_)
          obtain ⟨L2, Q2, hw9, hc2, hk2, hold, hout⟩ := h_34
          rw [wLQ_wLQ] at hw9
          subst w_34
          refine inc_1 X dX8_part_37 rfl ?_
          refine j_goto (tgt := 11) X dX8_part_40 (by decide) ?_
          exact ih11 (k + 1) L2 Q2 hc2 (fun a ha => by by_cases q : a = k; rw [q]; exact hk2; rw [hold a (by omega) (hl a (by omega))]; exact hl a (by omega)) (fun a h1 h2 => by rw [hout a h1]; exact ho a h1 h2) (by omega) (by omega)
  exact L_11 (4 * n * n + 1) 0 _ _ (fun a ha h => absurd (by simp [show a < 144 by omega]) h) (fun a ha => absurd ha (Nat.not_lt_zero a)) (fun a _ ha => by simp [ha]) (by omega) (by omega)
set_option maxHeartbeats 4000000 in
set_option maxRecDepth 20000 in
theorem sq_X8_mend {n : Nat} {w : wd} (hs : ShO n w) : CalV yX8_mend cX8_mend 1 5 LYA w [vR 17] (fun w' => ∃ L Q, w' = wLQ (mndW w) L Q ∧ Lab n (fun k => ib (mndW w 18 k = 1)) L ∧ ∀ a, a < 144 → -99999 ≤ L a ∧ L a ≤ 144) := by
  have hs2 : ShO n (mndW w) := hs.keep (fun o ho => by funext i; simp only [mndW, wfl, wst]; rw [if_neg (by omega), if_neg (by omega), if_neg (by omega)])
  have hg2 : FlO (mndW w) := fun k hk => by simp [mndW, wfl, hk]
  refine calV_intro (ls := [some (vR 17)]) (by decide) (Nat.le_of_ble_eq_true rfl) rfl (fun κ ad X hR => ?_)
  refine j_aload_n X dX8_mend_0 rfl ?_
  refine j_iconst X dX8_mend_1 ?_
  refine j_putZ X dX8_mend_2 fp_X8_25 rfl rfl (by first | exact Or.inl rfl | exact Or.inr rfl | assumption | omega) ?_
  refine j_aload_n X dX8_mend_5 rfl ?_
  refine j_iconst X dX8_mend_6 ?_
  refine j_putI X dX8_mend_7 fp_X8_29 rfl rfl ?_
  refine j_aload_n X dX8_mend_10 rfl ?_
  refine j_getR X dX8_mend_11 ff_X8_9 rfl rfl ?_
  refine j_iconst X dX8_mend_14 ?_
  refine cS2v X mf_X5_fill ms_X5_fill ml_X8_33 (by decide) (Nat.le_of_ble_eq_true rfl) dX8_mend_15 (sq_X5_fill rfl (by decide)) (fun w_15 h_15 => ?_)
  change _ = _ at h_15
  subst w_15
  refine j_aload_n X dX8_mend_18 rfl ?_
  refine cV0v X mf_X8_part mv_X8_part ml_X8_39 (by decide) rfl rfl (Nat.le_of_ble_eq_true rfl) dX8_mend_19 (sq_X8_part hs2 hg2) (fun w_19 h_19 => ?_)
  have h_p := h_19
  exact j_return X hR dX8_mend_22 h_p
set_option maxHeartbeats 4000000 in
set_option maxRecDepth 20000 in
theorem sq_X6_forget {w : wd} : CalV yX6_forget cX6_forget 1 1 LYA w [vR 23] (fun w' => w' = forW w) := by
  refine calV_intro (ls := [some (vR 23)]) (by decide) (Nat.le_of_ble_eq_true rfl) rfl (fun κ ad X hR => ?_)
  refine j_aload_n X dX6_forget_0 rfl ?_
  refine j_iconst X dX6_forget_1 ?_
  refine j_putI X dX6_forget_2 fp_X6_35 rfl rfl ?_
  refine j_aload_n X dX6_forget_5 rfl ?_
  refine j_iconst X dX6_forget_6 ?_
  refine j_putI X dX6_forget_7 fp_X6_39 rfl rfl ?_
  refine j_aload_n X dX6_forget_10 rfl ?_
  refine j_iconst X dX6_forget_11 ?_
  refine j_putI X dX6_forget_12 fp_X6_42 rfl rfl ?_
  refine j_aload_n X dX6_forget_15 rfl ?_
  refine j_ldc X dX6_forget_16 kc_X6_45 ?_
  refine j_putI X dX6_forget_18 fp_X6_46 rfl rfl ?_
  refine j_aload_n X dX6_forget_21 rfl ?_
  refine j_ldc X dX6_forget_22 kc_X6_45 ?_
  refine j_putI X dX6_forget_24 fp_X6_49 rfl rfl ?_
  exact j_return X hR dX6_forget_27 rfl
set_option maxHeartbeats 4000000 in
set_option maxRecDepth 20000 in
theorem sq_X9_begin {n : Nat} {w : wd} (hn : 1 ≤ n ∧ n ≤ 6) : CalV yX9_begin cX9_begin 2 6 LYA w [vR 0, vI (n : Int)] (fun w' => ∃ L Q, w' = forW (wst (wfl (wLQ (begW n w) L Q) 22 144 0) 21 2 0) ∧ Lab n (fun k => ib (begW n w 18 k = 1)) L ∧ ∀ a, a < 144 → -99999 ≤ L a ∧ L a ≤ 144) := by
  have hs2 : ShO n (flatW n (wst (resW w n) 5 11 0)) := (resW_ok hn).keep (fun o ho => by rw [flatW_o (by omega)]; funext i; simp only [wst]; rw [if_neg (by omega)])
  refine calV_intro (ls := [some (vR 0), some (vI (n : Int))]) (by decide) (Nat.le_of_ble_eq_true rfl) rfl (fun κ ad X hR => ?_)
  refine j_aload_n X dX9_begin_0 rfl ?_
  refine j_getR X dX9_begin_1 ff_X9_12 rfl rfl ?_
  refine j_iload_n X dX9_begin_4 rfl ?_
  refine cV1v X mf_X7_resize mv_X7_resize ml_X9_227 (by decide) rfl rfl (Nat.le_of_ble_eq_true rfl) dX9_begin_5 (sq_X7_resize hn) (fun w_5 h_5 => ?_)
  change _ = _ at h_5
  subst w_5
  refine j_aload_n X dX9_begin_8 rfl ?_
  refine j_getR X dX9_begin_9 ff_X9_21 rfl rfl ?_
  refine cV0v X mf_X4_flatten mv_X4_flatten ml_X9_230 (by decide) rfl rfl (Nat.le_of_ble_eq_true rfl) dX9_begin_12 (sq_X4_flatten (n := n) (resW_ok hn)) (fun w_12 h_12 => ?_)
  change _ = _ at h_12
  subst w_12
  refine j_aload_n X dX9_begin_15 rfl ?_
  refine j_getR X dX9_begin_16 ff_X9_37 rfl rfl ?_
  refine cV0v X mf_X8_mend mv_X8_mend ml_X9_233 (by decide) rfl rfl (Nat.le_of_ble_eq_true rfl) dX9_begin_19 (sq_X8_mend hs2) (fun w_19 h_19 => ?_)
  obtain ⟨L, Q, hw9, hlab, hrng⟩ := h_19
  subst w_19
  refine j_aload_n X dX9_begin_22 rfl ?_
  refine j_getR X dX9_begin_23 ff_X9_44 rfl rfl ?_
  refine cV0v X mf_X1_wipe mv_X1_wipe ml_X9_236 (by decide) rfl rfl (Nat.le_of_ble_eq_true rfl) dX9_begin_26 (sq_X1_wipe) (fun w_26 h_26 => ?_)
  change _ = _ at h_26
  subst w_26
  refine j_aload_n X dX9_begin_29 rfl ?_
  refine j_getR X dX9_begin_30 ff_X9_53 rfl rfl ?_
  refine cV0v X mf_X6_forget mv_X6_forget ml_X9_239 (by decide) rfl rfl (Nat.le_of_ble_eq_true rfl) dX9_begin_33 (sq_X6_forget) (fun w_33 h_33 => ?_)
  change _ = _ at h_33
  subst w_33
  exact j_return X hR dX9_begin_36 ⟨L, Q, rfl, hlab, hrng⟩
