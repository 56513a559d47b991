/-! ===== the sheet ===== -/
def lx (n k : Nat) : Int := ((k / 4 % n : Nat) : Int)
def ly (n k : Nat) : Int := ((k / 4 / n : Nat) : Int)
def lq (k : Nat) : Int := ((k % 4 : Nat) : Int)
def ax (x q : Int) : Int := x + (if q = 1 then 1 else if q = 3 then -1 else 0)
def ay (y q : Int) : Int := y + (if q = 2 then 1 else if q = 0 then -1 else 0)
def acr (n x y q : Int) : Int := if 0 ≤ ax x q ∧ ax x q < n ∧ 0 ≤ ay y q ∧ ay y q < n then 4 * (ay y q * n + ax x q) + (q + 2) % 4 else -99999
def nb (n k e : Nat) : Int := if e = 0 then acr n (lx n k) (ly n k) (lq k) else (k : Int) - lq k + (if e = 1 then lq k + 1 else lq k + 3) % 4
def ShO (n : Nat) (w : wd) : Prop := (1 ≤ n ∧ n ≤ 6) ∧ w 1 3 = (n : Int) ∧ w 1 4 = ((4 * n * n : Nat) : Int) ∧ (∀ k, k < 4 * n * n → w 2 k = lx n k ∧ w 3 k = ly n k) ∧ ∀ k e, k < 4 * n * n → e < 3 → w 4 (3 * k + e) = nb n k e
theorem nn_le {n : Nat} (h : n ≤ 6) : 4 * n * n ≤ 144 := by
  have := Nat.mul_le_mul (Nat.mul_le_mul (Nat.le_refl 4) h) h
  omega
theorem z_xor2 {q : Int} (h0 : 0 ≤ q) (h1 : q < 4) : zI q ^^^ zI 2 = zI ((q + 2) % 4) := by
  rcases (by omega : q = 0 ∨ q = 1 ∨ q = 2 ∨ q = 3) with rfl | rfl | rfl | rfl <;> decide +kernel
theorem lf_div {n x y q : Nat} (hx : x < n) (hq : q < 4) : lx n (4 * (y * n + x) + q) = x ∧ ly n (4 * (y * n + x) + q) = y ∧ lq (4 * (y * n + x) + q) = q := by
  have e1 : (4 * (y * n + x) + q) / 4 = y * n + x := by omega
  have e2 : (4 * (y * n + x) + q) % 4 = q := by omega
  unfold lx ly lq
  rw [e1, e2]
  refine ⟨?_, ?_, rfl⟩
  · rw [Nat.mul_comm, Nat.mul_add_mod, Nat.mod_eq_of_lt hx]
  · rw [Nat.mul_comm, Nat.mul_add_div (by omega), Nat.div_eq_of_lt hx, Nat.add_zero]
theorem lxy_rg {n k : Nat} (h1 : 1 ≤ n ∧ n ≤ 6) (hk : k < 4 * n * n) : (0 ≤ lx n k ∧ lx n k < n) ∧ (0 ≤ ly n k ∧ ly n k < n) ∧ (0 ≤ lq k ∧ lq k < 4) := by
  have a1 : k / 4 % n < n := Nat.mod_lt _ (by omega)
  have a2 : k / 4 / n < n := by
    rw [Nat.div_lt_iff_lt_mul (by omega)]
    rw [Nat.mul_assoc] at hk
    omega
  exact ⟨⟨Int.natCast_nonneg _, Int.ofNat_lt.mpr a1⟩, ⟨Int.natCast_nonneg _, Int.ofNat_lt.mpr a2⟩, by unfold lq; omega⟩
theorem idx_lt {n x y q : Nat} (hx : x < n) (hy : y < n) (hq : q < 4) : 4 * (y * n + x) + q < 4 * n * n := by
  have h1 : (y + 1) * n ≤ n * n := Nat.mul_le_mul_right n hy
  rw [Nat.add_mul, Nat.one_mul] at h1
  rw [Nat.mul_assoc]
  omega
def plW (n : Int) (w : wd) (k : Nat) (x y q : Int) : wd := wst (wst (wst (wst (wst w 2 k x) 3 k y) 4 (3 * k) (acr n x y q)) 4 (3 * k + 1) (4 * (y * n + x) + (q + 1) % 4)) 4 (3 * k + 2) (4 * (y * n + x) + (q + 3) % 4)
def resP (w : wd) (n m : Nat) : wd := fun o i => if o = 2 ∧ i < m then lx n i else if o = 3 ∧ i < m then ly n i else if o = 4 ∧ i < 3 * m then nb n (i / 3) (i % 3) else w o i
theorem resP_0 (w : wd) (n : Nat) : resP w n 0 = w := by
  funext o i
  simp [resP]
theorem resP_s {w : wd} {n x y q : Nat} (hx : x < n) (hq : q < 4) : plW n (resP w n (4 * (y * n + x) + q)) (4 * (y * n + x) + q) x y q = resP w n (4 * (y * n + x) + q + 1) := by
  obtain ⟨e1, e2, e3⟩ := lf_div (y := y) hx hq
  have hm : ((4 * (y * n + x) + q : Nat) : Int) = 4 * ((y : Int) * n + x) + q := by
    rw [Int.natCast_add, Int.natCast_mul, Int.natCast_add, Int.natCast_mul]; rfl
  generalize hk : 4 * (y * n + x) + q = k at e1 e2 e3 hm ⊢
  funext o i
  by_cases h2 : o = 2
  · subst h2
    by_cases hi : i = k
    · subst hi
      simp [plW, wst, w1, resP, e1]
    · have : i < k ↔ i < k + 1 := by omega
      simp [plW, wst, w1, resP, hi, this]
  · by_cases h3 : o = 3
    · subst h3
      by_cases hi : i = k
      · subst hi
        simp [plW, wst, w1, resP, e2]
      · have : i < k ↔ i < k + 1 := by omega
        simp [plW, wst, w1, resP, hi, this]
    · by_cases h4 : o = 4
      · subst h4
        by_cases i2 : i = 3 * k + 2
        · subst i2
          have a1 : (3 * k + 2) / 3 = k := by omega
          have a2 : (3 * k + 2) % 3 = 2 := by omega
          have a3 : 3 * k + 2 < 3 * (k + 1) := by omega
          simp only [plW, wst, w1, resP, if_pos, a1, a2, a3, nb, e3]
          simp
          omega
        · by_cases i1 : i = 3 * k + 1
          · subst i1
            have a1 : (3 * k + 1) / 3 = k := by omega
            have a2 : (3 * k + 1) % 3 = 1 := by omega
            have a3 : 3 * k + 1 < 3 * (k + 1) := by omega
            simp only [plW, wst, w1, resP, if_pos, a1, a2, a3, nb, e3]
            simp
            omega
          · by_cases i0 : i = 3 * k
            · subst i0
              have a1 : (3 * k) / 3 = k := by omega
              have a2 : (3 * k) % 3 = 0 := by omega
              have a3 : 3 * k < 3 * (k + 1) := by omega
              simp only [plW, wst, w1, resP, if_pos, a1, a2, a3, nb, e1, e2, e3]
              simp
            · have : i < 3 * k ↔ i < 3 * (k + 1) := by omega
              simp [plW, wst, w1, resP, i0, i1, i2, this]
      · simp [plW, wst, w1, resP, h2, h3, h4]
def resW (w : wd) (n : Nat) : wd := resP (wst (wst w 1 3 n) 1 4 (4 * (n : Int) * n)) n (4 * n * n)
theorem resW_ok {w : wd} {n : Nat} (h : 1 ≤ n ∧ n ≤ 6) : ShO n (resW w n) := by
  refine ⟨h, ?_, ?_, fun k hk => ⟨?_, ?_⟩, fun k e hk he => ?_⟩
  · simp [resW, resP, wst, w1]
  · simp [resW, resP, wst, w1]
  · simp [resW, resP, hk]
  · simp [resW, resP, hk]
  · have a1 : (3 * k + e) / 3 = k := by omega
    have a2 : (3 * k + e) % 3 = e := by omega
    have a3 : 3 * k + e < 3 * (4 * n * n) := by omega
    simp [resW, resP, a1, a2, a3]
theorem resW_o {w : wd} {n o : Nat} (h : 4 < o ∨ o = 0) : resW w n o = w o := by
  funext i
  have h1 : ¬ o = 1 := by omega
  have h2 : ¬ o = 2 := by omega
  have h3 : ¬ o = 3 := by omega
  have h4 : ¬ o = 4 := by omega
  simp [resW, resP, wst, h1, h2, h3, h4]
set_option maxHeartbeats 4000000 in
set_option maxRecDepth 20000 in
theorem sp_X7_hasCell {x y n : Int} {w : wd} (hn : w 1 3 = n) (hn0 : 0 ≤ n ∧ n ≤ 6) (hx : rg x) (hy : rg y) : CalI yX7_hasCell cX7_hasCell 3 .boolean 1 LAY w [vR 1, vI x, vI y] (fun a w' => a = ib (0 ≤ x ∧ x < n ∧ 0 ≤ y ∧ y < n) ∧ w' = w) := by
  refine calI_intro (ls := [some (vR 1), some (vI x), some (vI y)]) (by decide) (Nat.le_of_ble_eq_true rfl) rfl (fun κ ad X hR => ?_)
  refine j_iload_n X dX7_hasCell_0 rfl ?_
  refine j_if_lt (tgt := 28) X dX7_hasCell_1 (by decide) ⟨by omega, by omega⟩ (fun h_1 => ?_) (fun h_1 => ?_)
  · refine j_iconst X dX7_hasCell_28 ?_
    exact j_zreturn X hR dX7_hasCell_29 (by first | exact Or.inl rfl | exact Or.inr rfl | exact ib_01) ⟨by first | exact (ib_t (by omega)).symm | exact (ib_f (by omega)).symm, rfl⟩
  · refine j_iload_n X dX7_hasCell_4 rfl ?_
    refine j_aload_n X dX7_hasCell_5 rfl ?_
    refine j_getI X dX7_hasCell_6 ff_X7_21 rfl rfl ?_
    refine j_icmp_ge (tgt := 28) X dX7_hasCell_9 (by decide) ⟨by omega, by omega⟩ ⟨by omega, by omega⟩ (fun h_9 => ?_) (fun h_9 => ?_)
    · refine j_iconst X dX7_hasCell_28 ?_
      exact j_zreturn X hR dX7_hasCell_29 (by first | exact Or.inl rfl | exact Or.inr rfl | exact ib_01) ⟨by first | exact (ib_t (by omega)).symm | exact (ib_f (by omega)).symm, rfl⟩
    · refine j_iload_n X dX7_hasCell_12 rfl ?_
      refine j_if_lt (tgt := 28) X dX7_hasCell_13 (by decide) ⟨by omega, by omega⟩ (fun h_13 => ?_) (fun h_13 => ?_)
      · refine j_iconst X dX7_hasCell_28 ?_
        exact j_zreturn X hR dX7_hasCell_29 (by first | exact Or.inl rfl | exact Or.inr rfl | exact ib_01) ⟨by first | exact (ib_t (by omega)).symm | exact (ib_f (by omega)).symm, rfl⟩
      · refine j_iload_n X dX7_hasCell_16 rfl ?_
        refine j_aload_n X dX7_hasCell_17 rfl ?_
        refine j_getI X dX7_hasCell_18 ff_X7_21 rfl rfl ?_
        refine j_icmp_ge (tgt := 28) X dX7_hasCell_21 (by decide) ⟨by omega, by omega⟩ ⟨by omega, by omega⟩ (fun h_21 => ?_) (fun h_21 => ?_)
        · refine j_iconst X dX7_hasCell_28 ?_
          exact j_zreturn X hR dX7_hasCell_29 (by first | exact Or.inl rfl | exact Or.inr rfl | exact ib_01) ⟨by first | exact (ib_t (by omega)).symm | exact (ib_f (by omega)).symm, rfl⟩
        · refine j_iconst X dX7_hasCell_24 ?_
          refine j_goto (tgt := 29) X dX7_hasCell_25 (by decide) ?_
          exact j_zreturn X hR dX7_hasCell_29 (by first | exact Or.inl rfl | exact Or.inr rfl | exact ib_01) ⟨by first | exact (ib_t (by omega)).symm | exact (ib_f (by omega)).symm, rfl⟩
set_option maxHeartbeats 4000000 in
set_option maxRecDepth 20000 in
theorem sp_X7_leaf {x y q n : Int} {w : wd} (hn : w 1 3 = n) : CalI yX7_leaf cX7_leaf 4 .int 1 LAY w [vR 1, vI x, vI y, vI q] (fun a w' => a = 4 * (y * n + x) + q ∧ w' = w) := by
  refine calI_intro (ls := [some (vR 1), some (vI x), some (vI y), some (vI q)]) (by decide) (Nat.le_of_ble_eq_true rfl) rfl (fun κ ad X hR => ?_)
  refine j_iconst X dX7_leaf_0 ?_
  refine j_iload_n X dX7_leaf_1 rfl ?_
  refine j_aload_n X dX7_leaf_2 rfl ?_
  refine j_getI X dX7_leaf_3 ff_X7_21 rfl rfl ?_
  refine j_imul X dX7_leaf_6 ?_
  refine j_iload_n X dX7_leaf_7 rfl ?_
  refine j_iadd X dX7_leaf_8 ?_
  refine j_imul X dX7_leaf_9 ?_
  refine j_iload_n X dX7_leaf_10 rfl ?_
  refine j_iadd X dX7_leaf_11 ?_
  exact j_ireturn X hR dX7_leaf_12 ⟨by rw [hn], rfl⟩
set_option maxHeartbeats 4000000 in
set_option maxRecDepth 20000 in
theorem sp_X7_has {k : Int} {N : Nat} {w : wd} (hn : w 1 4 = (N : Int)) (hN : N ≤ 144) (hk : rg k) : CalI yX7_has cX7_has 2 .boolean 1 LAY w [vR 1, vI k] (fun a w' => a = ib (0 ≤ k ∧ k < N) ∧ w' = w) := by
  refine calI_intro (ls := [some (vR 1), some (vI k)]) (by decide) (Nat.le_of_ble_eq_true rfl) rfl (fun κ ad X hR => ?_)
  refine j_iload_n X dX7_has_0 rfl ?_
  refine j_if_lt (tgt := 16) X dX7_has_1 (by decide) ⟨by omega, by omega⟩ (fun h_1 => ?_) (fun h_1 => ?_)
  · refine j_iconst X dX7_has_16 ?_
    exact j_zreturn X hR dX7_has_17 (by first | exact Or.inl rfl | exact Or.inr rfl | exact ib_01) ⟨by first | exact (ib_t (by omega)).symm | exact (ib_f (by omega)).symm, rfl⟩
  · refine j_iload_n X dX7_has_4 rfl ?_
    refine j_aload_n X dX7_has_5 rfl ?_
    refine j_getI X dX7_has_6 ff_X7_25 rfl rfl ?_
    refine j_icmp_ge (tgt := 16) X dX7_has_9 (by decide) ⟨by omega, by omega⟩ ⟨by omega, by omega⟩ (fun h_9 => ?_) (fun h_9 => ?_)
    · refine j_iconst X dX7_has_16 ?_
      exact j_zreturn X hR dX7_has_17 (by first | exact Or.inl rfl | exact Or.inr rfl | exact ib_01) ⟨by first | exact (ib_t (by omega)).symm | exact (ib_f (by omega)).symm, rfl⟩
    · refine j_iconst X dX7_has_12 ?_
      refine j_goto (tgt := 17) X dX7_has_13 (by decide) ?_
      exact j_zreturn X hR dX7_has_17 (by first | exact Or.inl rfl | exact Or.inr rfl | exact ib_01) ⟨by first | exact (ib_t (by omega)).symm | exact (ib_f (by omega)).symm, rfl⟩
set_option maxHeartbeats 4000000 in
set_option maxRecDepth 20000 in
theorem sp_X7_hasPoint {x y n b : Int} {w : wd} (hn : w 1 3 = n) (hn0 : 0 ≤ n ∧ n ≤ 6) (hx : rg x) (hy : rg y) (hb : b = 0 ∨ b = 1) : CalI yX7_hasPoint cX7_hasPoint 4 .boolean 2 LAY w [vR 1, vI x, vI y, vI b] (fun a w' => a = ib (0 ≤ x ∧ 0 ≤ y ∧ ((b = 1 ∧ x < n ∧ y < n) ∨ (b = 0 ∧ x ≤ n ∧ y ≤ n))) ∧ w' = w) := by
  refine calI_intro (ls := [some (vR 1), some (vI x), some (vI y), some (vI b)]) (by decide) (Nat.le_of_ble_eq_true rfl) rfl (fun κ ad X hR => ?_)
  refine j_iload_n X dX7_hasPoint_0 rfl ?_
  refine j_if_eq (tgt := 13) X dX7_hasPoint_1 (by decide) ⟨by omega, by omega⟩ (fun h_1 => ?_) (fun h_1 => ?_)
  · refine j_iload_n X dX7_hasPoint_13 rfl ?_
    refine j_if_lt (tgt := 41) X dX7_hasPoint_14 (by decide) ⟨by omega, by omega⟩ (fun h_14 => ?_) (fun h_14 => ?_)
    · refine j_iconst X dX7_hasPoint_41 ?_
      exact j_zreturn X hR dX7_hasPoint_42 (by first | exact Or.inl rfl | exact Or.inr rfl | exact ib_01) ⟨by first | exact (ib_t (by omega)).symm | exact (ib_f (by omega)).symm | exact ib_c (by omega), rfl⟩
    · refine j_iload_n X dX7_hasPoint_17 rfl ?_
      refine j_aload_n X dX7_hasPoint_18 rfl ?_
      refine j_getI X dX7_hasPoint_19 ff_X7_21 rfl rfl ?_
      refine j_icmp_gt (tgt := 41) X dX7_hasPoint_22 (by decide) ⟨by omega, by omega⟩ ⟨by omega, by omega⟩ (fun h_22 => ?_) (fun h_22 => ?_)
      · refine j_iconst X dX7_hasPoint_41 ?_
        exact j_zreturn X hR dX7_hasPoint_42 (by first | exact Or.inl rfl | exact Or.inr rfl | exact ib_01) ⟨by first | exact (ib_t (by omega)).symm | exact (ib_f (by omega)).symm | exact ib_c (by omega), rfl⟩
      · refine j_iload_n X dX7_hasPoint_25 rfl ?_
        refine j_if_lt (tgt := 41) X dX7_hasPoint_26 (by decide) ⟨by omega, by omega⟩ (fun h_26 => ?_) (fun h_26 => ?_)
        · refine j_iconst X dX7_hasPoint_41 ?_
          exact j_zreturn X hR dX7_hasPoint_42 (by first | exact Or.inl rfl | exact Or.inr rfl | exact ib_01) ⟨by first | exact (ib_t (by omega)).symm | exact (ib_f (by omega)).symm | exact ib_c (by omega), rfl⟩
        · refine j_iload_n X dX7_hasPoint_29 rfl ?_
          refine j_aload_n X dX7_hasPoint_30 rfl ?_
          refine j_getI X dX7_hasPoint_31 ff_X7_21 rfl rfl ?_
          refine j_icmp_gt (tgt := 41) X dX7_hasPoint_34 (by decide) ⟨by omega, by omega⟩ ⟨by omega, by omega⟩ (fun h_34 => ?_) (fun h_34 => ?_)
          · refine j_iconst X dX7_hasPoint_41 ?_
            exact j_zreturn X hR dX7_hasPoint_42 (by first | exact Or.inl rfl | exact Or.inr rfl | exact ib_01) ⟨by first | exact (ib_t (by omega)).symm | exact (ib_f (by omega)).symm | exact ib_c (by omega), rfl⟩
          · refine j_iconst X dX7_hasPoint_37 ?_
            refine j_goto (tgt := 42) X dX7_hasPoint_38 (by decide) ?_
            exact j_zreturn X hR dX7_hasPoint_42 (by first | exact Or.inl rfl | exact Or.inr rfl | exact ib_01) ⟨by first | exact (ib_t (by omega)).symm | exact (ib_f (by omega)).symm | exact ib_c (by omega), rfl⟩
  · refine j_aload_n X dX7_hasPoint_4 rfl ?_
    refine j_iload_n X dX7_hasPoint_5 rfl ?_
    refine j_iload_n X dX7_hasPoint_6 rfl ?_
    refine cV2i X mf_X7_hasCell mv_X7_hasCell ml_X7_45 (by decide) rfl rfl (Nat.le_of_ble_eq_true rfl) dX7_hasPoint_7 (sp_X7_hasCell hn hn0 hx hy) (fun a_7 w_7 h_7 => ?_)
    obtain ⟨_, _⟩ := h_7
    subst a_7
    subst w_7
    refine j_goto (tgt := 42) X dX7_hasPoint_10 (by decide) ?_
    exact j_zreturn X hR dX7_hasPoint_42 (by first | exact Or.inl rfl | exact Or.inr rfl | exact ib_01) ⟨by first | exact (ib_t (by omega)).symm | exact (ib_f (by omega)).symm | exact ib_c (by omega), rfl⟩
set_option maxHeartbeats 4000000 in
set_option maxRecDepth 20000 in
theorem sp_X7_x {k n : Nat} {w : wd} (hs : ShO n w) (hk : k < 4 * n * n) : CalI yX7_x cX7_x 2 .int 2 LAY w [vR 1, vI (k : Int)] (fun a w' => a = lx n k ∧ w' = w) := by
  have h144 := nn_le hs.1.2
  refine calI_intro (ls := [some (vR 1), some (vI (k : Int))]) (by decide) (Nat.le_of_ble_eq_true rfl) rfl (fun κ ad X hR => ?_)
  refine j_aload_n X dX7_x_0 rfl ?_
  refine j_getR X dX7_x_1 ff_X7_9 rfl rfl ?_
  refine j_iload_n X dX7_x_4 rfl ?_
  refine cS2i X mf_X5_get ms_X5_get ml_X7_50 (by decide) (Nat.le_of_ble_eq_true rfl) dX7_x_5 (sp_getk rfl (by decide) (by omega)) (fun a_5 w_5 h_5 => ?_)
  obtain ⟨_, _⟩ := h_5
  subst a_5
  subst w_5
  exact j_ireturn X hR dX7_x_8 ⟨(hs.2.2.2.1 k hk).1, rfl⟩
set_option maxHeartbeats 4000000 in
set_option maxRecDepth 20000 in
theorem sp_X7_y {k n : Nat} {w : wd} (hs : ShO n w) (hk : k < 4 * n * n) : CalI yX7_y cX7_y 2 .int 2 LAY w [vR 1, vI (k : Int)] (fun a w' => a = ly n k ∧ w' = w) := by
  have h144 := nn_le hs.1.2
  refine calI_intro (ls := [some (vR 1), some (vI (k : Int))]) (by decide) (Nat.le_of_ble_eq_true rfl) rfl (fun κ ad X hR => ?_)
  refine j_aload_n X dX7_y_0 rfl ?_
  refine j_getR X dX7_y_1 ff_X7_15 rfl rfl ?_
  refine j_iload_n X dX7_y_4 rfl ?_
  refine cS2i X mf_X5_get ms_X5_get ml_X7_50 (by decide) (Nat.le_of_ble_eq_true rfl) dX7_y_5 (sp_getk rfl (by decide) (by omega)) (fun a_5 w_5 h_5 => ?_)
  obtain ⟨_, _⟩ := h_5
  subst a_5
  subst w_5
  exact j_ireturn X hR dX7_y_8 ⟨(hs.2.2.2.1 k hk).2, rfl⟩
set_option maxHeartbeats 4000000 in
set_option maxRecDepth 20000 in
theorem sp_X7_quarter {k : Nat} {w : wd} : CalI yX7_quarter cX7_quarter 2 .int 1 LAY w [vR 1, vI (k : Int)] (fun a w' => a = lq k ∧ w' = w) := by
  refine calI_intro (ls := [some (vR 1), some (vI (k : Int))]) (by decide) (Nat.le_of_ble_eq_true rfl) rfl (fun κ ad X hR => ?_)
  refine j_iload_n X dX7_quarter_0 rfl ?_
  refine j_iconst X dX7_quarter_1 ?_
  refine j_iand X dX7_quarter_2 (z_and3 _) ?_
  exact j_ireturn X hR dX7_quarter_3 ⟨by unfold lq; omega, rfl⟩
set_option maxHeartbeats 4000000 in
set_option maxRecDepth 20000 in
theorem sp_X7_distance {k j n : Nat} {w : wd} (hs : ShO n w) (hk : k < 4 * n * n) (hj : j < 4 * n * n) : CalI yX7_distance cX7_distance 3 .int 3 LAY w [vR 1, vI (k : Int), vI (j : Int)] (fun a w' => a = max (if 0 ≤ lx n k - lx n j then lx n k - lx n j else -(lx n k - lx n j)) (if 0 ≤ ly n k - ly n j then ly n k - ly n j else -(ly n k - ly n j)) ∧ w' = w) := by
  have h144 := nn_le hs.1.2
  have hx1 := lxy_rg hs.1 hk
  have hx2 := lxy_rg hs.1 hj
  have hn6 := hs.1.2
  refine calI_intro (ls := [some (vR 1), some (vI (k : Int)), some (vI (j : Int))]) (by decide) (Nat.le_of_ble_eq_true rfl) rfl (fun κ ad X hR => ?_)
  refine j_aload_n X dX7_distance_0 rfl ?_
  refine j_iload_n X dX7_distance_1 rfl ?_
  refine cV1i X mf_X7_x mv_X7_x ml_X7_54 (by decide) rfl rfl (Nat.le_of_ble_eq_true rfl) dX7_distance_2 (sp_X7_x hs (by omega)) (fun a_2 w_2 h_2 => ?_)
  obtain ⟨_, _⟩ := h_2
  subst a_2
  subst w_2
  refine j_aload_n X dX7_distance_5 rfl ?_
  refine j_iload_n X dX7_distance_6 rfl ?_
  refine cV1i X mf_X7_x mv_X7_x ml_X7_54 (by decide) rfl rfl (Nat.le_of_ble_eq_true rfl) dX7_distance_7 (sp_X7_x hs (by omega)) (fun a_7 w_7 h_7 => ?_)
  obtain ⟨_, _⟩ := h_7
  subst a_7
  subst w_7
  refine j_isub X dX7_distance_10 ?_
  refine j_mabs X csOk_0 mt_X7_58 (by decide) (Nat.le_of_ble_eq_true rfl) dX7_distance_11 ⟨by omega, by omega⟩ ?_
  refine j_aload_n X dX7_distance_14 rfl ?_
  refine j_iload_n X dX7_distance_15 rfl ?_
  refine cV1i X mf_X7_y mv_X7_y ml_X7_63 (by decide) rfl rfl (Nat.le_of_ble_eq_true rfl) dX7_distance_16 (sp_X7_y hs (by omega)) (fun a_16 w_16 h_16 => ?_)
  obtain ⟨_, _⟩ := h_16
  subst a_16
  subst w_16
  refine j_aload_n X dX7_distance_19 rfl ?_
  refine j_iload_n X dX7_distance_20 rfl ?_
  refine cV1i X mf_X7_y mv_X7_y ml_X7_63 (by decide) rfl rfl (Nat.le_of_ble_eq_true rfl) dX7_distance_21 (sp_X7_y hs (by omega)) (fun a_21 w_21 h_21 => ?_)
  obtain ⟨_, _⟩ := h_21
  subst a_21
  subst w_21
  refine j_isub X dX7_distance_24 ?_
  refine j_mabs X csOk_0 mt_X7_58 (by decide) (Nat.le_of_ble_eq_true rfl) dX7_distance_25 ⟨by omega, by omega⟩ ?_
  refine j_mmax X csOk_0 mt_X7_66 (by decide) (Nat.le_of_ble_eq_true rfl) dX7_distance_28 ⟨by split <;> omega, by split <;> omega⟩ ⟨by split <;> omega, by split <;> omega⟩ ?_
  exact j_ireturn X hR dX7_distance_31 ⟨rfl, rfl⟩
set_option maxHeartbeats 4000000 in
set_option maxRecDepth 20000 in
theorem sp_X7_beside {k e n : Nat} {w : wd} (hs : ShO n w) (hk : k < 4 * n * n) (he : e < 3) : CalI yX7_beside cX7_beside 3 .int 2 LAY w [vR 1, vI (k : Int), vI (e : Int)] (fun a w' => a = nb n k e ∧ w' = w) := by
  have h144 := nn_le hs.1.2
  refine calI_intro (ls := [some (vR 1), some (vI (k : Int)), some (vI (e : Int))]) (by decide) (Nat.le_of_ble_eq_true rfl) rfl (fun κ ad X hR => ?_)
  refine j_aload_n X dX7_beside_0 rfl ?_
  refine j_getR X dX7_beside_1 ff_X7_18 rfl rfl ?_
  refine j_iconst X dX7_beside_4 ?_
  refine j_iload_n X dX7_beside_5 rfl ?_
  refine j_imul X dX7_beside_6 ?_
  refine j_iload_n X dX7_beside_7 rfl ?_
  refine j_iadd X dX7_beside_8 ?_
  refine cS2i X mf_X5_get ms_X5_get ml_X7_50 (by decide) (Nat.le_of_ble_eq_true rfl) dX7_beside_9 (sp_getk (k := 3 * k + e) rfl (by decide) (by omega)) (fun a_9 w_9 h_9 => ?_)
  obtain ⟨_, _⟩ := h_9
  subst a_9
  subst w_9
  exact j_ireturn X hR dX7_beside_12 ⟨hs.2.2.2.2 k e hk he, rfl⟩
set_option maxHeartbeats 4000000 in
set_option maxRecDepth 20000 in
theorem sp_X7_across {x y q n : Int} {w : wd} (hn : w 1 3 = n) (hn0 : 0 ≤ n ∧ n ≤ 6) (hx : -10 ≤ x ∧ x ≤ 10) (hy : -10 ≤ y ∧ y ≤ 10) (hq : 0 ≤ q ∧ q < 4) : CalI yX7_across cX7_across 6 .int 2 LAY w [vR 1, vI x, vI y, vI q] (fun a w' => a = acr n x y q ∧ w' = w) := by
  have bx : -11 ≤ ax x q ∧ ax x q ≤ 11 := by unfold ax; (repeat' split) <;> omega
  have by_ : -11 ≤ ay y q ∧ ay y q ≤ 11 := by unfold ay; (repeat' split) <;> omega
  refine calI_intro (ls := [some (vR 1), some (vI x), some (vI y), some (vI q), none, none]) (by decide) (Nat.le_of_ble_eq_true rfl) rfl (fun κ ad X hR => ?_)
  have C_42 : ∀ v : Int, y + v = ay y q → J κ LAY ad 0 0 42 [some (vR 1), some (vI x), some (vI y), some (vI q), some (vI (ax x q)), none] [vI v, vI y] w := by
    intro v hv
    refine j_iadd X dX7_across_42 ?_
    rw [hv]
    refine s_5 X dX7_across_43 rfl ?_
    refine j_aload_n X dX7_across_45 rfl ?_
    refine j_iload X dX7_across_46 rfl ?_
    refine j_iload X dX7_across_48 rfl ?_
    refine cV2i X mf_X7_hasCell mv_X7_hasCell ml_X7_45 (by decide) rfl rfl (Nat.le_of_ble_eq_true rfl) dX7_across_50 (sp_X7_hasCell hn hn0 ⟨by omega, by omega⟩ ⟨by omega, by omega⟩) (fun a_50 w_50 h_50 => ?_)
    obtain ⟨_, _⟩ := h_50
    subst a_50
    subst w_50
    refine jb_eq (tgt := 70) X dX7_across_53 (by decide) (fun h_53 => ?_) (fun h_53 => ?_)
    · refine j_ldc X dX7_across_70 kc_X7_49 ?_
      exact j_ireturn X hR dX7_across_72 ⟨by unfold acr; rw [if_neg (by omega)], rfl⟩
    · refine j_aload_n X dX7_across_56 rfl ?_
      refine j_iload X dX7_across_57 rfl ?_
      refine j_iload X dX7_across_59 rfl ?_
      refine j_iload_n X dX7_across_61 rfl ?_
      refine j_iconst X dX7_across_62 ?_
      refine j_ixor X dX7_across_63 (z_xor2 hq.1 hq.2) ?_
      refine cV3i X mf_X7_leaf mv_X7_leaf ml_X7_32 (by decide) rfl rfl (Nat.le_of_ble_eq_true rfl) dX7_across_64 (sp_X7_leaf hn) (fun a_64 w_64 h_64 => ?_)
      obtain ⟨_, _⟩ := h_64
      subst a_64
      subst w_64
      refine j_goto (tgt := 72) X dX7_across_67 (by decide) ?_
      exact j_ireturn X hR dX7_across_72 ⟨by unfold acr; rw [if_pos (by omega)], rfl⟩
  have C_20 : ∀ v : Int, x + v = ax x q → J κ LAY ad 0 0 20 [some (vR 1), some (vI x), some (vI y), some (vI q), none, none] [vI v, vI x] w := by
    intro v hv
    refine j_iadd X dX7_across_20 ?_
    rw [hv]
    refine s_4 X dX7_across_21 rfl ?_
    refine j_iload_n X dX7_across_23 rfl ?_
    refine j_iload_n X dX7_across_24 rfl ?_
    refine j_iconst X dX7_across_25 ?_
    refine j_icmp_ne (tgt := 33) X dX7_across_26 (by decide) ⟨by omega, by omega⟩ ⟨by omega, by omega⟩ (fun h_26 => ?_) (fun h_26 => ?_)
    · refine j_iload_n X dX7_across_33 rfl ?_
      refine j_if_ne (tgt := 41) X dX7_across_34 (by decide) ⟨by omega, by omega⟩ (fun h_34 => ?_) (fun h_34 => ?_)
      · refine j_iconst X dX7_across_41 ?_
        exact C_42 _ (by unfold ay; (repeat' split) <;> omega)
      · refine j_iconst X dX7_across_37 ?_
        refine j_goto (tgt := 42) X dX7_across_38 (by decide) ?_
        exact C_42 _ (by unfold ay; (repeat' split) <;> omega)
    · refine j_iconst X dX7_across_29 ?_
      refine j_goto (tgt := 42) X dX7_across_30 (by decide) ?_
      exact C_42 _ (by unfold ay; (repeat' split) <;> omega)
  refine j_iload_n X dX7_across_0 rfl ?_
  refine j_iload_n X dX7_across_1 rfl ?_
  refine j_iconst X dX7_across_2 ?_
  refine j_icmp_ne (tgt := 10) X dX7_across_3 (by decide) ⟨by omega, by omega⟩ ⟨by omega, by omega⟩ (fun h_3 => ?_) (fun h_3 => ?_)
  · refine j_iload_n X dX7_across_10 rfl ?_
    refine j_iconst X dX7_across_11 ?_
    refine j_icmp_ne (tgt := 19) X dX7_across_12 (by decide) ⟨by omega, by omega⟩ ⟨by omega, by omega⟩ (fun h_12 => ?_) (fun h_12 => ?_)
    · refine j_iconst X dX7_across_19 ?_
      exact C_20 _ (by unfold ax; (repeat' split) <;> omega)
    · refine j_iconst X dX7_across_15 ?_
      refine j_goto (tgt := 20) X dX7_across_16 (by decide) ?_
      exact C_20 _ (by unfold ax; (repeat' split) <;> omega)
  · refine j_iconst X dX7_across_6 ?_
    refine j_goto (tgt := 20) X dX7_across_7 (by decide) ?_
    exact C_20 _ (by unfold ax; (repeat' split) <;> omega)
set_option maxHeartbeats 4000000 in
set_option maxRecDepth 20000 in
theorem sp_X7_place {x y q n : Int} {k : Nat} {w : wd} (hn : w 1 3 = n) (hn0 : 0 ≤ n ∧ n ≤ 6) (hx : -10 ≤ x ∧ x ≤ 10) (hy : -10 ≤ y ∧ y ≤ 10) (hq : 0 ≤ q ∧ q < 4) (hk : 4 * (y * n + x) + q = (k : Int)) (h144 : k < 144) : CalV yX7_place cX7_place 5 3 LAY w [vR 1, vI x, vI y, vI q] (fun w' => w' = plW n w k x y q) := by
  refine calV_intro (ls := [some (vR 1), some (vI x), some (vI y), some (vI q), none]) (by decide) (Nat.le_of_ble_eq_true rfl) rfl (fun κ ad X hR => ?_)
  refine j_aload_n X dX7_place_0 rfl ?_
  refine j_iload_n X dX7_place_1 rfl ?_
  refine j_iload_n X dX7_place_2 rfl ?_
  refine j_iload_n X dX7_place_3 rfl ?_
  refine cV3i X mf_X7_leaf mv_X7_leaf ml_X7_32 (by decide) rfl rfl (Nat.le_of_ble_eq_true rfl) dX7_place_4 (sp_X7_leaf hn) (fun a_4 w_4 h_4 => ?_)
  obtain ⟨h1, rfl⟩ := h_4
  rw [hk] at h1
  subst h1
  refine s_4 X dX7_place_7 rfl ?_
  refine j_aload_n X dX7_place_9 rfl ?_
  refine j_getR X dX7_place_10 ff_X7_9 rfl rfl ?_
  refine j_iload X dX7_place_13 rfl ?_
  refine j_iload_n X dX7_place_15 rfl ?_
  refine cS3v X mf_X5_put ms_X5_put ml_X7_36 (by decide) (Nat.le_of_ble_eq_true rfl) dX7_place_16 (sp_putk rfl (by decide) (by omega)) (fun w_16 h_16 => ?_)
  change _ = _ at h_16
  subst w_16
  refine j_aload_n X dX7_place_19 rfl ?_
  refine j_getR X dX7_place_20 ff_X7_15 rfl rfl ?_
  refine j_iload X dX7_place_23 rfl ?_
  refine j_iload_n X dX7_place_25 rfl ?_
  refine cS3v X mf_X5_put ms_X5_put ml_X7_36 (by decide) (Nat.le_of_ble_eq_true rfl) dX7_place_26 (sp_putk rfl (by decide) (by omega)) (fun w_26 h_26 => ?_)
  change _ = _ at h_26
  subst w_26
  refine j_aload_n X dX7_place_29 rfl ?_
  refine j_getR X dX7_place_30 ff_X7_18 rfl rfl ?_
  refine j_iconst X dX7_place_33 ?_
  refine j_iload X dX7_place_34 rfl ?_
  refine j_imul X dX7_place_36 ?_
  refine j_aload_n X dX7_place_37 rfl ?_
  refine j_iload_n X dX7_place_38 rfl ?_
  refine j_iload_n X dX7_place_39 rfl ?_
  refine j_iload_n X dX7_place_40 rfl ?_
  refine cV3i X mf_X7_across mv_X7_across ml_X7_42 (by decide) rfl rfl (Nat.le_of_ble_eq_true rfl) dX7_place_41 (sp_X7_across (n := n) hn hn0 hx hy hq) (fun a_41 w_41 h_41 => ?_)
  obtain ⟨_, _⟩ := h_41
  subst a_41
  subst w_41
  refine cS3v X mf_X5_put ms_X5_put ml_X7_36 (by decide) (Nat.le_of_ble_eq_true rfl) dX7_place_44 (sp_putk (k := 3 * k) rfl (by decide) (by omega)) (fun w_44 h_44 => ?_)
  change _ = _ at h_44
  subst w_44
  refine j_aload_n X dX7_place_47 rfl ?_
  refine j_getR X dX7_place_48 ff_X7_18 rfl rfl ?_
  refine j_iconst X dX7_place_51 ?_
  refine j_iload X dX7_place_52 rfl ?_
  refine j_imul X dX7_place_54 ?_
  refine j_iconst X dX7_place_55 ?_
  refine j_iadd X dX7_place_56 ?_
  refine j_aload_n X dX7_place_57 rfl ?_
  refine j_iload_n X dX7_place_58 rfl ?_
  refine j_iload_n X dX7_place_59 rfl ?_
  refine j_iload_n X dX7_place_60 rfl ?_
  refine j_iconst X dX7_place_61 ?_
  refine j_iadd X dX7_place_62 ?_
  refine j_iconst X dX7_place_63 ?_
  refine j_iand X dX7_place_64 (z_and3 _) ?_
  refine cV3i X mf_X7_leaf mv_X7_leaf ml_X7_32 (by decide) rfl rfl (Nat.le_of_ble_eq_true rfl) dX7_place_65 (sp_X7_leaf (n := n) hn) (fun a_65 w_65 h_65 => ?_)
  obtain ⟨_, _⟩ := h_65
  subst a_65
  subst w_65
  refine cS3v X mf_X5_put ms_X5_put ml_X7_36 (by decide) (Nat.le_of_ble_eq_true rfl) dX7_place_68 (sp_putk (k := 3 * k + 1) rfl (by decide) (by omega)) (fun w_68 h_68 => ?_)
  change _ = _ at h_68
  subst w_68
  refine j_aload_n X dX7_place_71 rfl ?_
  refine j_getR X dX7_place_72 ff_X7_18 rfl rfl ?_
  refine j_iconst X dX7_place_75 ?_
  refine j_iload X dX7_place_76 rfl ?_
  refine j_imul X dX7_place_78 ?_
  refine j_iconst X dX7_place_79 ?_
  refine j_iadd X dX7_place_80 ?_
  refine j_aload_n X dX7_place_81 rfl ?_
  refine j_iload_n X dX7_place_82 rfl ?_
  refine j_iload_n X dX7_place_83 rfl ?_
  refine j_iload_n X dX7_place_84 rfl ?_
  refine j_iconst X dX7_place_85 ?_
  refine j_iadd X dX7_place_86 ?_
  refine j_iconst X dX7_place_87 ?_
  refine j_iand X dX7_place_88 (z_and3 _) ?_
  refine cV3i X mf_X7_leaf mv_X7_leaf ml_X7_32 (by decide) rfl rfl (Nat.le_of_ble_eq_true rfl) dX7_place_89 (sp_X7_leaf (n := n) hn) (fun a_89 w_89 h_89 => ?_)
  obtain ⟨_, _⟩ := h_89
  subst a_89
  subst w_89
  refine cS3v X mf_X5_put ms_X5_put ml_X7_36 (by decide) (Nat.le_of_ble_eq_true rfl) dX7_place_92 (sp_putk (k := 3 * k + 2) rfl (by decide) (by omega)) (fun w_92 h_92 => ?_)
  change _ = _ at h_92
  subst w_92
  exact j_return X hR dX7_place_95 rfl
set_option maxHeartbeats 4000000 in
set_option maxRecDepth 20000 in
theorem sp_X7_resize {n : Nat} {w : wd} (hn : 1 ≤ n ∧ n ≤ 6) : CalV yX7_resize cX7_resize 5 4 LAY w [vR 1, vI (n : Int)] (fun w' => w' = resW w n) := by
  have h144 := nn_le hn.2
  refine calV_intro (ls := [some (vR 1), some (vI (n : Int)), none, none, none]) (by decide) (Nat.le_of_ble_eq_true rfl) rfl (fun κ ad X hR => ?_)
  refine j_aload_n X dX7_resize_0 rfl ?_
  refine j_iload_n X dX7_resize_1 rfl ?_
  refine j_putI X dX7_resize_2 fp_X7_21 rfl rfl ?_
  refine j_aload_n X dX7_resize_5 rfl ?_
  refine j_iconst X dX7_resize_6 ?_
  refine j_iload_n X dX7_resize_7 rfl ?_
  refine j_imul X dX7_resize_8 ?_
  refine j_iload_n X dX7_resize_9 rfl ?_
  refine j_imul X dX7_resize_10 ?_
  refine j_putI X dX7_resize_11 fp_X7_25 rfl rfl ?_
  refine j_iconst X dX7_resize_14 ?_
  refine s_2 X dX7_resize_15 rfl ?_
  have L_16 : ∀ (m : Nat) (y : Nat) (_ : y ≤ n) (_ : n - y < m), J κ LAY ad 0 0 16 [some (vR 1), some (vI (n : Int)), some (vI (y : Int)), none, none] [] (resP (wst (wst w 1 3 (n : Int)) 1 4 (4 * (n : Int) * n)) n (4 * (y * n))) := by
    intro m
    induction m with
    | zero => intro y h1 h2; omega
    | succ m ih16 =>
      intro y h1 h2
      refine j_iload_n X dX7_resize_16 rfl ?_
      refine j_iload_n X dX7_resize_17 rfl ?_
      refine j_icmp_ge (tgt := 63) X dX7_resize_18 (by decide) ⟨by omega, by omega⟩ ⟨by omega, by omega⟩ (fun h_18 => ?_) (fun h_18 => ?_)
      · exact j_return X hR dX7_resize_63 (by rw [show y = n by omega]; unfold resW; rw [Nat.mul_assoc])
      · refine j_iconst X dX7_resize_21 ?_
        refine s_3 X dX7_resize_22 rfl ?_
        have L_23 : ∀ (m : Nat) (x : Nat) (_ : x ≤ n) (_ : n - x < m), J κ LAY ad 0 0 23 [some (vR 1), some (vI (n : Int)), some (vI (y : Int)), some (vI (x : Int)), none] [] (resP (wst (wst w 1 3 (n : Int)) 1 4 (4 * (n : Int) * n)) n (4 * (y * n + x))) := by
          intro m
          induction m with
          | zero => intro x h3 h4; omega
          | succ m ih23 =>
            intro x h3 h4
            refine j_iload_n X dX7_resize_23 rfl ?_
            refine j_iload_n X dX7_resize_24 rfl ?_
            refine j_icmp_ge (tgt := 57) X dX7_resize_25 (by decide) ⟨by omega, by omega⟩ ⟨by omega, by omega⟩ (fun h_25 => ?_) (fun h_25 => ?_)
            · refine inc_2 X dX7_resize_57 rfl ?_
              refine j_goto (tgt := 16) X dX7_resize_60 (by decide) ?_
              refine fg_3 ?_
              rw [show 4 * (y * n + x) = 4 * ((y + 1) * n) by rw [show x = n by omega, Nat.add_mul, Nat.one_mul]]
              exact ih16 (y + 1) (by omega) (by omega)
            · refine j_iconst X dX7_resize_28 ?_
              refine s_4 X dX7_resize_29 rfl ?_
              have L_31 : ∀ (m : Nat) (q : Nat) (_ : q ≤ 4) (_ : 4 - q < m), J κ LAY ad 0 0 31 [some (vR 1), some (vI (n : Int)), some (vI (y : Int)), some (vI (x : Int)), some (vI (q : Int))] [] (resP (wst (wst w 1 3 (n : Int)) 1 4 (4 * (n : Int) * n)) n (4 * (y * n + x) + q)) := by
                intro m
                induction m with
                | zero => intro q h5 h6; omega
                | succ m ih31 =>
                  intro q h5 h6
                  refine j_iload X dX7_resize_31 rfl ?_
                  refine j_iconst X dX7_resize_33 ?_
                  refine j_icmp_ge (tgt := 51) X dX7_resize_34 (by decide) ⟨by omega, by omega⟩ ⟨by omega, by omega⟩ (fun h_34 => ?_) (fun h_34 => ?_)
                  · refine inc_3 X dX7_resize_51 rfl ?_
                    refine j_goto (tgt := 23) X dX7_resize_54 (by decide) ?_
                    refine fg_4 ?_
                    rw [show 4 * (y * n + x) + q = 4 * (y * n + (x + 1)) by omega]
                    exact ih23 (x + 1) (by omega) (by omega)
                  · have hyn : y < n := by omega
                    refine j_aload_n X dX7_resize_37 rfl ?_
                    refine j_iload_n X dX7_resize_38 rfl ?_
                    refine j_iload_n X dX7_resize_39 rfl ?_
                    refine j_iload X dX7_resize_40 rfl ?_
                    refine cV3v X mf_X7_place mv_X7_place ml_X7_28 (by decide) rfl rfl (Nat.le_of_ble_eq_true rfl) dX7_resize_42 (sp_X7_place (n := (n : Int)) (k := 4 * (y * n + x) + q) (by simp [resP, wst, w1]) ⟨by omega, by omega⟩ ⟨by omega, by omega⟩ ⟨by omega, by omega⟩ ⟨by omega, by omega⟩ (by rw [Int.natCast_add, Int.natCast_mul, Int.natCast_add, Int.natCast_mul]; rfl) (by have := idx_lt (n := n) (x := x) (y := y) (q := q) (by omega) (by omega) (by omega); omega)) (fun w_42 h_42 => ?_)
                    change _ = _ at h_42
                    subst w_42
                    refine inc_4 X dX7_resize_45 rfl ?_
                    refine j_goto (tgt := 31) X dX7_resize_48 (by decide) ?_
                    have hx9 : x < n := by omega
                    have hq9 : q < 4 := by omega
                    rw [resP_s hx9 hq9]
                    exact ih31 (q + 1) (by omega) (by omega)
              exact L_31 5 0 (by omega) (by omega)
        exact L_23 (n + 1) 0 (by omega) (by omega)
  have h0 := L_16 (n + 1) 0 (by omega) (by omega)
  rw [Nat.zero_mul, Nat.mul_zero, resP_0] at h0
  exact h0
