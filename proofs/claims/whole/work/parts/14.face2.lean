/-! ===== the class's own face: what changes the figure, the cut, the sheet ===== -/
def forW (w : wd) : wd := wst (wst (wst (wst (wst w 23 11 0) 23 7 0) 23 8 0) 23 9 (-99999)) 23 10 (-99999)
def drwW (w : wd) (k : Nat) (b : Int) : wd := if ib (w 22 k = 1) = b then w else forW (figW w k b)
theorem drwW_o {w : wd} {k : Nat} {b : Int} {o : Nat} (h : o ≠ 21 ∧ o ≠ 22 ∧ o ≠ 23) : drwW w k b o = w o := by
  unfold drwW
  split
  · rfl
  · funext i
    simp [forW, figW, wst, h.1, h.2.1, h.2.2]
theorem drwW_fg {w : wd} {k : Nat} {b : Int} (hg : FgO w) (hb : b = 0 ∨ b = 1) : FgO (drwW w k b) := by
  unfold drwW
  split
  · exact hg
  · intro j hj
    by_cases q : j = k
    · subst q; simp [forW, figW, wst, w1]; exact hb
    · simp [forW, figW, wst, w1, q]; exact hg j hj
def drwN (w : wd) (f : Nat → Nat) (b : Nat → Int) (m : Nat) : wd := match m with
  | 0 => w
  | i + 1 => drwW (drwN w f b i) (f i) (b i)
theorem drwN_o {w : wd} {f : Nat → Nat} {b : Nat → Int} {o : Nat} (h : o ≠ 21 ∧ o ≠ 22 ∧ o ≠ 23) : ∀ m, drwN w f b m o = w o
  | 0 => rfl
  | i + 1 => (drwW_o h).trans (drwN_o h i)
theorem drwN_fg {w : wd} {f : Nat → Nat} {b : Nat → Int} (hg : FgO w) (hb : ∀ i, b i = 0 ∨ b i = 1) : ∀ m, FgO (drwN w f b m)
  | 0 => hg
  | i + 1 => drwW_fg (drwN_fg hg hb i) (hb i)
set_option maxHeartbeats 4000000 in
set_option maxRecDepth 20000 in
theorem sp_X6_forget {w : wd} : CalV yX6_forget cX6_forget 1 1 LAY w [vR 23] (fun w' => w' = forW w) := by
  refine calV_intro (ls := [some (vR 23)]) (by decide) (Nat.le_of_ble_eq_true rfl) rfl (fun κ ad X hR => ?_)
  refine j_aload_n X dX6_forget_0 rfl ?_
  refine j_iconst X dX6_forget_1 ?_
  refine j_putI X dX6_forget_2 fp_X6_35 rfl rfl ?_
  refine j_aload_n X dX6_forget_5 rfl ?_
  refine j_iconst X dX6_forget_6 ?_
  refine j_putI X dX6_forget_7 fp_X6_39 rfl rfl ?_
  refine j_aload_n X dX6_forget_10 rfl ?_
  refine j_iconst X dX6_forget_11 ?_
  refine j_putI X dX6_forget_12 fp_X6_42 rfl rfl ?_
  refine j_aload_n X dX6_forget_15 rfl ?_
  refine j_ldc X dX6_forget_16 kc_X6_45 ?_
  refine j_putI X dX6_forget_18 fp_X6_46 rfl rfl ?_
  refine j_aload_n X dX6_forget_21 rfl ?_
  refine j_ldc X dX6_forget_22 kc_X6_45 ?_
  refine j_putI X dX6_forget_24 fp_X6_49 rfl rfl ?_
  exact j_return X hR dX6_forget_27 rfl
set_option maxHeartbeats 4000000 in
set_option maxRecDepth 20000 in
theorem sp_X9_draw {k : Nat} {b : Int} {w : wd} (hg : FgO w) (hk : k < 144) (hb : b = 0 ∨ b = 1) : CalV yX9_draw cX9_draw 3 3 LAY w [vR 0, vI (k : Int), vI b] (fun w' => w' = drwW w k b) := by
  refine calV_intro (ls := [some (vR 0), some (vI (k : Int)), some (vI b)]) (by decide) (Nat.le_of_ble_eq_true rfl) rfl (fun κ ad X hR => ?_)
  refine j_aload_n X dX9_draw_0 rfl ?_
  refine j_getR X dX9_draw_1 ff_X9_44 rfl rfl ?_
  refine j_iload_n X dX9_draw_4 rfl ?_
  refine cV1i X mf_X1_has mv_X1_has ml_X9_127 (by decide) rfl rfl (Nat.le_of_ble_eq_true rfl) dX9_draw_5 (sp_X1_has hg hk) (fun a_5 w_5 h_5 => ?_)
  obtain ⟨_, _⟩ := h_5
  subst a_5
  subst w_5
  refine j_iload_n X dX9_draw_8 rfl ?_
  refine j_icmp_eq (tgt := 28) X dX9_draw_9 (by decide) ib_rg ⟨by omega, by omega⟩ (fun h_9 => ?_) (fun h_9 => ?_)
  · exact j_return X hR dX9_draw_28 (by unfold drwW; rw [if_pos h_9])
  · refine j_aload_n X dX9_draw_12 rfl ?_
    refine j_getR X dX9_draw_13 ff_X9_44 rfl rfl ?_
    refine j_iload_n X dX9_draw_16 rfl ?_
    refine j_iload_n X dX9_draw_17 rfl ?_
    refine cV2v X mf_X1_put mv_X1_put ml_X9_242 (by decide) rfl rfl (Nat.le_of_ble_eq_true rfl) dX9_draw_18 (sp_X1_put hk hb) (fun w_18 h_18 => ?_)
    change _ = _ at h_18
    subst w_18
    refine j_aload_n X dX9_draw_21 rfl ?_
    refine j_getR X dX9_draw_22 ff_X9_53 rfl rfl ?_
    refine cV0v X mf_X6_forget mv_X6_forget ml_X9_239 (by decide) rfl rfl (Nat.le_of_ble_eq_true rfl) dX9_draw_25 (sp_X6_forget) (fun w_25 h_25 => ?_)
    change _ = _ at h_25
    subst w_25
    exact j_return X hR dX9_draw_28 (by unfold drwW; rw [if_neg h_9])
set_option maxHeartbeats 4000000 in
set_option maxRecDepth 20000 in
theorem sp_X9_mark {n : Nat} {w : wd} (hc : CI n w) {k : Int} (hk : rg k) {b : Int} (hb : b = 0 ∨ b = 1) : CalI yX9_mark cX9_mark 4 .int 4 LAY w [vR 0, vI k, vI b] (fun a w' => if 0 ≤ k ∧ k < ((4 * n * n : Nat) : Int) then a = ib (w 22 k.toNat = 1) ∧ w' = drwW w k.toNat b else a = -1 ∧ w' = w) := by
  obtain ⟨hs, hp, hy, hh, hg, hf, hL, hm, hmd, hkn⟩ := id hc
  have h144 := nn_le hs.1.2
  have hn2 := hs.2.2.1
  have hn3 := hs.2.1
  have hn6 := hs.1
  refine calI_intro (ls := [some (vR 0), some (vI k), some (vI b), none]) (by decide) (Nat.le_of_ble_eq_true rfl) rfl (fun κ ad X hR => ?_)
  refine j_aload_n X dX9_mark_0 rfl ?_
  refine j_getR X dX9_mark_1 ff_X9_12 rfl rfl ?_
  refine j_iload_n X dX9_mark_4 rfl ?_
  refine cV1i X mf_X7_has mv_X7_has ml_X9_98 (by decide) rfl rfl (Nat.le_of_ble_eq_true rfl) dX9_mark_5 (sp_X7_has hn2 h144 hk) (fun a_5 w_5 h_5 => ?_)
  obtain ⟨_, _⟩ := h_5
  subst a_5
  subst w_5
  refine jb_ne (tgt := 13) X dX9_mark_8 (by decide) (fun h_8 => ?_) (fun h_8 => ?_)
  · obtain ⟨j, rfl⟩ := Int.eq_ofNat_of_zero_le h_8.1
    refine j_aload_n X dX9_mark_13 rfl ?_
    refine j_getR X dX9_mark_14 ff_X9_44 rfl rfl ?_
    refine j_iload_n X dX9_mark_17 rfl ?_
    refine cV1i X mf_X1_has mv_X1_has ml_X9_127 (by decide) rfl rfl (Nat.le_of_ble_eq_true rfl) dX9_mark_18 (sp_X1_has hg (by omega)) (fun a_18 w_18 h_18 => ?_)
    obtain ⟨_, _⟩ := h_18
    subst a_18
    subst w_18
    refine cS1i X mf_X9_yes ms_X9_yes ml_X9_117 (by decide) (Nat.le_of_ble_eq_true rfl) dX9_mark_21 (sp_X9_yes ib_01) (fun a_21 w_21 h_21 => ?_)
    obtain ⟨_, _⟩ := h_21
    subst a_21
    subst w_21
    refine s_3 X dX9_mark_24 rfl ?_
    refine j_aload_n X dX9_mark_25 rfl ?_
    refine j_iload_n X dX9_mark_26 rfl ?_
    refine j_iload_n X dX9_mark_27 rfl ?_
    refine cV2v X mf_X9_draw mv_X9_draw ml_X9_193 (by decide) rfl rfl (Nat.le_of_ble_eq_true rfl) dX9_mark_28 (sp_X9_draw hg (by omega) hb) (fun w_28 h_28 => ?_)
    change _ = _ at h_28
    subst w_28
    refine j_iload_n X dX9_mark_31 rfl ?_
    exact j_ireturn X hR dX9_mark_32 (by rw [if_pos h_8]; exact ⟨rfl, rfl⟩)
  · refine j_iconst X dX9_mark_11 ?_
    exact j_ireturn X hR dX9_mark_12 (by rw [if_neg h_8]; exact ⟨rfl, rfl⟩)
set_option maxHeartbeats 4000000 in
set_option maxRecDepth 20000 in
theorem sp_X9_markCell {n : Nat} {w : wd} (hc : CI n w) {x y : Int} (hx : rg x) (hy0 : rg y) {b : Int} (hb : b = 0 ∨ b = 1) : CalI yX9_markCell cX9_markCell 5 .int 4 LAY w [vR 0, vI x, vI y, vI b] (fun a w' => if 0 ≤ x ∧ x < n ∧ 0 ≤ y ∧ y < n then w' = drwN w (fun q => 4 * (y.toNat * n + x.toNat) + q) (fun _ => b) 4 ∧ a = w' 21 2 else a = -2 ∧ w' = w) := by
  obtain ⟨hs, hp, hy, hh, hg, hf, hL, hm, hmd, hkn⟩ := id hc
  have h144 := nn_le hs.1.2
  have hn2 := hs.2.2.1
  have hn3 := hs.2.1
  have hn6 := hs.1
  refine calI_intro (ls := [some (vR 0), some (vI x), some (vI y), some (vI b), none]) (by decide) (Nat.le_of_ble_eq_true rfl) rfl (fun κ ad X hR => ?_)
  refine j_aload_n X dX9_markCell_0 rfl ?_
  refine j_getR X dX9_markCell_1 ff_X9_12 rfl rfl ?_
  refine j_iload_n X dX9_markCell_4 rfl ?_
  refine j_iload_n X dX9_markCell_5 rfl ?_
  refine cV2i X mf_X7_hasCell mv_X7_hasCell ml_X9_197 (by decide) rfl rfl (Nat.le_of_ble_eq_true rfl) dX9_markCell_6 (sp_X7_hasCell hn3 ⟨by omega, by omega⟩ hx hy0) (fun a_6 w_6 h_6 => ?_)
  obtain ⟨_, _⟩ := h_6
  subst a_6
  subst w_6
  refine jb_ne (tgt := 15) X dX9_markCell_9 (by decide) (fun h_9 => ?_) (fun h_9 => ?_)
  · refine j_iconst X dX9_markCell_15 ?_
    refine s_4 X dX9_markCell_16 rfl ?_
    have L_18 : ∀ (m : Nat) (q : Nat) (_ : q ≤ 4) (_ : 4 - q < m), J κ LAY ad 0 0 18 [some (vR 0), some (vI x), some (vI y), some (vI b), some (vI (q : Int))] [] (drwN w (fun q => 4 * (y.toNat * n + x.toNat) + q) (fun _ => b) q) := by
      intro m
      induction m with
      | zero => intro q h1 h2; exact absurd h2 (Nat.not_lt_zero _)
      | succ m ih18 =>
        intro q h1 h2
        refine j_iload X dX9_markCell_18 rfl ?_
        refine j_iconst X dX9_markCell_20 ?_
        refine j_icmp_ge (tgt := 46) X dX9_markCell_21 (by decide) ⟨by omega, by omega⟩ ⟨by omega, by omega⟩ (fun h_21 => ?_) (fun h_21 => ?_)
        · refine j_aload_n X dX9_markCell_46 rfl ?_
          refine j_getR X dX9_markCell_47 ff_X9_44 rfl rfl ?_
          refine j_getI X dX9_markCell_50 ff_X9_203 rfl rfl ?_
          exact j_ireturn X hR dX9_markCell_53 (by rw [if_pos h_9, show q = 4 by omega]; exact ⟨rfl, rfl⟩)
        · refine j_aload_n X dX9_markCell_24 rfl ?_
          refine j_aload_n X dX9_markCell_25 rfl ?_
          refine j_getR X dX9_markCell_26 ff_X9_12 rfl rfl ?_
          refine j_iload_n X dX9_markCell_29 rfl ?_
          refine j_iload_n X dX9_markCell_30 rfl ?_
          refine j_iload X dX9_markCell_31 rfl ?_
          refine cV3i X mf_X7_leaf mv_X7_leaf ml_X9_200 (by decide) rfl rfl (Nat.le_of_ble_eq_true rfl) dX9_markCell_33 (sp_X7_leaf (n := (n : Int)) (by rw [drwN_o (by decide)]; exact hn3)) (fun a_33 w_33 h_33 => ?_)
          obtain ⟨_, _⟩ := h_33
          subst a_33
          subst w_33
          rw [show 4 * (y * (n : Int) + x) + (q : Int) = ((4 * (y.toNat * n + x.toNat) + q : Nat) : Int) by rw [Int.natCast_add, Int.natCast_mul, Int.natCast_add, Int.natCast_mul, Int.toNat_of_nonneg h_9.2.2.1, Int.toNat_of_nonneg h_9.1]; rfl]
          refine j_iload_n X dX9_markCell_36 rfl ?_
          refine cV2v X mf_X9_draw mv_X9_draw ml_X9_193 (by decide) rfl rfl (Nat.le_of_ble_eq_true rfl) dX9_markCell_37 (sp_X9_draw (k := 4 * (y.toNat * n + x.toNat) + q) (drwN_fg hg (fun _ => hb) q) (by have := idx_lt (n := n) (x := x.toNat) (y := y.toNat) (q := q) (by omega) (by omega) (by omega); omega) hb) (fun w_37 h_37 => ?_)
          change _ = _ at h_37
          subst w_37
          refine inc_4 X dX9_markCell_40 rfl ?_
          refine j_goto (tgt := 18) X dX9_markCell_43 (by decide) ?_
          exact ih18 (q + 1) (by omega) (by omega)
    exact L_18 5 0 (by omega) (by omega)
  · refine j_bipush X dX9_markCell_12 (by decide +kernel) ?_
    exact j_ireturn X hR dX9_markCell_14 (by rw [if_neg h_9]; exact ⟨rfl, rfl⟩)
set_option maxHeartbeats 4000000 in
set_option maxRecDepth 20000 in
theorem sp_X9_take {n : Nat} {w : wd} (hc : CI n w) : CalI yX9_take cX9_take 2 .int 4 LAY w [vR 0] (fun a w' => if w 17 4 = 0 then a = -3 ∧ w' = w else w' = drwN w (fun k => k) (fun k => ib (w 18 k = 1)) (4 * n * n) ∧ a = w' 21 2) := by
  obtain ⟨hs, hp, hy, hh, hg, hf, hL, hm, hmd, hkn⟩ := id hc
  have h144 := nn_le hs.1.2
  have hn2 := hs.2.2.1
  have hn3 := hs.2.1
  have hn6 := hs.1
  refine calI_intro (ls := [some (vR 0), none]) (by decide) (Nat.le_of_ble_eq_true rfl) rfl (fun κ ad X hR => ?_)
  refine j_aload_n X dX9_take_0 rfl ?_
  refine j_getR X dX9_take_1 ff_X9_37 rfl rfl ?_
  refine j_getI X dX9_take_4 ff_X9_78 rfl rfl ?_
  refine j_if_ne (tgt := 13) X dX9_take_7 (by decide) ⟨by omega, by omega⟩ (fun h_7 => ?_) (fun h_7 => ?_)
  · refine j_iconst X dX9_take_13 ?_
    refine s_1 X dX9_take_14 rfl ?_
    have L_15 : ∀ (m : Nat) (k : Nat) (_ : k ≤ 4 * n * n) (_ : 4 * n * n - k < m), J κ LAY ad 0 0 15 [some (vR 0), some (vI (k : Int))] [] (drwN w (fun k => k) (fun k => ib (w 18 k = 1)) k) := by
      intro m
      induction m with
      | zero => intro k h1 h2; exact absurd h2 (Nat.not_lt_zero _)
      | succ m ih15 =>
        intro k h1 h2
        have e18 : drwN w (fun k => k) (fun k => ib (w 18 k = 1)) k 18 = w 18 := drwN_o (by decide) k
        have hn9 : drwN w (fun k => k) (fun k => ib (w 18 k = 1)) k 1 4 = ((4 * n * n : Nat) : Int) := by rw [drwN_o (by decide)]; exact hn2
        refine j_iload_n X dX9_take_15 rfl ?_
        refine j_aload_n X dX9_take_16 rfl ?_
        refine j_getR X dX9_take_17 ff_X9_12 rfl rfl ?_
        refine j_getI X dX9_take_20 ff_X9_205 rfl rfl ?_
        refine j_icmp_ge (tgt := 45) X dX9_take_23 (by decide) ⟨by omega, by omega⟩ ⟨by omega, by omega⟩ (fun h_23 => ?_) (fun h_23 => ?_)
        · refine j_aload_n X dX9_take_45 rfl ?_
          refine j_getR X dX9_take_46 ff_X9_44 rfl rfl ?_
          refine j_getI X dX9_take_49 ff_X9_203 rfl rfl ?_
          exact j_ireturn X hR dX9_take_52 (by rw [if_neg h_7, show k = 4 * n * n by omega]; exact ⟨rfl, rfl⟩)
        · refine j_aload_n X dX9_take_26 rfl ?_
          refine j_iload_n X dX9_take_27 rfl ?_
          refine j_aload_n X dX9_take_28 rfl ?_
          refine j_getR X dX9_take_29 ff_X9_37 rfl rfl ?_
          refine j_iload_n X dX9_take_32 rfl ?_
          refine cV1i X mf_X8_isDown mv_X8_isDown ml_X9_124 (by decide) rfl rfl (Nat.le_of_ble_eq_true rfl) dX9_take_33 (sp_X8_isDown (fun j hj => by rw [e18]; exact hf j hj) (by omega)) (fun a_33 w_33 h_33 => ?_)
          obtain ⟨_, _⟩ := h_33
          subst a_33
          subst w_33
          rw [e18]
          refine cV2v X mf_X9_draw mv_X9_draw ml_X9_193 (by decide) rfl rfl (Nat.le_of_ble_eq_true rfl) dX9_take_36 (sp_X9_draw (k := k) (drwN_fg hg (fun _ => ib_01) k) (by omega) ib_01) (fun w_36 h_36 => ?_)
          change _ = _ at h_36
          subst w_36
          refine inc_1 X dX9_take_39 rfl ?_
          refine j_goto (tgt := 15) X dX9_take_42 (by decide) ?_
          exact ih15 (k + 1) (by omega) (by omega)
    exact L_15 (4 * n * n + 1) 0 (by omega) (by omega)
  · refine j_bipush X dX9_take_10 (by decide +kernel) ?_
    exact j_ireturn X hR dX9_take_12 (by rw [if_pos h_7]; exact ⟨rfl, rfl⟩)
set_option maxHeartbeats 4000000 in
set_option maxRecDepth 20000 in
theorem sp_X9_cut {n : Nat} {w : wd} (hc : CI n w) {sort l : Int} (hsr : rg sort) (hlr : rg l) {side : Int} (hdr : rg side) : CalI yX9_cut cX9_cut 4 .int 6 LAY w [vR 0, vI sort, vI l, vI side] (fun a w' => if isLine sort l ∧ isSide side then (if w 17 4 = 0 then (if mxf (fun k => if touch sort l (w 6 k) (w 7 k) (w 8 k) then w 11 (psp w k).toNat else 0) (4 * n * n) ≤ w 0 6 then (∃ L Q, w' = wLQ (drpP sort l side w (4 * n * n)) L Q ∧ Lab n (fun k => ib (drpP sort l side w (4 * n * n) 18 k = 1)) L ∧ ∀ a, a < 144 → -99999 ≤ L a ∧ L a ≤ 144) ∧ a = w' 17 5 else a = -4 ∧ w' = w) else a = -3 ∧ w' = w) else a = -2 ∧ w' = w) := by
  obtain ⟨hs, hp, hy, hh, hg, hf, hL, hm, hmd, hkn⟩ := id hc
  have h144 := nn_le hs.1.2
  have hn2 := hs.2.2.1
  have hn3 := hs.2.1
  have hn6 := hs.1
  have hmx := mxf_b (f := fun k => if touch sort l (w 6 k) (w 7 k) (w 8 k) then w 11 (psp w k).toNat else 0) (B := 144) (4 * n * n) (fun j _ => by split; exact (hh.ow j).2; decide) (by decide)
  refine calI_intro (ls := [some (vR 0), some (vI sort), some (vI l), some (vI side)]) (by decide) (Nat.le_of_ble_eq_true rfl) rfl (fun κ ad X hR => ?_)
  refine j_iload_n X dX9_cut_0 rfl ?_
  refine j_iload_n X dX9_cut_1 rfl ?_
  refine cS2i X mf_X3_isLine ms_X3_isLine ml_X9_68 (by decide) (Nat.le_of_ble_eq_true rfl) dX9_cut_2 (sp_X3_isLine hsr hlr) (fun a_2 w_2 h_2 => ?_)
  obtain ⟨_, _⟩ := h_2
  subst a_2
  subst w_2
  refine jb_eq (tgt := 15) X dX9_cut_5 (by decide) (fun h_5 => ?_) (fun h_5 => ?_)
  · refine j_bipush X dX9_cut_15 (by decide +kernel) ?_
    exact j_ireturn X hR dX9_cut_17 (by rw [if_neg (fun z => h_5 z.1)]; exact ⟨rfl, rfl⟩)
  · refine j_iload_n X dX9_cut_8 rfl ?_
    refine cS1i X mf_X3_isSide ms_X3_isSide ml_X9_74 (by decide) (Nat.le_of_ble_eq_true rfl) dX9_cut_9 (sp_X3_isSide hdr) (fun a_9 w_9 h_9 => ?_)
    obtain ⟨_, _⟩ := h_9
    subst a_9
    subst w_9
    refine jb_ne (tgt := 18) X dX9_cut_12 (by decide) (fun h_12 => ?_) (fun h_12 => ?_)
    · refine j_aload_n X dX9_cut_18 rfl ?_
      refine j_getR X dX9_cut_19 ff_X9_37 rfl rfl ?_
      refine j_getI X dX9_cut_22 ff_X9_78 rfl rfl ?_
      refine j_if_eq (tgt := 31) X dX9_cut_25 (by decide) ⟨by omega, by omega⟩ (fun h_25 => ?_) (fun h_25 => ?_)
      · refine j_aload_n X dX9_cut_31 rfl ?_
        refine j_getR X dX9_cut_32 ff_X9_21 rfl rfl ?_
        refine j_iload_n X dX9_cut_35 rfl ?_
        refine j_iload_n X dX9_cut_36 rfl ?_
        refine cV2i X mf_X4_heightOn mv_X4_heightOn ml_X9_168 (by decide) rfl rfl (Nat.le_of_ble_eq_true rfl) dX9_cut_37 (sp_X4_heightOn hn2 hp hh h144 hsr hlr) (fun a_37 w_37 h_37 => ?_)
        obtain ⟨_, _⟩ := h_37
        subst a_37
        subst w_37
        refine j_aload_n X dX9_cut_40 rfl ?_
        refine j_getI X dX9_cut_41 ff_X9_57 rfl rfl ?_
        refine j_icmp_le (tgt := 50) X dX9_cut_44 (by decide) ⟨by omega, by omega⟩ ⟨by omega, by omega⟩ (fun h_44 => ?_) (fun h_44 => ?_)
        · refine j_aload_n X dX9_cut_50 rfl ?_
          refine j_getR X dX9_cut_51 ff_X9_37 rfl rfl ?_
          refine j_aload_n X dX9_cut_54 rfl ?_
          refine j_getR X dX9_cut_55 ff_X9_21 rfl rfl ?_
          refine j_iload_n X dX9_cut_58 rfl ?_
          refine j_iload_n X dX9_cut_59 rfl ?_
          refine j_iload_n X dX9_cut_60 rfl ?_
          refine cV4v X mf_X8_drop mv_X8_drop ml_X9_175 (by decide) rfl rfl (Nat.le_of_ble_eq_true rfl) dX9_cut_61 (sp_X8_drop hs hp hf hsr hlr hdr) (fun w_61 h_61 => ?_)
          have h_p := h_61
          refine j_aload_n X dX9_cut_64 rfl ?_
          refine j_getR X dX9_cut_65 ff_X9_37 rfl rfl ?_
          refine j_getI X dX9_cut_68 ff_X9_179 rfl rfl ?_
          exact j_ireturn X hR dX9_cut_71 (by rw [if_pos ⟨h_5, h_12⟩, if_pos h_25, if_pos h_44]; exact ⟨h_p, rfl⟩)
        · refine j_bipush X dX9_cut_47 (by decide +kernel) ?_
          exact j_ireturn X hR dX9_cut_49 (by rw [if_pos ⟨h_5, h_12⟩, if_pos h_25, if_neg h_44]; exact ⟨rfl, rfl⟩)
      · refine j_bipush X dX9_cut_28 (by decide +kernel) ?_
        exact j_ireturn X hR dX9_cut_30 (by rw [if_pos ⟨h_5, h_12⟩, if_neg h_25]; exact ⟨rfl, rfl⟩)
    · refine j_bipush X dX9_cut_15 (by decide +kernel) ?_
      exact j_ireturn X hR dX9_cut_17 (by rw [if_neg (fun z => h_12 z.2)]; exact ⟨rfl, rfl⟩)
def begW (n : Nat) (w : wd) : wd := mndW (flatW n (wst (resW w n) 5 11 0))
set_option maxHeartbeats 4000000 in
set_option maxRecDepth 20000 in
theorem sp_X9_begin {n : Nat} {w : wd} (hn : 1 ≤ n ∧ n ≤ 6) : CalV yX9_begin cX9_begin 2 6 LAY w [vR 0, vI (n : Int)] (fun w' => ∃ L Q, w' = forW (wst (wfl (wLQ (begW n w) L Q) 22 144 0) 21 2 0) ∧ Lab n (fun k => ib (begW n w 18 k = 1)) L ∧ ∀ a, a < 144 → -99999 ≤ L a ∧ L a ≤ 144) := by
  have hs2 : ShO n (flatW n (wst (resW w n) 5 11 0)) := (resW_ok hn).keep (fun o ho => by rw [flatW_o (by omega)]; funext i; simp only [wst]; rw [if_neg (by omega)])
  refine calV_intro (ls := [some (vR 0), some (vI (n : Int))]) (by decide) (Nat.le_of_ble_eq_true rfl) rfl (fun κ ad X hR => ?_)
  refine j_aload_n X dX9_begin_0 rfl ?_
  refine j_getR X dX9_begin_1 ff_X9_12 rfl rfl ?_
  refine j_iload_n X dX9_begin_4 rfl ?_
  refine cV1v X mf_X7_resize mv_X7_resize ml_X9_227 (by decide) rfl rfl (Nat.le_of_ble_eq_true rfl) dX9_begin_5 (sp_X7_resize hn) (fun w_5 h_5 => ?_)
  change _ = _ at h_5
  subst w_5
  refine j_aload_n X dX9_begin_8 rfl ?_
  refine j_getR X dX9_begin_9 ff_X9_21 rfl rfl ?_
  refine cV0v X mf_X4_flatten mv_X4_flatten ml_X9_230 (by decide) rfl rfl (Nat.le_of_ble_eq_true rfl) dX9_begin_12 (sp_X4_flatten (n := n) (resW_ok hn)) (fun w_12 h_12 => ?_)
  change _ = _ at h_12
  subst w_12
  refine j_aload_n X dX9_begin_15 rfl ?_
  refine j_getR X dX9_begin_16 ff_X9_37 rfl rfl ?_
  refine cV0v X mf_X8_mend mv_X8_mend ml_X9_233 (by decide) rfl rfl (Nat.le_of_ble_eq_true rfl) dX9_begin_19 (sp_X8_mend hs2) (fun w_19 h_19 => ?_)
  obtain ⟨L, Q, hw9, hlab, hrng⟩ := h_19
  subst w_19
  refine j_aload_n X dX9_begin_22 rfl ?_
  refine j_getR X dX9_begin_23 ff_X9_44 rfl rfl ?_
  refine cV0v X mf_X1_wipe mv_X1_wipe ml_X9_236 (by decide) rfl rfl (Nat.le_of_ble_eq_true rfl) dX9_begin_26 (sp_X1_wipe) (fun w_26 h_26 => ?_)
  change _ = _ at h_26
  subst w_26
  refine j_aload_n X dX9_begin_29 rfl ?_
  refine j_getR X dX9_begin_30 ff_X9_53 rfl rfl ?_
  refine cV0v X mf_X6_forget mv_X6_forget ml_X9_239 (by decide) rfl rfl (Nat.le_of_ble_eq_true rfl) dX9_begin_33 (sp_X6_forget) (fun w_33 h_33 => ?_)
  change _ = _ at h_33
  subst w_33
  exact j_return X hR dX9_begin_36 ⟨L, Q, rfl, hlab, hrng⟩
set_option maxHeartbeats 4000000 in
set_option maxRecDepth 20000 in
theorem sp_X9_sheet {n : Nat} {w : wd} (hc : CI n w) {t : Int} (ht : rg t) : CalI yX9_sheet cX9_sheet 3 .int 7 LAY w [vR 0, vI t] (fun a w' => if 1 ≤ t ∧ t ≤ 6 then a = (n : Int) ∧ ∃ L Q, w' = forW (wst (wfl (wLQ (begW t.toNat w) L Q) 22 144 0) 21 2 0) ∧ Lab t.toNat (fun k => ib (begW t.toNat w 18 k = 1)) L ∧ ∀ a, a < 144 → -99999 ≤ L a ∧ L a ≤ 144 else a = -2 ∧ w' = w) := by
  obtain ⟨hs, hp, hy, hh, hg, hf, hL, hm, hmd, hkn⟩ := id hc
  have h144 := nn_le hs.1.2
  have hn2 := hs.2.2.1
  have hn3 := hs.2.1
  have hn6 := hs.1
  refine calI_intro (ls := [some (vR 0), some (vI t), none]) (by decide) (Nat.le_of_ble_eq_true rfl) rfl (fun κ ad X hR => ?_)
  refine j_iload_n X dX9_sheet_0 rfl ?_
  refine j_iconst X dX9_sheet_1 ?_
  refine j_icmp_lt (tgt := 11) X dX9_sheet_2 (by decide) ⟨by omega, by omega⟩ ⟨by omega, by omega⟩ (fun h_2 => ?_) (fun h_2 => ?_)
  · refine j_bipush X dX9_sheet_11 (by decide +kernel) ?_
    exact j_ireturn X hR dX9_sheet_13 (by rw [if_neg (by omega)]; exact ⟨rfl, rfl⟩)
  · refine j_iload_n X dX9_sheet_5 rfl ?_
    refine j_bipush X dX9_sheet_6 (by decide +kernel) ?_
    refine j_icmp_le (tgt := 14) X dX9_sheet_8 (by decide) ⟨by omega, by omega⟩ ⟨by omega, by omega⟩ (fun h_8 => ?_) (fun h_8 => ?_)
    · obtain ⟨t2, rfl⟩ := Int.eq_ofNat_of_zero_le (show 0 ≤ t by omega)
      refine j_aload_n X dX9_sheet_14 rfl ?_
      refine j_getR X dX9_sheet_15 ff_X9_12 rfl rfl ?_
      refine j_getI X dX9_sheet_18 ff_X9_65 rfl rfl ?_
      refine s_2 X dX9_sheet_21 rfl ?_
      refine j_aload_n X dX9_sheet_22 rfl ?_
      refine j_iload_n X dX9_sheet_23 rfl ?_
      refine cV1v X mf_X9_begin mv_X9_begin ml_X9_61 (by decide) rfl rfl (Nat.le_of_ble_eq_true rfl) dX9_sheet_24 (sp_X9_begin (by omega)) (fun w_24 h_24 => ?_)
      have h_p := h_24
      refine j_iload_n X dX9_sheet_27 rfl ?_
      exact j_ireturn X hR dX9_sheet_28 (by rw [if_pos (by omega)]; exact ⟨hn3, h_p⟩)
    · refine j_bipush X dX9_sheet_11 (by decide +kernel) ?_
      exact j_ireturn X hR dX9_sheet_13 (by rw [if_neg (by omega)]; exact ⟨rfl, rfl⟩)
