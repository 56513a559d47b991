set_option maxHeartbeats 4000000 in
set_option maxRecDepth 20000 in
theorem sp_X4_undo {n mm : Nat} {w : wd} (hs : ShO n w) (hm : mm < 8) (hmd : w 5 11 = (mm : Int) + 1) (hf : ∀ i, i < mm → rg (w 12 i) ∧ rg (w 13 i) ∧ rg (w 14 i) ∧ (w 15 i = 0 ∨ w 15 i = 1)) (hp : ∀ i, i < mm → PlO (4 * n * n) (redo (4 * n * n) (flatW n (wst w 5 11 mm)) i)) : CalV yX4_undo cX4_undo 2 6 LAY w [vR 5] (fun w' => w' = redo (4 * n * n) (flatW n (wst w 5 11 mm)) mm) := by
  have h144 := nn_le hs.1.2
  have hs1 : ShO n (wst w 5 11 mm) := hs.keep (fun o ho => by simp only [wst]; rw [if_neg (by omega)])
  refine calV_intro (ls := [some (vR 5), none]) (by decide) (Nat.le_of_ble_eq_true rfl) rfl (fun κ ad X hR => ?_)
  refine j_aload_n X dX4_undo_0 rfl ?_
  refine j_dup X dX4_undo_1 (fun _ h => by cases h) ?_
  refine j_getI X dX4_undo_2 ff_X4_48 rfl rfl ?_
  refine j_iconst X dX4_undo_5 ?_
  skip
  refine j_isub X dX4_undo_6 ?_
  rw [hmd, show (mm : Int) + 1 - 1 = (mm : Int) by omega]
  refine j_putI X dX4_undo_7 fp_X4_48 rfl rfl ?_
  refine j_aload_n X dX4_undo_10 rfl ?_
  refine cV0v X mf_X4_spread mv_X4_spread ml_X4_52 (by decide) rfl rfl (Nat.le_of_ble_eq_true rfl) dX4_undo_11 (sp_X4_spread (n := n) hs1) (fun w_11 h_11 => ?_)
  change _ = _ at h_11
  subst w_11
  rw [show mesP (sprP n (4 * n * n) (wst w 5 11 mm)) (4 * n * n) = flatW n (wst w 5 11 mm) from rfl]
  generalize hW : flatW n (wst w 5 11 (mm : Int)) = W at hp hR ⊢
  have hWo : ∀ o, (o < 6 ∨ 11 < o) → W o = wst w 5 11 mm o := fun o ho => by rw [← hW]; exact flatW_o ho
  have q5 : W 5 11 = (mm : Int) := by rw [hWo 5 (by omega)]; simp [wst, w1]
  have q12 : W 12 = w 12 := by rw [hWo 12 (by omega)]; simp [wst]
  have q13 : W 13 = w 13 := by rw [hWo 13 (by omega)]; simp [wst]
  have q14 : W 14 = w 14 := by rw [hWo 14 (by omega)]; simp [wst]
  have q15 : W 15 = w 15 := by rw [hWo 15 (by omega)]; simp [wst]
  have q1 : W 1 4 = ((4 * n * n : Nat) : Int) := by rw [hWo 1 (by omega)]; exact hs1.2.2.1
  refine j_iconst X dX4_undo_14 ?_
  refine s_1 X dX4_undo_15 rfl ?_
  have L_16 : ∀ (m : Nat) (i : Nat) (_ : i ≤ mm) (_ : mm - i < m), J κ LAY ad 0 0 16 [some (vR 5), some (vI (i : Int))] [] (redo (4 * n * n) W i) := by
    intro m
    induction m with
    | zero => intro i h1 h2; omega
    | succ m ih16 =>
      intro i h1 h2
      have r5 : redo (4 * n * n) W i 5 11 = (mm : Int) := by rw [redo_o (by omega)]; exact q5
      have r1 : redo (4 * n * n) W i 1 4 = ((4 * n * n : Nat) : Int) := by rw [redo_o (by omega)]; exact q1
      have r12 := redo_o (N := 4 * n * n) (w := W) (o := 12) (by omega) i
      have r13 := redo_o (N := 4 * n * n) (w := W) (o := 13) (by omega) i
      have r14 := redo_o (N := 4 * n * n) (w := W) (o := 14) (by omega) i
      have r15 := redo_o (N := 4 * n * n) (w := W) (o := 15) (by omega) i
      refine j_iload_n X dX4_undo_16 rfl ?_
      refine j_aload_n X dX4_undo_17 rfl ?_
      refine j_getI X dX4_undo_18 ff_X4_48 rfl rfl ?_
      refine j_icmp_ge (tgt := 81) X dX4_undo_21 (by decide) ⟨by omega, by omega⟩ ⟨by omega, by omega⟩ (fun h_21 => ?_) (fun h_21 => ?_)
      · exact j_return X hR dX4_undo_81 (by rw [show i = mm by omega])
      · refine j_iload_n X dX4_undo_24 rfl ?_
        refine j_bipush X dX4_undo_25 (by decide +kernel) ?_
        refine j_icmp_ge (tgt := 81) X dX4_undo_27 (by decide) ⟨by omega, by omega⟩ ⟨by omega, by omega⟩ (fun h_27 => ?_) (fun h_27 => ?_)
        · exact j_return X hR dX4_undo_81 (by rw [show i = mm by omega])
        · refine j_aload_n X dX4_undo_30 rfl ?_
          refine j_aload_n X dX4_undo_31 rfl ?_
          refine j_getR X dX4_undo_32 ff_X4_32 rfl rfl ?_
          refine j_iload_n X dX4_undo_35 rfl ?_
          refine cS2i X mf_X5_get ms_X5_get ml_X4_69 (by decide) (Nat.le_of_ble_eq_true rfl) dX4_undo_36 (sp_getk (k := i) rfl (by decide) (by omega)) (fun a_36 w_36 h_36 => ?_)
          obtain ⟨_, _⟩ := h_36
          subst a_36
          subst w_36
          refine j_aload_n X dX4_undo_39 rfl ?_
          refine j_getR X dX4_undo_40 ff_X4_35 rfl rfl ?_
          refine j_iload_n X dX4_undo_43 rfl ?_
          refine cS2i X mf_X5_get ms_X5_get ml_X4_69 (by decide) (Nat.le_of_ble_eq_true rfl) dX4_undo_44 (sp_getk (k := i) rfl (by decide) (by omega)) (fun a_44 w_44 h_44 => ?_)
          obtain ⟨_, _⟩ := h_44
          subst a_44
          subst w_44
          refine j_aload_n X dX4_undo_47 rfl ?_
          refine j_getR X dX4_undo_48 ff_X4_38 rfl rfl ?_
          refine j_iload_n X dX4_undo_51 rfl ?_
          refine cS2i X mf_X5_get ms_X5_get ml_X4_69 (by decide) (Nat.le_of_ble_eq_true rfl) dX4_undo_52 (sp_getk (k := i) rfl (by decide) (by omega)) (fun a_52 w_52 h_52 => ?_)
          obtain ⟨_, _⟩ := h_52
          subst a_52
          subst w_52
          refine j_aload_n X dX4_undo_55 rfl ?_
          refine j_getR X dX4_undo_56 ff_X4_41 rfl rfl ?_
          refine j_iload_n X dX4_undo_59 rfl ?_
          refine cS2i X mf_X5_get ms_X5_get ml_X4_69 (by decide) (Nat.le_of_ble_eq_true rfl) dX4_undo_60 (sp_getk (k := i) rfl (by decide) (by omega)) (fun a_60 w_60 h_60 => ?_)
          obtain ⟨_, _⟩ := h_60
          subst a_60
          subst w_60
          rw [r12, r13, r14, r15, q12, q13, q14, q15]
          have hov := (hf i (by omega)).2.2.2
          refine j_iconst X dX4_undo_63 ?_
          refine j_icmp_ne (tgt := 71) X dX4_undo_64 (by decide) ⟨by omega, by omega⟩ ⟨by omega, by omega⟩ (fun h_64 => ?_) (fun h_64 => ?_)
          · refine j_iconst X dX4_undo_71 ?_
            refine cV4v X mf_X4_turn mv_X4_turn ml_X4_65 (by decide) rfl rfl (Nat.le_of_ble_eq_true rfl) dX4_undo_72 (sp_X4_turn (N := 4 * n * n) r1 h144 (hp i (by omega)) (hf i (by omega)).1 (hf i (by omega)).2.1 (hf i (by omega)).2.2.1 (by first | exact Or.inl rfl | exact Or.inr rfl)) (fun w_72 h_72 => ?_)
            change _ = _ at h_72
            subst w_72
            refine inc_1 X dX4_undo_75 rfl ?_
            refine j_goto (tgt := 16) X dX4_undo_78 (by decide) ?_
            rw [show turW (4 * n * n) (w 12 i) (w 13 i) (w 14 i) 0 (redo (4 * n * n) W i) = redo (4 * n * n) W (i + 1) from by show _ = turW _ (W 12 i) (W 13 i) (W 14 i) (W 15 i) _; rw [q12, q13, q14, q15, show w 15 i = 0 by omega]]
            exact ih16 (i + 1) (by omega) (by omega)
          · refine j_iconst X dX4_undo_67 ?_
            refine j_goto (tgt := 72) X dX4_undo_68 (by decide) ?_
            refine cV4v X mf_X4_turn mv_X4_turn ml_X4_65 (by decide) rfl rfl (Nat.le_of_ble_eq_true rfl) dX4_undo_72 (sp_X4_turn (N := 4 * n * n) r1 h144 (hp i (by omega)) (hf i (by omega)).1 (hf i (by omega)).2.1 (hf i (by omega)).2.2.1 (by first | exact Or.inl rfl | exact Or.inr rfl)) (fun w_72 h_72 => ?_)
            change _ = _ at h_72
            subst w_72
            refine inc_1 X dX4_undo_75 rfl ?_
            refine j_goto (tgt := 16) X dX4_undo_78 (by decide) ?_
            rw [show turW (4 * n * n) (w 12 i) (w 13 i) (w 14 i) 1 (redo (4 * n * n) W i) = redo (4 * n * n) W (i + 1) from by show _ = turW _ (W 12 i) (W 13 i) (W 14 i) (W 15 i) _; rw [q12, q13, q14, q15, show w 15 i = 1 by omega]]
            exact ih16 (i + 1) (by omega) (by omega)
  exact L_16 (mm + 1) 0 (by omega) (by omega)
/-! ===== the figure; what fell: reads ===== -/
def FgO (w : wd) : Prop := ∀ k, k < 144 → w 22 k = 0 ∨ w 22 k = 1
def FlO (w : wd) : Prop := ∀ k, k < 144 → w 18 k = 0 ∨ w 18 k = 1
def LsO (w : wd) : Prop := ∀ k, k < 144 → -99999 ≤ w 19 k ∧ w 19 k ≤ 144
set_option maxHeartbeats 4000000 in
set_option maxRecDepth 20000 in
theorem sp_X1_has {k : Nat} {w : wd} (hg : FgO w) (hk : k < 144) : CalI yX1_has cX1_has 2 .boolean 2 LAY w [vR 21, vI (k : Int)] (fun a w' => a = ib (w 22 k = 1) ∧ w' = w) := by
  have h1 := hg k hk
  refine calI_intro (ls := [some (vR 21), some (vI (k : Int))]) (by decide) (Nat.le_of_ble_eq_true rfl) rfl (fun κ ad X hR => ?_)
  refine j_aload_n X dX1_has_0 rfl ?_
  refine j_getR X dX1_has_1 ff_X1_9 rfl rfl ?_
  refine j_iload_n X dX1_has_4 rfl ?_
  refine cS2i X mf_X5_get ms_X5_get ml_X1_29 (by decide) (Nat.le_of_ble_eq_true rfl) dX1_has_5 (sp_getk rfl (by decide) (by omega)) (fun a_5 w_5 h_5 => ?_)
  obtain ⟨_, _⟩ := h_5
  subst a_5
  subst w_5
  refine j_iconst X dX1_has_8 ?_
  refine j_icmp_ne (tgt := 16) X dX1_has_9 (by decide) ⟨by omega, by omega⟩ ⟨by omega, by omega⟩ (fun h_9 => ?_) (fun h_9 => ?_)
  · refine j_iconst X dX1_has_16 ?_
    exact j_zreturn X hR dX1_has_17 (by first | exact Or.inl rfl | exact Or.inr rfl | exact ib_01) ⟨by first | exact (ib_t (by omega)).symm | exact (ib_f (by omega)).symm, rfl⟩
  · refine j_iconst X dX1_has_12 ?_
    refine j_goto (tgt := 17) X dX1_has_13 (by decide) ?_
    exact j_zreturn X hR dX1_has_17 (by first | exact Or.inl rfl | exact Or.inr rfl | exact ib_01) ⟨by first | exact (ib_t (by omega)).symm | exact (ib_f (by omega)).symm, rfl⟩
set_option maxHeartbeats 4000000 in
set_option maxRecDepth 20000 in
theorem sp_X8_isDown {k : Nat} {w : wd} (hg : FlO w) (hk : k < 144) : CalI yX8_isDown cX8_isDown 2 .boolean 2 LAY w [vR 17, vI (k : Int)] (fun a w' => a = ib (w 18 k = 1) ∧ w' = w) := by
  have h1 := hg k hk
  refine calI_intro (ls := [some (vR 17), some (vI (k : Int))]) (by decide) (Nat.le_of_ble_eq_true rfl) rfl (fun κ ad X hR => ?_)
  refine j_aload_n X dX8_isDown_0 rfl ?_
  refine j_getR X dX8_isDown_1 ff_X8_9 rfl rfl ?_
  refine j_iload_n X dX8_isDown_4 rfl ?_
  refine cS2i X mf_X5_get ms_X5_get ml_X8_61 (by decide) (Nat.le_of_ble_eq_true rfl) dX8_isDown_5 (sp_getk rfl (by decide) (by omega)) (fun a_5 w_5 h_5 => ?_)
  obtain ⟨_, _⟩ := h_5
  subst a_5
  subst w_5
  refine j_iconst X dX8_isDown_8 ?_
  refine j_icmp_ne (tgt := 16) X dX8_isDown_9 (by decide) ⟨by omega, by omega⟩ ⟨by omega, by omega⟩ (fun h_9 => ?_) (fun h_9 => ?_)
  · refine j_iconst X dX8_isDown_16 ?_
    exact j_zreturn X hR dX8_isDown_17 (by first | exact Or.inl rfl | exact Or.inr rfl | exact ib_01) ⟨by first | exact (ib_t (by omega)).symm | exact (ib_f (by omega)).symm, rfl⟩
  · refine j_iconst X dX8_isDown_12 ?_
    refine j_goto (tgt := 17) X dX8_isDown_13 (by decide) ?_
    exact j_zreturn X hR dX8_isDown_17 (by first | exact Or.inl rfl | exact Or.inr rfl | exact ib_01) ⟨by first | exact (ib_t (by omega)).symm | exact (ib_f (by omega)).symm, rfl⟩
set_option maxHeartbeats 4000000 in
set_option maxRecDepth 20000 in
theorem sp_X8_leastOf {k : Nat} {w : wd} (hk : k < 144) : CalI yX8_leastOf cX8_leastOf 2 .int 2 LAY w [vR 17, vI (k : Int)] (fun a w' => a = w 19 k ∧ w' = w) := by
  refine calI_intro (ls := [some (vR 17), some (vI (k : Int))]) (by decide) (Nat.le_of_ble_eq_true rfl) rfl (fun κ ad X hR => ?_)
  refine j_aload_n X dX8_leastOf_0 rfl ?_
  refine j_getR X dX8_leastOf_1 ff_X8_15 rfl rfl ?_
  refine j_iload_n X dX8_leastOf_4 rfl ?_
  refine cS2i X mf_X5_get ms_X5_get ml_X8_61 (by decide) (Nat.le_of_ble_eq_true rfl) dX8_leastOf_5 (sp_getk rfl (by decide) (by omega)) (fun a_5 w_5 h_5 => ?_)
  obtain ⟨_, _⟩ := h_5
  subst a_5
  subst w_5
  exact j_ireturn X hR dX8_leastOf_8 ⟨rfl, rfl⟩
set_option maxHeartbeats 4000000 in
set_option maxRecDepth 20000 in
theorem sp_X1_wipe {w : wd} : CalV yX1_wipe cX1_wipe 1 3 LAY w [vR 21] (fun w' => w' = wst (wfl w 22 144 0) 21 2 0) := by
  refine calV_intro (ls := [some (vR 21)]) (by decide) (Nat.le_of_ble_eq_true rfl) rfl (fun κ ad X hR => ?_)
  refine j_aload_n X dX1_wipe_0 rfl ?_
  refine j_getR X dX1_wipe_1 ff_X1_9 rfl rfl ?_
  refine j_iconst X dX1_wipe_4 ?_
  refine cS2v X mf_X5_fill ms_X5_fill ml_X1_19 (by decide) (Nat.le_of_ble_eq_true rfl) dX1_wipe_5 (sp_X5_fill rfl (by decide)) (fun w_5 h_5 => ?_)
  change _ = _ at h_5
  subst w_5
  refine j_aload_n X dX1_wipe_8 rfl ?_
  refine j_iconst X dX1_wipe_9 ?_
  refine j_putI X dX1_wipe_10 fp_X1_25 rfl rfl ?_
  exact j_return X hR dX1_wipe_13 rfl
def figW (w : wd) (k : Nat) (b : Int) : wd := wst (wst w 21 2 (w 21 2 + (b - w 22 k))) 22 k b
set_option maxHeartbeats 4000000 in
set_option maxRecDepth 20000 in
theorem sp_X1_put {k : Nat} {b : Int} {w : wd} (hk : k < 144) (hb : b = 0 ∨ b = 1) : CalV yX1_put cX1_put 3 2 LAY w [vR 21, vI (k : Int), vI b] (fun w' => w' = figW w k b) := by
  refine calV_intro (ls := [some (vR 21), some (vI (k : Int)), some (vI b)]) (by decide) (Nat.le_of_ble_eq_true rfl) rfl (fun κ ad X hR => ?_)
  refine j_aload_n X dX1_put_0 rfl ?_
  refine j_dup X dX1_put_1 (fun _ h => by cases h) ?_
  refine j_getI X dX1_put_2 ff_X1_25 rfl rfl ?_
  refine j_iload_n X dX1_put_5 rfl ?_
  refine cS1i X mf_X9_yes ms_X9_yes ml_X1_33 (by decide) (Nat.le_of_ble_eq_true rfl) dX1_put_6 (sp_X9_yes hb) (fun a_6 w_6 h_6 => ?_)
  obtain ⟨_, _⟩ := h_6
  subst a_6
  subst w_6
  refine j_aload_n X dX1_put_9 rfl ?_
  refine j_getR X dX1_put_10 ff_X1_9 rfl rfl ?_
  refine j_iload_n X dX1_put_13 rfl ?_
  refine cS2i X mf_X5_get ms_X5_get ml_X1_29 (by decide) (Nat.le_of_ble_eq_true rfl) dX1_put_14 (sp_getk rfl (by decide) (by omega)) (fun a_14 w_14 h_14 => ?_)
  obtain ⟨_, _⟩ := h_14
  subst a_14
  subst w_14
  refine j_isub X dX1_put_17 ?_
  refine j_iadd X dX1_put_18 ?_
  refine j_putI X dX1_put_19 fp_X1_25 rfl rfl ?_
  refine j_aload_n X dX1_put_22 rfl ?_
  refine j_getR X dX1_put_23 ff_X1_9 rfl rfl ?_
  refine j_iload_n X dX1_put_26 rfl ?_
  refine j_iload_n X dX1_put_27 rfl ?_
  refine cS1i X mf_X9_yes ms_X9_yes ml_X1_33 (by decide) (Nat.le_of_ble_eq_true rfl) dX1_put_28 (sp_X9_yes hb) (fun a_28 w_28 h_28 => ?_)
  obtain ⟨_, _⟩ := h_28
  subst a_28
  subst w_28
  refine cS3v X mf_X5_put ms_X5_put ml_X1_37 (by decide) (Nat.le_of_ble_eq_true rfl) dX1_put_31 (sp_putk rfl (by decide) (by omega)) (fun w_31 h_31 => ?_)
  change _ = _ at h_31
  subst w_31
  exact j_return X hR dX1_put_34 rfl
set_option maxHeartbeats 4000000 in
set_option maxRecDepth 20000 in
theorem sp_X1_first {N : Nat} {b : Int} {w : wd} (hn : w 1 4 = (N : Int)) (hN : N ≤ 144) (hg : FgO w) (hb : b = 0 ∨ b = 1) : CalI yX1_first cX1_first 3 .int 3 LAY w [vR 21, vI b] (fun a w' => ((∃ k : Nat, k < N ∧ a = (k : Int) ∧ w 22 k = b ∧ ∀ j, j < k → w 22 j ≠ b) ∨ (a = 0 ∧ ∀ j, j < N → w 22 j ≠ b)) ∧ w' = w) := by
  refine calI_intro (ls := [some (vR 21), some (vI b), none]) (by decide) (Nat.le_of_ble_eq_true rfl) rfl (fun κ ad X hR => ?_)
  refine j_iconst X dX1_first_0 ?_
  refine s_2 X dX1_first_1 rfl ?_
  have L_2 : ∀ (m : Nat) (k : Nat) (_ : ∀ j, j < k → w 22 j ≠ b) (_ : k ≤ N) (_ : N - k < m), J κ LAY ad 0 0 2 [some (vR 21), some (vI b), some (vI (k : Int))] [] w := by
    intro m
    induction m with
    | zero => intro k hj h1 h2; omega
    | succ m ih2 =>
      intro k hj h1 h2
      refine j_iload_n X dX1_first_2 rfl ?_
      refine j_aload_n X dX1_first_3 rfl ?_
      refine j_getR X dX1_first_4 ff_X1_15 rfl rfl ?_
      refine j_getI X dX1_first_7 ff_X1_41 rfl rfl ?_
      refine j_icmp_ge (tgt := 30) X dX1_first_10 (by decide) ⟨by omega, by omega⟩ ⟨by omega, by omega⟩ (fun h_10 => ?_) (fun h_10 => ?_)
      · refine j_iconst X dX1_first_30 ?_
        exact j_ireturn X hR dX1_first_31 ⟨Or.inr ⟨rfl, fun j h => hj j (by omega)⟩, rfl⟩
      · have hw1 := hg k (by omega)
        refine j_aload_n X dX1_first_13 rfl ?_
        refine j_iload_n X dX1_first_14 rfl ?_
        refine cV1i X mf_X1_has mv_X1_has ml_X1_46 (by decide) rfl rfl (Nat.le_of_ble_eq_true rfl) dX1_first_15 (sp_X1_has hg (by omega)) (fun a_15 w_15 h_15 => ?_)
        obtain ⟨_, _⟩ := h_15
        subst a_15
        subst w_15
        have hwb : ib (w 22 k = 1) ≠ b → w 22 k ≠ b := by rcases hw1 with q | q <;> rcases hb with r | r <;> simp [ib, q, r]
        have hwc : ib (w 22 k = 1) = b → w 22 k = b := by rcases hw1 with q | q <;> rcases hb with r | r <;> simp [ib, q, r]
        refine j_iload_n X dX1_first_18 rfl ?_
        refine j_icmp_ne (tgt := 24) X dX1_first_19 (by decide) ib_rg ⟨by omega, by omega⟩ (fun h_19 => ?_) (fun h_19 => ?_)
        · refine inc_2 X dX1_first_24 rfl ?_
          refine j_goto (tgt := 2) X dX1_first_27 (by decide) ?_
          exact ih2 (k + 1) (fun j h => by rcases Nat.lt_succ_iff_lt_or_eq.mp h with q1 | q1; exact hj j q1; subst q1; exact hwb h_19) (by omega) (by omega)
        · refine j_iload_n X dX1_first_22 rfl ?_
          exact j_ireturn X hR dX1_first_23 ⟨Or.inl ⟨k, by omega, rfl, hwc h_19, hj⟩, rfl⟩
  exact L_2 (N + 1) 0 (fun j h => absurd h (Nat.not_lt_zero j)) (by omega) (by omega)
abbrev mirOk (n : Nat) (w : wd) (sort l : Int) (k : Nat) : Prop := (0 ≤ mirX sort l (lx n k) (ly n k) ∧ mirX sort l (lx n k) (ly n k) < n ∧ 0 ≤ mirY sort l (lx n k) (ly n k) ∧ mirY sort l (lx n k) (ly n k) < n) ∧ ib (w 22 (4 * (mirY sort l (lx n k) (ly n k) * n + mirX sort l (lx n k) (ly n k)) + mirQ sort (lq k)).toNat = 1) = ib (w 22 k = 1)
theorem mirQ_rg {sort q : Int} (h : 0 ≤ q ∧ q < 4) : 0 ≤ mirQ sort q ∧ mirQ sort q < 4 := by
  unfold mirQ
  (repeat' split) <;> omega
theorem mir_nat {n : Nat} {x y q : Int} (hx : 0 ≤ x ∧ x < n) (hy : 0 ≤ y ∧ y < n) (hq : 0 ≤ q ∧ q < 4) : ∃ j : Nat, 4 * (y * n + x) + q = (j : Int) ∧ j < 4 * n * n := by
  refine ⟨4 * (y.toNat * n + x.toNat) + q.toNat, ?_, idx_lt (by omega) (by omega) (by omega)⟩
  rw [Int.natCast_add, Int.natCast_mul, Int.natCast_add, Int.natCast_mul, Int.toNat_of_nonneg hx.1, Int.toNat_of_nonneg hy.1, Int.toNat_of_nonneg hq.1]
  rfl
theorem mirXY_rg {sort l x y : Int} (hl : -24 ≤ l ∧ l ≤ 48) (hx : 0 ≤ x ∧ x < 6) (hy : 0 ≤ y ∧ y < 6) : (-200 ≤ mirX sort l x y ∧ mirX sort l x y ≤ 200) ∧ (-200 ≤ mirY sort l x y ∧ mirY sort l x y ≤ 200) := by
  unfold mirX mirY
  constructor <;> (repeat' split) <;> omega
set_option maxHeartbeats 4000000 in
set_option maxRecDepth 20000 in
theorem sp_X1_isMirror {n : Nat} {sort l : Int} {w : wd} (hs : ShO n w) (hg : FgO w) (hsr : rg sort) (hl : -24 ≤ l ∧ l ≤ 48) : CalI yX1_isMirror cX1_isMirror 7 .boolean 3 LAY w [vR 21, vI sort, vI l] (fun a w' => a = ib (∀ k, k < 4 * n * n → mirOk n w sort l k) ∧ w' = w) := by
  have h144 := nn_le hs.1.2
  have hn2 := hs.2.2.1
  have hn6 := hs.1.2
  have hn3 := hs.2.1
  refine calI_intro (ls := [some (vR 21), some (vI sort), some (vI l), none, none, none, none]) (by decide) (Nat.le_of_ble_eq_true rfl) rfl (fun κ ad X hR => ?_)
  refine j_iconst X dX1_isMirror_0 ?_
  refine s_3 X dX1_isMirror_1 rfl ?_
  have L_2 : ∀ (m : Nat) (k : Nat) (_ : ∀ j, j < k → mirOk n w sort l j) (_ : k ≤ 4 * n * n) (_ : 4 * n * n - k < m), J κ LAY ad 0 0 2 [some (vR 21), some (vI sort), some (vI l), some (vI (k : Int)), none, none, none] [] w := by
    intro m
    induction m with
    | zero => intro k hj h1 h2; omega
    | succ m ih2 =>
      intro k hj h1 h2
      refine j_iload_n X dX1_isMirror_2 rfl ?_
      refine j_aload_n X dX1_isMirror_3 rfl ?_
      refine j_getR X dX1_isMirror_4 ff_X1_15 rfl rfl ?_
      refine j_getI X dX1_isMirror_7 ff_X1_41 rfl rfl ?_
      refine j_icmp_ge (tgt := 120) X dX1_isMirror_10 (by decide) ⟨by omega, by omega⟩ ⟨by omega, by omega⟩ (fun h_10 => ?_) (fun h_10 => ?_)
      · refine j_iconst X dX1_isMirror_120 ?_
        exact j_zreturn X hR dX1_isMirror_121 (by first | exact Or.inl rfl | exact Or.inr rfl | exact ib_01) ⟨(ib_t (fun j h => hj j (by omega))).symm, rfl⟩
      · have hk : k < 4 * n * n := by omega
        obtain ⟨b1, b2, b3⟩ := lxy_rg hs.1 hk
        have bm := mirXY_rg (sort := sort) hl ⟨b1.1, by omega⟩ ⟨b2.1, by omega⟩
        have bq := mirQ_rg (sort := sort) b3
        refine j_iload_n X dX1_isMirror_13 rfl ?_
        refine j_iload_n X dX1_isMirror_14 rfl ?_
        refine j_aload_n X dX1_isMirror_15 rfl ?_
        refine j_getR X dX1_isMirror_16 ff_X1_15 rfl rfl ?_
        refine j_iload_n X dX1_isMirror_19 rfl ?_
        refine cV1i X mf_X7_x mv_X7_x ml_X1_50 (by decide) rfl rfl (Nat.le_of_ble_eq_true rfl) dX1_isMirror_20 (sp_X7_x hs hk) (fun a_20 w_20 h_20 => ?_)
        obtain ⟨_, _⟩ := h_20
        subst a_20
        subst w_20
        refine j_aload_n X dX1_isMirror_23 rfl ?_
        refine j_getR X dX1_isMirror_24 ff_X1_15 rfl rfl ?_
        refine j_iload_n X dX1_isMirror_27 rfl ?_
        refine cV1i X mf_X7_y mv_X7_y ml_X1_54 (by decide) rfl rfl (Nat.le_of_ble_eq_true rfl) dX1_isMirror_28 (sp_X7_y hs hk) (fun a_28 w_28 h_28 => ?_)
        obtain ⟨_, _⟩ := h_28
        subst a_28
        subst w_28
        refine cS4i X mf_X3_mirrorX ms_X3_mirrorX ml_X1_57 (by decide) (Nat.le_of_ble_eq_true rfl) dX1_isMirror_31 (sp_X3_mirrorX hsr) (fun a_31 w_31 h_31 => ?_)
        obtain ⟨_, _⟩ := h_31
        subst a_31
        subst w_31
        refine s_4 X dX1_isMirror_34 rfl ?_
        refine j_iload_n X dX1_isMirror_36 rfl ?_
        refine j_iload_n X dX1_isMirror_37 rfl ?_
        refine j_aload_n X dX1_isMirror_38 rfl ?_
        refine j_getR X dX1_isMirror_39 ff_X1_15 rfl rfl ?_
        refine j_iload_n X dX1_isMirror_42 rfl ?_
        refine cV1i X mf_X7_x mv_X7_x ml_X1_50 (by decide) rfl rfl (Nat.le_of_ble_eq_true rfl) dX1_isMirror_43 (sp_X7_x hs hk) (fun a_43 w_43 h_43 => ?_)
        obtain ⟨_, _⟩ := h_43
        subst a_43
        subst w_43
        refine j_aload_n X dX1_isMirror_46 rfl ?_
        refine j_getR X dX1_isMirror_47 ff_X1_15 rfl rfl ?_
        refine j_iload_n X dX1_isMirror_50 rfl ?_
        refine cV1i X mf_X7_y mv_X7_y ml_X1_54 (by decide) rfl rfl (Nat.le_of_ble_eq_true rfl) dX1_isMirror_51 (sp_X7_y hs hk) (fun a_51 w_51 h_51 => ?_)
        obtain ⟨_, _⟩ := h_51
        subst a_51
        subst w_51
        refine cS4i X mf_X3_mirrorY ms_X3_mirrorY ml_X1_63 (by decide) (Nat.le_of_ble_eq_true rfl) dX1_isMirror_54 (sp_X3_mirrorY hsr) (fun a_54 w_54 h_54 => ?_)
        obtain ⟨_, _⟩ := h_54
        subst a_54
        subst w_54
        refine s_5 X dX1_isMirror_57 rfl ?_
        refine j_iload_n X dX1_isMirror_59 rfl ?_
        refine j_aload_n X dX1_isMirror_60 rfl ?_
        refine j_getR X dX1_isMirror_61 ff_X1_15 rfl rfl ?_
        refine j_iload_n X dX1_isMirror_64 rfl ?_
        refine cV1i X mf_X7_quarter mv_X7_quarter ml_X1_66 (by decide) rfl rfl (Nat.le_of_ble_eq_true rfl) dX1_isMirror_65 (sp_X7_quarter) (fun a_65 w_65 h_65 => ?_)
        obtain ⟨_, _⟩ := h_65
        subst a_65
        subst w_65
        refine cS2i X mf_X3_mirrorQuarter ms_X3_mirrorQuarter ml_X1_69 (by decide) (Nat.le_of_ble_eq_true rfl) dX1_isMirror_68 (sp_X3_mirrorQuarter hsr) (fun a_68 w_68 h_68 => ?_)
        obtain ⟨_, _⟩ := h_68
        subst a_68
        subst w_68
        refine s_6 X dX1_isMirror_71 rfl ?_
        refine j_aload_n X dX1_isMirror_73 rfl ?_
        refine j_getR X dX1_isMirror_74 ff_X1_15 rfl rfl ?_
        refine j_iload X dX1_isMirror_77 rfl ?_
        refine j_iload X dX1_isMirror_79 rfl ?_
        refine cV2i X mf_X7_hasCell mv_X7_hasCell ml_X1_73 (by decide) rfl rfl (Nat.le_of_ble_eq_true rfl) dX1_isMirror_81 (sp_X7_hasCell hn3 ⟨by omega, by omega⟩ ⟨by omega, by omega⟩ ⟨by omega, by omega⟩) (fun a_81 w_81 h_81 => ?_)
        obtain ⟨_, _⟩ := h_81
        subst a_81
        subst w_81
        refine jb_eq (tgt := 112) X dX1_isMirror_84 (by decide) (fun h_84 => ?_) (fun h_84 => ?_)
        · refine j_iconst X dX1_isMirror_112 ?_
          exact j_zreturn X hR dX1_isMirror_113 (by first | exact Or.inl rfl | exact Or.inr rfl | exact ib_01) ⟨(ib_f (fun z => h_84 (z k hk).1)).symm, rfl⟩
        · obtain ⟨j1, hj1, hj1N⟩ := mir_nat ⟨h_84.1, h_84.2.1⟩ ⟨h_84.2.2.1, h_84.2.2.2⟩ bq
          have hj1t : (4 * (mirY sort l (lx n k) (ly n k) * n + mirX sort l (lx n k) (ly n k)) + mirQ sort (lq k)).toNat = j1 := by rw [hj1]; rfl
          refine j_aload_n X dX1_isMirror_87 rfl ?_
          refine j_aload_n X dX1_isMirror_88 rfl ?_
          refine j_getR X dX1_isMirror_89 ff_X1_15 rfl rfl ?_
          refine j_iload X dX1_isMirror_92 rfl ?_
          refine j_iload X dX1_isMirror_94 rfl ?_
          refine j_iload X dX1_isMirror_96 rfl ?_
          refine cV3i X mf_X7_leaf mv_X7_leaf ml_X1_77 (by decide) rfl rfl (Nat.le_of_ble_eq_true rfl) dX1_isMirror_98 (sp_X7_leaf hn3) (fun a_98 w_98 h_98 => ?_)
          obtain ⟨_, _⟩ := h_98
          subst a_98
          subst w_98
          rw [hj1]
          refine cV1i X mf_X1_has mv_X1_has ml_X1_46 (by decide) rfl rfl (Nat.le_of_ble_eq_true rfl) dX1_isMirror_101 (sp_X1_has hg (by omega)) (fun a_101 w_101 h_101 => ?_)
          obtain ⟨_, _⟩ := h_101
          subst a_101
          subst w_101
          refine j_aload_n X dX1_isMirror_104 rfl ?_
          refine j_iload_n X dX1_isMirror_105 rfl ?_
          refine cV1i X mf_X1_has mv_X1_has ml_X1_46 (by decide) rfl rfl (Nat.le_of_ble_eq_true rfl) dX1_isMirror_106 (sp_X1_has hg (by omega)) (fun a_106 w_106 h_106 => ?_)
          obtain ⟨_, _⟩ := h_106
          subst a_106
          subst w_106
          refine j_icmp_eq (tgt := 114) X dX1_isMirror_109 (by decide) ib_rg ib_rg (fun h_109 => ?_) (fun h_109 => ?_)
          · refine inc_3 X dX1_isMirror_114 rfl ?_
            refine j_goto (tgt := 2) X dX1_isMirror_117 (by decide) ?_
            refine fg_4 ?_
            refine fg_5 ?_
            refine fg_6 ?_
            exact ih2 (k + 1) (fun i h => by rcases Nat.lt_succ_iff_lt_or_eq.mp h with q1 | q1; exact hj i q1; subst q1; exact ⟨h_84, by rw [hj1t]; exact h_109⟩) (by omega) (by omega)
          · refine j_iconst X dX1_isMirror_112 ?_
            exact j_zreturn X hR dX1_isMirror_113 (by first | exact Or.inl rfl | exact Or.inr rfl | exact ib_01) ⟨(ib_f (fun z => h_109 (by have q2 := (z k hk).2; rw [hj1t] at q2; exact q2))).symm, rfl⟩
  exact L_2 (4 * n * n + 1) 0 (fun j h => absurd h (Nat.not_lt_zero j)) (by omega) (by omega)
set_option maxHeartbeats 4000000 in
set_option maxRecDepth 20000 in
theorem sp_X8_total {N : Nat} {b : Int} {w : wd} (hn : w 1 4 = (N : Int)) (hN : N ≤ 144) (hg : FlO w) (hL : LsO w) (hb : b = 0 ∨ b = 1) : CalI yX8_total cX8_total 4 .int 3 LAY w [vR 17, vI b] (fun a w' => a = sm (fun k => ib (w 19 k = (k : Int) ∧ ib (w 18 k = 1) = b)) N ∧ w' = w) := by
  refine calI_intro (ls := [some (vR 17), some (vI b), none, none]) (by decide) (Nat.le_of_ble_eq_true rfl) rfl (fun κ ad X hR => ?_)
  refine j_iconst X dX8_total_0 ?_
  refine s_2 X dX8_total_1 rfl ?_
  refine j_iconst X dX8_total_2 ?_
  refine s_3 X dX8_total_3 rfl ?_
  have L_4 : ∀ (m : Nat) (k : Nat) (c : Int) (_ : c = sm (fun k => ib (w 19 k = (k : Int) ∧ ib (w 18 k = 1) = b)) k) (_ : k ≤ N) (_ : N - k < m), J κ LAY ad 0 0 4 [some (vR 17), some (vI b), some (vI c), some (vI (k : Int))] [] w := by
    intro m
    induction m with
    | zero => intro k c hc h1 h2; omega
    | succ m ih4 =>
      intro k c hc h1 h2
      refine j_iload_n X dX8_total_4 rfl ?_
      refine j_aload_n X dX8_total_5 rfl ?_
      refine j_getR X dX8_total_6 ff_X8_21 rfl rfl ?_
      refine j_getI X dX8_total_9 ff_X8_42 rfl rfl ?_
      refine j_icmp_ge (tgt := 50) X dX8_total_12 (by decide) ⟨by omega, by omega⟩ ⟨by omega, by omega⟩ (fun h_12 => ?_) (fun h_12 => ?_)
      · refine j_iload_n X dX8_total_50 rfl ?_
        exact j_ireturn X hR dX8_total_51 ⟨by rw [hc, show k = N by omega], rfl⟩
      · have hl := hL k (by omega)
        refine j_iload_n X dX8_total_15 rfl ?_
        refine j_aload_n X dX8_total_16 rfl ?_
        refine j_iload_n X dX8_total_17 rfl ?_
        refine cV1i X mf_X8_leastOf mv_X8_leastOf ml_X8_66 (by decide) rfl rfl (Nat.le_of_ble_eq_true rfl) dX8_total_18 (sp_X8_leastOf (by omega)) (fun a_18 w_18 h_18 => ?_)
        obtain ⟨_, _⟩ := h_18
        subst a_18
        subst w_18
        refine j_iload_n X dX8_total_21 rfl ?_
        refine j_icmp_ne (tgt := 38) X dX8_total_22 (by decide) ⟨by omega, by omega⟩ ⟨by omega, by omega⟩ (fun h_22 => ?_) (fun h_22 => ?_)
        · refine j_iconst X dX8_total_38 ?_
          refine cS1i X mf_X9_yes ms_X9_yes ml_X8_53 (by decide) (Nat.le_of_ble_eq_true rfl) dX8_total_39 (sp_X9_yes (by first | exact Or.inr rfl | exact Or.inl rfl | exact ib_01)) (fun a_39 w_39 h_39 => ?_)
          obtain ⟨_, _⟩ := h_39
          subst a_39
          subst w_39
          refine j_iadd X dX8_total_42 ?_
          refine s_2 X dX8_total_43 rfl ?_
          refine inc_3 X dX8_total_44 rfl ?_
          refine j_goto (tgt := 4) X dX8_total_47 (by decide) ?_
          exact ih4 (k + 1) _ (by first | exact ac0_t hc (ib_t ⟨h_22, h_31⟩) | exact ac0_f hc (ib_f (fun q => h_22 q.1)) | exact ac0_f hc (ib_f (fun q => h_31 q.2))) (by omega) (by omega)
        · refine j_aload_n X dX8_total_25 rfl ?_
          refine j_iload_n X dX8_total_26 rfl ?_
          refine cV1i X mf_X8_isDown mv_X8_isDown ml_X8_78 (by decide) rfl rfl (Nat.le_of_ble_eq_true rfl) dX8_total_27 (sp_X8_isDown hg (by omega)) (fun a_27 w_27 h_27 => ?_)
          obtain ⟨_, _⟩ := h_27
          subst a_27
          subst w_27
          refine j_iload_n X dX8_total_30 rfl ?_
          refine j_icmp_ne (tgt := 38) X dX8_total_31 (by decide) ib_rg ⟨by omega, by omega⟩ (fun h_31 => ?_) (fun h_31 => ?_)
          · refine j_iconst X dX8_total_38 ?_
            refine cS1i X mf_X9_yes ms_X9_yes ml_X8_53 (by decide) (Nat.le_of_ble_eq_true rfl) dX8_total_39 (sp_X9_yes (by first | exact Or.inr rfl | exact Or.inl rfl | exact ib_01)) (fun a_39 w_39 h_39 => ?_)
            obtain ⟨_, _⟩ := h_39
            subst a_39
            subst w_39
            refine j_iadd X dX8_total_42 ?_
            refine s_2 X dX8_total_43 rfl ?_
            refine inc_3 X dX8_total_44 rfl ?_
            refine j_goto (tgt := 4) X dX8_total_47 (by decide) ?_
            exact ih4 (k + 1) _ (by first | exact ac0_t hc (ib_t ⟨h_22, h_31⟩) | exact ac0_f hc (ib_f (fun q => h_22 q.1)) | exact ac0_f hc (ib_f (fun q => h_31 q.2))) (by omega) (by omega)
          · refine j_iconst X dX8_total_34 ?_
            refine j_goto (tgt := 39) X dX8_total_35 (by decide) ?_
            refine cS1i X mf_X9_yes ms_X9_yes ml_X8_53 (by decide) (Nat.le_of_ble_eq_true rfl) dX8_total_39 (sp_X9_yes (by first | exact Or.inr rfl | exact Or.inl rfl | exact ib_01)) (fun a_39 w_39 h_39 => ?_)
            obtain ⟨_, _⟩ := h_39
            subst a_39
            subst w_39
            refine j_iadd X dX8_total_42 ?_
            refine s_2 X dX8_total_43 rfl ?_
            refine inc_3 X dX8_total_44 rfl ?_
            refine j_goto (tgt := 4) X dX8_total_47 (by decide) ?_
            exact ih4 (k + 1) _ (by first | exact ac0_t hc (ib_t ⟨h_22, h_31⟩) | exact ac0_f hc (ib_f (fun q => h_22 q.1)) | exact ac0_f hc (ib_f (fun q => h_31 q.2))) (by omega) (by omega)
  exact L_4 (N + 1) 0 0 rfl (by omega) (by omega)
set_option maxHeartbeats 4000000 in
set_option maxRecDepth 20000 in
theorem sp_X8_reachesOut {n : Nat} {t : Int} {w : wd} (hs : ShO n w) (hL : LsO w) (ht : rg t) : CalI yX8_reachesOut cX8_reachesOut 3 .boolean 3 LAY w [vR 17, vI t] (fun a w' => a = ib (∃ k, k < 4 * n * n ∧ (w 19 k = t ∧ nb n k 0 = -99999)) ∧ w' = w) := by
  have h144 := nn_le hs.1.2
  have hn2 := hs.2.2.1
  refine calI_intro (ls := [some (vR 17), some (vI t), none]) (by decide) (Nat.le_of_ble_eq_true rfl) rfl (fun κ ad X hR => ?_)
  refine j_iconst X dX8_reachesOut_0 ?_
  refine s_2 X dX8_reachesOut_1 rfl ?_
  have L_2 : ∀ (m : Nat) (k : Nat) (_ : ∀ j, j < k → ¬ (w 19 j = t ∧ nb n j 0 = -99999)) (_ : k ≤ 4 * n * n) (_ : 4 * n * n - k < m), J κ LAY ad 0 0 2 [some (vR 17), some (vI t), some (vI (k : Int))] [] w := by
    intro m
    induction m with
    | zero => intro k hj h1 h2; omega
    | succ m ih2 =>
      intro k hj h1 h2
      refine j_iload_n X dX8_reachesOut_2 rfl ?_
      refine j_aload_n X dX8_reachesOut_3 rfl ?_
      refine j_getR X dX8_reachesOut_4 ff_X8_21 rfl rfl ?_
      refine j_getI X dX8_reachesOut_7 ff_X8_42 rfl rfl ?_
      refine j_icmp_ge (tgt := 44) X dX8_reachesOut_10 (by decide) ⟨by omega, by omega⟩ ⟨by omega, by omega⟩ (fun h_10 => ?_) (fun h_10 => ?_)
      · refine j_iconst X dX8_reachesOut_44 ?_
        exact j_zreturn X hR dX8_reachesOut_45 (by first | exact Or.inl rfl | exact Or.inr rfl | exact ib_01) ⟨(ib_f (fun ⟨j, h, z⟩ => hj j (by omega) z)).symm, rfl⟩
      · have hl := hL k (by omega)
        have hbn := nb_b (n := n) (k := k) (e := 0) hs.1 (by omega) (by omega)
        refine j_aload_n X dX8_reachesOut_13 rfl ?_
        refine j_iload_n X dX8_reachesOut_14 rfl ?_
        refine cV1i X mf_X8_leastOf mv_X8_leastOf ml_X8_66 (by decide) rfl rfl (Nat.le_of_ble_eq_true rfl) dX8_reachesOut_15 (sp_X8_leastOf (by omega)) (fun a_15 w_15 h_15 => ?_)
        obtain ⟨_, _⟩ := h_15
        subst a_15
        subst w_15
        refine j_iload_n X dX8_reachesOut_18 rfl ?_
        refine j_icmp_ne (tgt := 38) X dX8_reachesOut_19 (by decide) ⟨by omega, by omega⟩ ⟨by omega, by omega⟩ (fun h_19 => ?_) (fun h_19 => ?_)
        · refine inc_2 X dX8_reachesOut_38 rfl ?_
          refine j_goto (tgt := 2) X dX8_reachesOut_41 (by decide) ?_
          exact ih2 (k + 1) (fun j h => by rcases Nat.lt_succ_iff_lt_or_eq.mp h with q1 | q1; exact hj j q1; subst q1; exact fun z => h_19 z.1) (by omega) (by omega)
        · refine j_aload_n X dX8_reachesOut_22 rfl ?_
          refine j_getR X dX8_reachesOut_23 ff_X8_21 rfl rfl ?_
          refine j_iload_n X dX8_reachesOut_26 rfl ?_
          refine j_iconst X dX8_reachesOut_27 ?_
          refine cV2i X mf_X7_beside mv_X7_beside ml_X8_74 (by decide) rfl rfl (Nat.le_of_ble_eq_true rfl) dX8_reachesOut_28 (sp_X7_beside (e := 0) hs (by omega) (by omega)) (fun a_28 w_28 h_28 => ?_)
          obtain ⟨_, _⟩ := h_28
          subst a_28
          subst w_28
          refine j_ldc X dX8_reachesOut_31 kc_X8_65 ?_
          refine j_icmp_ne (tgt := 38) X dX8_reachesOut_33 (by decide) ⟨by omega, by omega⟩ ⟨by omega, by omega⟩ (fun h_33 => ?_) (fun h_33 => ?_)
          · refine inc_2 X dX8_reachesOut_38 rfl ?_
            refine j_goto (tgt := 2) X dX8_reachesOut_41 (by decide) ?_
            exact ih2 (k + 1) (fun j h => by rcases Nat.lt_succ_iff_lt_or_eq.mp h with q1 | q1; exact hj j q1; subst q1; exact fun z => h_33 z.2) (by omega) (by omega)
          · refine j_iconst X dX8_reachesOut_36 ?_
            exact j_zreturn X hR dX8_reachesOut_37 (by first | exact Or.inl rfl | exact Or.inr rfl | exact ib_01) ⟨(ib_t ⟨k, by omega, h_19, h_33⟩).symm, rfl⟩
  exact L_2 (4 * n * n + 1) 0 (fun j h => absurd h (Nat.not_lt_zero j)) (by omega) (by omega)
set_option maxHeartbeats 4000000 in
set_option maxRecDepth 20000 in
theorem sp_X8_inner {n : Nat} {w : wd} (hs : ShO n w) (hg : FlO w) (hL : LsO w) : CalI yX8_inner cX8_inner 3 .int 4 LAY w [vR 17] (fun a w' => a = sm (fun k => ib (w 19 k = (k : Int) ∧ w 18 k = 1 ∧ ¬ ∃ j, j < 4 * n * n ∧ (w 19 j = (k : Int) ∧ nb n j 0 = -99999))) (4 * n * n) ∧ w' = w) := by
  have h144 := nn_le hs.1.2
  have hn2 := hs.2.2.1
  refine calI_intro (ls := [some (vR 17), none, none]) (by decide) (Nat.le_of_ble_eq_true rfl) rfl (fun κ ad X hR => ?_)
  refine j_iconst X dX8_inner_0 ?_
  refine s_1 X dX8_inner_1 rfl ?_
  refine j_iconst X dX8_inner_2 ?_
  refine s_2 X dX8_inner_3 rfl ?_
  have L_4 : ∀ (m : Nat) (k : Nat) (c : Int) (_ : c = sm (fun k => ib (w 19 k = (k : Int) ∧ w 18 k = 1 ∧ ¬ ∃ j, j < 4 * n * n ∧ (w 19 j = (k : Int) ∧ nb n j 0 = -99999))) k) (_ : k ≤ 4 * n * n) (_ : 4 * n * n - k < m), J κ LAY ad 0 0 4 [some (vR 17), some (vI c), some (vI (k : Int))] [] w := by
    intro m
    induction m with
    | zero => intro k c hc h1 h2; omega
    | succ m ih4 =>
      intro k c hc h1 h2
      refine j_iload_n X dX8_inner_4 rfl ?_
      refine j_aload_n X dX8_inner_5 rfl ?_
      refine j_getR X dX8_inner_6 ff_X8_21 rfl rfl ?_
      refine j_getI X dX8_inner_9 ff_X8_42 rfl rfl ?_
      refine j_icmp_ge (tgt := 57) X dX8_inner_12 (by decide) ⟨by omega, by omega⟩ ⟨by omega, by omega⟩ (fun h_12 => ?_) (fun h_12 => ?_)
      · refine j_iload_n X dX8_inner_57 rfl ?_
        exact j_ireturn X hR dX8_inner_58 ⟨by rw [hc, show k = 4 * n * n by omega], rfl⟩
      · have hl := hL k (by omega)
        refine j_iload_n X dX8_inner_15 rfl ?_
        refine j_aload_n X dX8_inner_16 rfl ?_
        refine j_iload_n X dX8_inner_17 rfl ?_
        refine cV1i X mf_X8_leastOf mv_X8_leastOf ml_X8_66 (by decide) rfl rfl (Nat.le_of_ble_eq_true rfl) dX8_inner_18 (sp_X8_leastOf (by omega)) (fun a_18 w_18 h_18 => ?_)
        obtain ⟨_, _⟩ := h_18
        subst a_18
        subst w_18
        refine j_iload_n X dX8_inner_21 rfl ?_
        refine j_icmp_ne (tgt := 45) X dX8_inner_22 (by decide) ⟨by omega, by omega⟩ ⟨by omega, by omega⟩ (fun h_22 => ?_) (fun h_22 => ?_)
        · refine j_iconst X dX8_inner_45 ?_
          refine cS1i X mf_X9_yes ms_X9_yes ml_X8_53 (by decide) (Nat.le_of_ble_eq_true rfl) dX8_inner_46 (sp_X9_yes (by first | exact Or.inr rfl | exact Or.inl rfl | exact ib_01)) (fun a_46 w_46 h_46 => ?_)
          obtain ⟨_, _⟩ := h_46
          subst a_46
          subst w_46
          refine j_iadd X dX8_inner_49 ?_
          refine s_1 X dX8_inner_50 rfl ?_
          refine inc_2 X dX8_inner_51 rfl ?_
          refine j_goto (tgt := 4) X dX8_inner_54 (by decide) ?_
          exact ih4 (k + 1) _ (by first | exact ac0_t hc (ib_t ⟨h_22, h_30, h_38⟩) | exact ac0_f hc (ib_f (fun q => h_22 q.1)) | exact ac0_f hc (ib_f (fun q => h_30 q.2.1)) | exact ac0_f hc (ib_f (fun q => q.2.2 h_38))) (by omega) (by omega)
        · refine j_aload_n X dX8_inner_25 rfl ?_
          refine j_iload_n X dX8_inner_26 rfl ?_
          refine cV1i X mf_X8_isDown mv_X8_isDown ml_X8_78 (by decide) rfl rfl (Nat.le_of_ble_eq_true rfl) dX8_inner_27 (sp_X8_isDown hg (by omega)) (fun a_27 w_27 h_27 => ?_)
          obtain ⟨_, _⟩ := h_27
          subst a_27
          subst w_27
          refine jb_eq (tgt := 45) X dX8_inner_30 (by decide) (fun h_30 => ?_) (fun h_30 => ?_)
          · refine j_iconst X dX8_inner_45 ?_
            refine cS1i X mf_X9_yes ms_X9_yes ml_X8_53 (by decide) (Nat.le_of_ble_eq_true rfl) dX8_inner_46 (sp_X9_yes (by first | exact Or.inr rfl | exact Or.inl rfl | exact ib_01)) (fun a_46 w_46 h_46 => ?_)
            obtain ⟨_, _⟩ := h_46
            subst a_46
            subst w_46
            refine j_iadd X dX8_inner_49 ?_
            refine s_1 X dX8_inner_50 rfl ?_
            refine inc_2 X dX8_inner_51 rfl ?_
            refine j_goto (tgt := 4) X dX8_inner_54 (by decide) ?_
            exact ih4 (k + 1) _ (by first | exact ac0_t hc (ib_t ⟨h_22, h_30, h_38⟩) | exact ac0_f hc (ib_f (fun q => h_22 q.1)) | exact ac0_f hc (ib_f (fun q => h_30 q.2.1)) | exact ac0_f hc (ib_f (fun q => q.2.2 h_38))) (by omega) (by omega)
          · refine j_aload_n X dX8_inner_33 rfl ?_
            refine j_iload_n X dX8_inner_34 rfl ?_
            refine cV1i X mf_X8_reachesOut mv_X8_reachesOut ml_X8_82 (by decide) rfl rfl (Nat.le_of_ble_eq_true rfl) dX8_inner_35 (sp_X8_reachesOut hs hL ⟨by omega, by omega⟩) (fun a_35 w_35 h_35 => ?_)
            obtain ⟨_, _⟩ := h_35
            subst a_35
            subst w_35
            refine jb_ne (tgt := 45) X dX8_inner_38 (by decide) (fun h_38 => ?_) (fun h_38 => ?_)
            · refine j_iconst X dX8_inner_45 ?_
              refine cS1i X mf_X9_yes ms_X9_yes ml_X8_53 (by decide) (Nat.le_of_ble_eq_true rfl) dX8_inner_46 (sp_X9_yes (by first | exact Or.inr rfl | exact Or.inl rfl | exact ib_01)) (fun a_46 w_46 h_46 => ?_)
              obtain ⟨_, _⟩ := h_46
              subst a_46
              subst w_46
              refine j_iadd X dX8_inner_49 ?_
              refine s_1 X dX8_inner_50 rfl ?_
              refine inc_2 X dX8_inner_51 rfl ?_
              refine j_goto (tgt := 4) X dX8_inner_54 (by decide) ?_
              exact ih4 (k + 1) _ (by first | exact ac0_t hc (ib_t ⟨h_22, h_30, h_38⟩) | exact ac0_f hc (ib_f (fun q => h_22 q.1)) | exact ac0_f hc (ib_f (fun q => h_30 q.2.1)) | exact ac0_f hc (ib_f (fun q => q.2.2 h_38))) (by omega) (by omega)
            · refine j_iconst X dX8_inner_41 ?_
              refine j_goto (tgt := 46) X dX8_inner_42 (by decide) ?_
              refine cS1i X mf_X9_yes ms_X9_yes ml_X8_53 (by decide) (Nat.le_of_ble_eq_true rfl) dX8_inner_46 (sp_X9_yes (by first | exact Or.inr rfl | exact Or.inl rfl | exact ib_01)) (fun a_46 w_46 h_46 => ?_)
              obtain ⟨_, _⟩ := h_46
              subst a_46
              subst w_46
              refine j_iadd X dX8_inner_49 ?_
              refine s_1 X dX8_inner_50 rfl ?_
              refine inc_2 X dX8_inner_51 rfl ?_
              refine j_goto (tgt := 4) X dX8_inner_54 (by decide) ?_
              exact ih4 (k + 1) _ (by first | exact ac0_t hc (ib_t ⟨h_22, h_30, h_38⟩) | exact ac0_f hc (ib_f (fun q => h_22 q.1)) | exact ac0_f hc (ib_f (fun q => h_30 q.2.1)) | exact ac0_f hc (ib_f (fun q => q.2.2 h_38))) (by omega) (by omega)
  exact L_4 (4 * n * n + 1) 0 0 rfl (by omega) (by omega)
set_option maxHeartbeats 4000000 in
set_option maxRecDepth 20000 in
theorem sp_X8_border {n e : Nat} {w : wd} (hs : ShO n w) (hg : FlO w) (he : e < 3) : CalI yX8_border cX8_border 5 .int 3 LAY w [vR 17, vI (e : Int)] (fun a w' => a = sm (fun k => ib (nb n k e ≠ -99999 ∧ w 18 k = 1 ∧ ¬ w 18 (nb n k e).toNat = 1)) (4 * n * n) ∧ w' = w) := by
  have h144 := nn_le hs.1.2
  have hn2 := hs.2.2.1
  refine calI_intro (ls := [some (vR 17), some (vI (e : Int)), none, none, none]) (by decide) (Nat.le_of_ble_eq_true rfl) rfl (fun κ ad X hR => ?_)
  refine j_iconst X dX8_border_0 ?_
  refine s_2 X dX8_border_1 rfl ?_
  refine j_iconst X dX8_border_2 ?_
  refine s_3 X dX8_border_3 rfl ?_
  have L_4 : ∀ (m : Nat) (k : Nat) (c : Int) (_ : c = sm (fun k => ib (nb n k e ≠ -99999 ∧ w 18 k = 1 ∧ ¬ w 18 (nb n k e).toNat = 1)) k) (_ : k ≤ 4 * n * n) (_ : 4 * n * n - k < m), J κ LAY ad 0 0 4 [some (vR 17), some (vI (e : Int)), some (vI c), some (vI (k : Int)), none] [] w := by
    intro m
    induction m with
    | zero => intro k c hc h1 h2; omega
    | succ m ih4 =>
      intro k c hc h1 h2
      refine j_iload_n X dX8_border_4 rfl ?_
      refine j_aload_n X dX8_border_5 rfl ?_
      refine j_getR X dX8_border_6 ff_X8_21 rfl rfl ?_
      refine j_getI X dX8_border_9 ff_X8_42 rfl rfl ?_
      refine j_icmp_ge (tgt := 67) X dX8_border_12 (by decide) ⟨by omega, by omega⟩ ⟨by omega, by omega⟩ (fun h_12 => ?_) (fun h_12 => ?_)
      · refine j_iload_n X dX8_border_67 rfl ?_
        exact j_ireturn X hR dX8_border_68 ⟨by rw [hc, show k = 4 * n * n by omega], rfl⟩
      · have hbn := nb_b (n := n) (k := k) (e := e) hs.1 (by omega) he
        refine j_aload_n X dX8_border_15 rfl ?_
        refine j_getR X dX8_border_16 ff_X8_21 rfl rfl ?_
        refine j_iload_n X dX8_border_19 rfl ?_
        refine j_iload_n X dX8_border_20 rfl ?_
        refine cV2i X mf_X7_beside mv_X7_beside ml_X8_74 (by decide) rfl rfl (Nat.le_of_ble_eq_true rfl) dX8_border_21 (sp_X7_beside hs (by omega) he) (fun a_21 w_21 h_21 => ?_)
        obtain ⟨_, _⟩ := h_21
        subst a_21
        subst w_21
        refine s_4 X dX8_border_24 rfl ?_
        refine j_iload_n X dX8_border_26 rfl ?_
        refine j_iload X dX8_border_27 rfl ?_
        refine j_ldc X dX8_border_29 kc_X8_65 ?_
        refine j_icmp_eq (tgt := 55) X dX8_border_31 (by decide) ⟨by omega, by omega⟩ ⟨by omega, by omega⟩ (fun h_31 => ?_) (fun h_31 => ?_)
        · refine j_iconst X dX8_border_55 ?_
          refine cS1i X mf_X9_yes ms_X9_yes ml_X8_53 (by decide) (Nat.le_of_ble_eq_true rfl) dX8_border_56 (sp_X9_yes (by first | exact Or.inr rfl | exact Or.inl rfl | exact ib_01)) (fun a_56 w_56 h_56 => ?_)
          obtain ⟨_, _⟩ := h_56
          subst a_56
          subst w_56
          refine j_iadd X dX8_border_59 ?_
          refine s_2 X dX8_border_60 rfl ?_
          refine inc_3 X dX8_border_61 rfl ?_
          refine j_goto (tgt := 4) X dX8_border_64 (by decide) ?_
          refine fg_4 ?_
          exact ih4 (k + 1) _ (by first | exact ac0_f hc (ib_f (fun q => q.1 h_31)) | exact ac0_f hc (ib_f (fun q => h_39 q.2.1)) | exact ac0_f hc (ib_f (fun q => q.2.2 (by rw [hjt]; exact h_48))) | exact ac0_t hc (ib_t ⟨h_31, h_39, by rw [hjt]; exact h_48⟩)) (by omega) (by omega)
        · obtain ⟨j, hnb, hj⟩ := (nb_rg hs.1 (show k < 4 * n * n by omega) he).resolve_left h_31
          have hjt : (nb n k e).toNat = j := by rw [hnb]; rfl
          rw [hnb]
          refine j_aload_n X dX8_border_34 rfl ?_
          refine j_iload_n X dX8_border_35 rfl ?_
          refine cV1i X mf_X8_isDown mv_X8_isDown ml_X8_78 (by decide) rfl rfl (Nat.le_of_ble_eq_true rfl) dX8_border_36 (sp_X8_isDown hg (by omega)) (fun a_36 w_36 h_36 => ?_)
          obtain ⟨_, _⟩ := h_36
          subst a_36
          subst w_36
          refine jb_eq (tgt := 55) X dX8_border_39 (by decide) (fun h_39 => ?_) (fun h_39 => ?_)
          · refine j_iconst X dX8_border_55 ?_
            refine cS1i X mf_X9_yes ms_X9_yes ml_X8_53 (by decide) (Nat.le_of_ble_eq_true rfl) dX8_border_56 (sp_X9_yes (by first | exact Or.inr rfl | exact Or.inl rfl | exact ib_01)) (fun a_56 w_56 h_56 => ?_)
            obtain ⟨_, _⟩ := h_56
            subst a_56
            subst w_56
            refine j_iadd X dX8_border_59 ?_
            refine s_2 X dX8_border_60 rfl ?_
            refine inc_3 X dX8_border_61 rfl ?_
            refine j_goto (tgt := 4) X dX8_border_64 (by decide) ?_
            refine fg_4 ?_
            exact ih4 (k + 1) _ (by first | exact ac0_f hc (ib_f (fun q => q.1 h_31)) | exact ac0_f hc (ib_f (fun q => h_39 q.2.1)) | exact ac0_f hc (ib_f (fun q => q.2.2 (by rw [hjt]; exact h_48))) | exact ac0_t hc (ib_t ⟨h_31, h_39, by rw [hjt]; exact h_48⟩)) (by omega) (by omega)
          · refine j_aload_n X dX8_border_42 rfl ?_
            refine j_iload X dX8_border_43 rfl ?_
            refine cV1i X mf_X8_isDown mv_X8_isDown ml_X8_78 (by decide) rfl rfl (Nat.le_of_ble_eq_true rfl) dX8_border_45 (sp_X8_isDown hg (by omega)) (fun a_45 w_45 h_45 => ?_)
            obtain ⟨_, _⟩ := h_45
            subst a_45
            subst w_45
            refine jb_ne (tgt := 55) X dX8_border_48 (by decide) (fun h_48 => ?_) (fun h_48 => ?_)
            · refine j_iconst X dX8_border_55 ?_
              refine cS1i X mf_X9_yes ms_X9_yes ml_X8_53 (by decide) (Nat.le_of_ble_eq_true rfl) dX8_border_56 (sp_X9_yes (by first | exact Or.inr rfl | exact Or.inl rfl | exact ib_01)) (fun a_56 w_56 h_56 => ?_)
              obtain ⟨_, _⟩ := h_56
              subst a_56
              subst w_56
              refine j_iadd X dX8_border_59 ?_
              refine s_2 X dX8_border_60 rfl ?_
              refine inc_3 X dX8_border_61 rfl ?_
              refine j_goto (tgt := 4) X dX8_border_64 (by decide) ?_
              refine fg_4 ?_
              exact ih4 (k + 1) _ (by first | exact ac0_f hc (ib_f (fun q => q.1 h_31)) | exact ac0_f hc (ib_f (fun q => h_39 q.2.1)) | exact ac0_f hc (ib_f (fun q => q.2.2 (by rw [hjt]; exact h_48))) | exact ac0_t hc (ib_t ⟨h_31, h_39, by rw [hjt]; exact h_48⟩)) (by omega) (by omega)
            · refine j_iconst X dX8_border_51 ?_
              refine j_goto (tgt := 56) X dX8_border_52 (by decide) ?_
              refine cS1i X mf_X9_yes ms_X9_yes ml_X8_53 (by decide) (Nat.le_of_ble_eq_true rfl) dX8_border_56 (sp_X9_yes (by first | exact Or.inr rfl | exact Or.inl rfl | exact ib_01)) (fun a_56 w_56 h_56 => ?_)
              obtain ⟨_, _⟩ := h_56
              subst a_56
              subst w_56
              refine j_iadd X dX8_border_59 ?_
              refine s_2 X dX8_border_60 rfl ?_
              refine inc_3 X dX8_border_61 rfl ?_
              refine j_goto (tgt := 4) X dX8_border_64 (by decide) ?_
              refine fg_4 ?_
              exact ih4 (k + 1) _ (by first | exact ac0_f hc (ib_f (fun q => q.1 h_31)) | exact ac0_f hc (ib_f (fun q => h_39 q.2.1)) | exact ac0_f hc (ib_f (fun q => q.2.2 (by rw [hjt]; exact h_48))) | exact ac0_t hc (ib_t ⟨h_31, h_39, by rw [hjt]; exact h_48⟩)) (by omega) (by omega)
  exact L_4 (4 * n * n + 1) 0 0 rfl (by omega) (by omega)
