/-! ===== the pile ===== -/
/-- places within bounds, truth values as such -/
def PlK (w : wd) (k : Nat) : Prop := (-300 ≤ w 6 k ∧ w 6 k ≤ 300) ∧ (-300 ≤ w 7 k ∧ w 7 k ≤ 300) ∧ (0 ≤ w 8 k ∧ w 8 k ≤ 3) ∧ (w 10 k = 0 ∨ w 10 k = 1)
def PlO (N : Nat) (w : wd) : Prop := ∀ k, k < N → PlK w k
def LyO (N : Nat) (w : wd) : Prop := ∀ k, k < N → -1000 ≤ w 9 k ∧ w 9 k ≤ 1000
def pst (sort : Int) (w : wd) (k : Nat) : Int := strip sort (w 6 k) (w 7 k) (w 8 k)
abbrev pon (sort l side : Int) (w : wd) (k : Nat) : Prop := isOn (pst sort w k) l side
def psp (w : wd) (k : Nat) : Int := spot (w 6 k) (w 7 k) (w 8 k)
def msp (sort l : Int) (w : wd) (k : Nat) : Int := spot (mirX sort l (w 6 k) (w 7 k)) (mirY sort l (w 6 k) (w 7 k)) (mirQ sort (w 8 k))
theorem pst_rg {w : wd} {k : Nat} (h : PlK w k) (sort : Int) : -601 ≤ pst sort w k ∧ pst sort w k ≤ 601 := by
  obtain ⟨h1, h2, h3, -⟩ := h
  unfold pst strip
  (repeat' split) <;> omega
set_option maxHeartbeats 4000000 in
set_option maxRecDepth 20000 in
theorem sp_X4_x {k : Nat} {w : wd} (hk : k < 144) : CalI yX4_x cX4_x 2 .int 2 LAY w [vR 5, vI (k : Int)] (fun a w' => a = w 6 k ∧ w' = w) := by
  refine calI_intro (ls := [some (vR 5), some (vI (k : Int))]) (by decide) (Nat.le_of_ble_eq_true rfl) rfl (fun κ ad X hR => ?_)
  refine j_aload_n X dX4_x_0 rfl ?_
  refine j_getR X dX4_x_1 ff_X4_9 rfl rfl ?_
  refine j_iload_n X dX4_x_4 rfl ?_
  refine cS2i X mf_X5_get ms_X5_get ml_X4_69 (by decide) (Nat.le_of_ble_eq_true rfl) dX4_x_5 (sp_getk rfl (by decide) (by omega)) (fun a_5 w_5 h_5 => ?_)
  obtain ⟨_, _⟩ := h_5
  subst a_5
  subst w_5
  exact j_ireturn X hR dX4_x_8 ⟨rfl, rfl⟩
set_option maxHeartbeats 4000000 in
set_option maxRecDepth 20000 in
theorem sp_X4_y {k : Nat} {w : wd} (hk : k < 144) : CalI yX4_y cX4_y 2 .int 2 LAY w [vR 5, vI (k : Int)] (fun a w' => a = w 7 k ∧ w' = w) := by
  refine calI_intro (ls := [some (vR 5), some (vI (k : Int))]) (by decide) (Nat.le_of_ble_eq_true rfl) rfl (fun κ ad X hR => ?_)
  refine j_aload_n X dX4_y_0 rfl ?_
  refine j_getR X dX4_y_1 ff_X4_15 rfl rfl ?_
  refine j_iload_n X dX4_y_4 rfl ?_
  refine cS2i X mf_X5_get ms_X5_get ml_X4_69 (by decide) (Nat.le_of_ble_eq_true rfl) dX4_y_5 (sp_getk rfl (by decide) (by omega)) (fun a_5 w_5 h_5 => ?_)
  obtain ⟨_, _⟩ := h_5
  subst a_5
  subst w_5
  exact j_ireturn X hR dX4_y_8 ⟨rfl, rfl⟩
set_option maxHeartbeats 4000000 in
set_option maxRecDepth 20000 in
theorem sp_X4_quarter {k : Nat} {w : wd} (hk : k < 144) : CalI yX4_quarter cX4_quarter 2 .int 2 LAY w [vR 5, vI (k : Int)] (fun a w' => a = w 8 k ∧ w' = w) := by
  refine calI_intro (ls := [some (vR 5), some (vI (k : Int))]) (by decide) (Nat.le_of_ble_eq_true rfl) rfl (fun κ ad X hR => ?_)
  refine j_aload_n X dX4_quarter_0 rfl ?_
  refine j_getR X dX4_quarter_1 ff_X4_18 rfl rfl ?_
  refine j_iload_n X dX4_quarter_4 rfl ?_
  refine cS2i X mf_X5_get ms_X5_get ml_X4_69 (by decide) (Nat.le_of_ble_eq_true rfl) dX4_quarter_5 (sp_getk rfl (by decide) (by omega)) (fun a_5 w_5 h_5 => ?_)
  obtain ⟨_, _⟩ := h_5
  subst a_5
  subst w_5
  exact j_ireturn X hR dX4_quarter_8 ⟨rfl, rfl⟩
set_option maxHeartbeats 4000000 in
set_option maxRecDepth 20000 in
theorem sp_X4_layer {k : Nat} {w : wd} (hk : k < 144) : CalI yX4_layer cX4_layer 2 .int 2 LAY w [vR 5, vI (k : Int)] (fun a w' => a = w 9 k ∧ w' = w) := by
  refine calI_intro (ls := [some (vR 5), some (vI (k : Int))]) (by decide) (Nat.le_of_ble_eq_true rfl) rfl (fun κ ad X hR => ?_)
  refine j_aload_n X dX4_layer_0 rfl ?_
  refine j_getR X dX4_layer_1 ff_X4_21 rfl rfl ?_
  refine j_iload_n X dX4_layer_4 rfl ?_
  refine cS2i X mf_X5_get ms_X5_get ml_X4_69 (by decide) (Nat.le_of_ble_eq_true rfl) dX4_layer_5 (sp_getk rfl (by decide) (by omega)) (fun a_5 w_5 h_5 => ?_)
  obtain ⟨_, _⟩ := h_5
  subst a_5
  subst w_5
  exact j_ireturn X hR dX4_layer_8 ⟨rfl, rfl⟩
set_option maxHeartbeats 4000000 in
set_option maxRecDepth 20000 in
theorem sp_X4_isUp {k : Nat} {w : wd} (hk : k < 144) (h1 : w 10 k = 0 ∨ w 10 k = 1) : CalI yX4_isUp cX4_isUp 2 .boolean 2 LAY w [vR 5, vI (k : Int)] (fun a w' => a = ib (w 10 k = 1) ∧ w' = w) := by
  refine calI_intro (ls := [some (vR 5), some (vI (k : Int))]) (by decide) (Nat.le_of_ble_eq_true rfl) rfl (fun κ ad X hR => ?_)
  refine j_aload_n X dX4_isUp_0 rfl ?_
  refine j_getR X dX4_isUp_1 ff_X4_24 rfl rfl ?_
  refine j_iload_n X dX4_isUp_4 rfl ?_
  refine cS2i X mf_X5_get ms_X5_get ml_X4_69 (by decide) (Nat.le_of_ble_eq_true rfl) dX4_isUp_5 (sp_getk rfl (by decide) (by omega)) (fun a_5 w_5 h_5 => ?_)
  obtain ⟨_, _⟩ := h_5
  subst a_5
  subst w_5
  refine j_iconst X dX4_isUp_8 ?_
  refine j_icmp_ne (tgt := 16) X dX4_isUp_9 (by decide) ⟨by omega, by omega⟩ ⟨by omega, by omega⟩ (fun h_9 => ?_) (fun h_9 => ?_)
  · refine j_iconst X dX4_isUp_16 ?_
    exact j_zreturn X hR dX4_isUp_17 (by first | exact Or.inl rfl | exact Or.inr rfl | exact ib_01) ⟨by first | exact (ib_t (by omega)).symm | exact (ib_f (by omega)).symm, rfl⟩
  · refine j_iconst X dX4_isUp_12 ?_
    refine j_goto (tgt := 17) X dX4_isUp_13 (by decide) ?_
    exact j_zreturn X hR dX4_isUp_17 (by first | exact Or.inl rfl | exact Or.inr rfl | exact ib_01) ⟨by first | exact (ib_t (by omega)).symm | exact (ib_f (by omega)).symm, rfl⟩
set_option maxHeartbeats 4000000 in
set_option maxRecDepth 20000 in
theorem sp_X4_spot {k : Nat} {w : wd} (hk : k < 144) : CalI yX4_spot cX4_spot 2 .int 2 LAY w [vR 5, vI (k : Int)] (fun a w' => a = psp w k ∧ w' = w) := by
  refine calI_intro (ls := [some (vR 5), some (vI (k : Int))]) (by decide) (Nat.le_of_ble_eq_true rfl) rfl (fun κ ad X hR => ?_)
  refine j_aload_n X dX4_spot_0 rfl ?_
  refine j_getR X dX4_spot_1 ff_X4_9 rfl rfl ?_
  refine j_iload_n X dX4_spot_4 rfl ?_
  refine cS2i X mf_X5_get ms_X5_get ml_X4_69 (by decide) (Nat.le_of_ble_eq_true rfl) dX4_spot_5 (sp_getk rfl (by decide) (by omega)) (fun a_5 w_5 h_5 => ?_)
  obtain ⟨_, _⟩ := h_5
  subst a_5
  subst w_5
  refine j_aload_n X dX4_spot_8 rfl ?_
  refine j_getR X dX4_spot_9 ff_X4_15 rfl rfl ?_
  refine j_iload_n X dX4_spot_12 rfl ?_
  refine cS2i X mf_X5_get ms_X5_get ml_X4_69 (by decide) (Nat.le_of_ble_eq_true rfl) dX4_spot_13 (sp_getk rfl (by decide) (by omega)) (fun a_13 w_13 h_13 => ?_)
  obtain ⟨_, _⟩ := h_13
  subst a_13
  subst w_13
  refine j_aload_n X dX4_spot_16 rfl ?_
  refine j_getR X dX4_spot_17 ff_X4_18 rfl rfl ?_
  refine j_iload_n X dX4_spot_20 rfl ?_
  refine cS2i X mf_X5_get ms_X5_get ml_X4_69 (by decide) (Nat.le_of_ble_eq_true rfl) dX4_spot_21 (sp_getk rfl (by decide) (by omega)) (fun a_21 w_21 h_21 => ?_)
  obtain ⟨_, _⟩ := h_21
  subst a_21
  subst w_21
  refine cS3i X mf_X3_spot ms_X3_spot ml_X4_138 (by decide) (Nat.le_of_ble_eq_true rfl) dX4_spot_24 (sp_X3_spot) (fun a_24 w_24 h_24 => ?_)
  obtain ⟨_, _⟩ := h_24
  subst a_24
  subst w_24
  exact j_ireturn X hR dX4_spot_27 ⟨rfl, rfl⟩
set_option maxHeartbeats 4000000 in
set_option maxRecDepth 20000 in
theorem sp_X4_heightOver {k : Nat} {w : wd} (hk : k < 144) : CalI yX4_heightOver cX4_heightOver 2 .int 3 LAY w [vR 5, vI (k : Int)] (fun a w' => a = w 11 (psp w k).toNat ∧ w' = w) := by
  have hs := spot_lt (w 6 k) (w 7 k) (w 8 k)
  refine calI_intro (ls := [some (vR 5), some (vI (k : Int))]) (by decide) (Nat.le_of_ble_eq_true rfl) rfl (fun κ ad X hR => ?_)
  refine j_aload_n X dX4_heightOver_0 rfl ?_
  refine j_getR X dX4_heightOver_1 ff_X4_29 rfl rfl ?_
  refine j_aload_n X dX4_heightOver_4 rfl ?_
  refine j_iload_n X dX4_heightOver_5 rfl ?_
  refine cV1i X mf_X4_spot mv_X4_spot ml_X4_135 (by decide) rfl rfl (Nat.le_of_ble_eq_true rfl) dX4_heightOver_6 (sp_X4_spot (by omega)) (fun a_6 w_6 h_6 => ?_)
  obtain ⟨_, _⟩ := h_6
  subst a_6
  subst w_6
  rw [show psp w k = spot (w 6 k) (w 7 k) (w 8 k) from rfl]
  refine cS2i X mf_X5_get ms_X5_get ml_X4_69 (by decide) (Nat.le_of_ble_eq_true rfl) dX4_heightOver_9 (sp_X5_get rfl (by decide) ⟨by omega, by omega⟩) (fun a_9 w_9 h_9 => ?_)
  obtain ⟨_, _⟩ := h_9
  subst a_9
  subst w_9
  exact j_ireturn X hR dX4_heightOver_12 ⟨by unfold rget psp; rw [if_pos (by omega)], rfl⟩
set_option maxHeartbeats 4000000 in
set_option maxRecDepth 20000 in
theorem sp_X4_mirrorSpot {k : Nat} {sort l : Int} {w : wd} (hk : k < 144) (hs : rg sort) : CalI yX4_mirrorSpot cX4_mirrorSpot 6 .int 3 LAY w [vR 5, vI (k : Int), vI sort, vI l] (fun a w' => a = msp sort l w k ∧ w' = w) := by
  refine calI_intro (ls := [some (vR 5), some (vI (k : Int)), some (vI sort), some (vI l), none, none]) (by decide) (Nat.le_of_ble_eq_true rfl) rfl (fun κ ad X hR => ?_)
  refine j_iload_n X dX4_mirrorSpot_0 rfl ?_
  refine j_iload_n X dX4_mirrorSpot_1 rfl ?_
  refine j_aload_n X dX4_mirrorSpot_2 rfl ?_
  refine j_iload_n X dX4_mirrorSpot_3 rfl ?_
  refine cV1i X mf_X4_x mv_X4_x ml_X4_113 (by decide) rfl rfl (Nat.le_of_ble_eq_true rfl) dX4_mirrorSpot_4 (sp_X4_x (by omega)) (fun a_4 w_4 h_4 => ?_)
  obtain ⟨_, _⟩ := h_4
  subst a_4
  subst w_4
  refine j_aload_n X dX4_mirrorSpot_7 rfl ?_
  refine j_iload_n X dX4_mirrorSpot_8 rfl ?_
  refine cV1i X mf_X4_y mv_X4_y ml_X4_114 (by decide) rfl rfl (Nat.le_of_ble_eq_true rfl) dX4_mirrorSpot_9 (sp_X4_y (by omega)) (fun a_9 w_9 h_9 => ?_)
  obtain ⟨_, _⟩ := h_9
  subst a_9
  subst w_9
  refine cS4i X mf_X3_mirrorX ms_X3_mirrorX ml_X4_115 (by decide) (Nat.le_of_ble_eq_true rfl) dX4_mirrorSpot_12 (sp_X3_mirrorX hs) (fun a_12 w_12 h_12 => ?_)
  obtain ⟨_, _⟩ := h_12
  subst a_12
  subst w_12
  refine s_4 X dX4_mirrorSpot_15 rfl ?_
  refine j_iload_n X dX4_mirrorSpot_17 rfl ?_
  refine j_iload_n X dX4_mirrorSpot_18 rfl ?_
  refine j_aload_n X dX4_mirrorSpot_19 rfl ?_
  refine j_iload_n X dX4_mirrorSpot_20 rfl ?_
  refine cV1i X mf_X4_x mv_X4_x ml_X4_113 (by decide) rfl rfl (Nat.le_of_ble_eq_true rfl) dX4_mirrorSpot_21 (sp_X4_x (by omega)) (fun a_21 w_21 h_21 => ?_)
  obtain ⟨_, _⟩ := h_21
  subst a_21
  subst w_21
  refine j_aload_n X dX4_mirrorSpot_24 rfl ?_
  refine j_iload_n X dX4_mirrorSpot_25 rfl ?_
  refine cV1i X mf_X4_y mv_X4_y ml_X4_114 (by decide) rfl rfl (Nat.le_of_ble_eq_true rfl) dX4_mirrorSpot_26 (sp_X4_y (by omega)) (fun a_26 w_26 h_26 => ?_)
  obtain ⟨_, _⟩ := h_26
  subst a_26
  subst w_26
  refine cS4i X mf_X3_mirrorY ms_X3_mirrorY ml_X4_119 (by decide) (Nat.le_of_ble_eq_true rfl) dX4_mirrorSpot_29 (sp_X3_mirrorY hs) (fun a_29 w_29 h_29 => ?_)
  obtain ⟨_, _⟩ := h_29
  subst a_29
  subst w_29
  refine s_5 X dX4_mirrorSpot_32 rfl ?_
  refine j_iload X dX4_mirrorSpot_34 rfl ?_
  refine j_iload X dX4_mirrorSpot_36 rfl ?_
  refine j_iload_n X dX4_mirrorSpot_38 rfl ?_
  refine j_aload_n X dX4_mirrorSpot_39 rfl ?_
  refine j_iload_n X dX4_mirrorSpot_40 rfl ?_
  refine cV1i X mf_X4_quarter mv_X4_quarter ml_X4_122 (by decide) rfl rfl (Nat.le_of_ble_eq_true rfl) dX4_mirrorSpot_41 (sp_X4_quarter (by omega)) (fun a_41 w_41 h_41 => ?_)
  obtain ⟨_, _⟩ := h_41
  subst a_41
  subst w_41
  refine cS2i X mf_X3_mirrorQuarter ms_X3_mirrorQuarter ml_X4_123 (by decide) (Nat.le_of_ble_eq_true rfl) dX4_mirrorSpot_44 (sp_X3_mirrorQuarter hs) (fun a_44 w_44 h_44 => ?_)
  obtain ⟨_, _⟩ := h_44
  subst a_44
  subst w_44
  refine cS3i X mf_X3_spot ms_X3_spot ml_X4_138 (by decide) (Nat.le_of_ble_eq_true rfl) dX4_mirrorSpot_47 (sp_X3_spot) (fun a_47 w_47 h_47 => ?_)
  obtain ⟨_, _⟩ := h_47
  subst a_47
  subst w_47
  exact j_ireturn X hR dX4_mirrorSpot_50 ⟨rfl, rfl⟩
set_option maxHeartbeats 4000000 in
set_option maxRecDepth 20000 in
theorem sp_X4_isOn {k : Nat} {sort l side : Int} {w : wd} (h1 : PlK w k) (hk : k < 144) (hs : rg sort) (hl : rg l) (hd : rg side) : CalI yX4_isOn cX4_isOn 5 .boolean 3 LAY w [vR 5, vI (k : Int), vI sort, vI l, vI side] (fun a w' => a = ib (pon sort l side w k) ∧ w' = w) := by
  have h2 := pst_rg h1 sort
  unfold pst at h2
  unfold PlK at h1
  refine calI_intro (ls := [some (vR 5), some (vI (k : Int)), some (vI sort), some (vI l), some (vI side)]) (by decide) (Nat.le_of_ble_eq_true rfl) rfl (fun κ ad X hR => ?_)
  refine j_iload_n X dX4_isOn_0 rfl ?_
  refine j_aload_n X dX4_isOn_1 rfl ?_
  refine j_iload_n X dX4_isOn_2 rfl ?_
  refine cV1i X mf_X4_x mv_X4_x ml_X4_113 (by decide) rfl rfl (Nat.le_of_ble_eq_true rfl) dX4_isOn_3 (sp_X4_x (by omega)) (fun a_3 w_3 h_3 => ?_)
  obtain ⟨_, _⟩ := h_3
  subst a_3
  subst w_3
  refine j_aload_n X dX4_isOn_6 rfl ?_
  refine j_iload_n X dX4_isOn_7 rfl ?_
  refine cV1i X mf_X4_y mv_X4_y ml_X4_114 (by decide) rfl rfl (Nat.le_of_ble_eq_true rfl) dX4_isOn_8 (sp_X4_y (by omega)) (fun a_8 w_8 h_8 => ?_)
  obtain ⟨_, _⟩ := h_8
  subst a_8
  subst w_8
  refine j_aload_n X dX4_isOn_11 rfl ?_
  refine j_iload_n X dX4_isOn_12 rfl ?_
  refine cV1i X mf_X4_quarter mv_X4_quarter ml_X4_122 (by decide) rfl rfl (Nat.le_of_ble_eq_true rfl) dX4_isOn_13 (sp_X4_quarter (by omega)) (fun a_13 w_13 h_13 => ?_)
  obtain ⟨_, _⟩ := h_13
  subst a_13
  subst w_13
  refine cS4i X mf_X3_strip ms_X3_strip ml_X4_140 (by decide) (Nat.le_of_ble_eq_true rfl) dX4_isOn_16 (sp_X3_strip hs ⟨by omega, by omega⟩) (fun a_16 w_16 h_16 => ?_)
  obtain ⟨_, _⟩ := h_16
  subst a_16
  subst w_16
  refine j_iload_n X dX4_isOn_19 rfl ?_
  refine j_iload X dX4_isOn_20 rfl ?_
  refine cS3i X mf_X3_isOn ms_X3_isOn ml_X4_143 (by decide) (Nat.le_of_ble_eq_true rfl) dX4_isOn_22 (sp_X3_isOn ⟨by omega, by omega⟩ hl hd) (fun a_22 w_22 h_22 => ?_)
  obtain ⟨_, _⟩ := h_22
  subst a_22
  subst w_22
  exact j_zreturn X hR dX4_isOn_25 (by first | exact Or.inl rfl | exact Or.inr rfl | exact ib_01) ⟨rfl, rfl⟩
set_option maxHeartbeats 4000000 in
set_option maxRecDepth 20000 in
theorem sp_X4_lying {N : Nat} {sort l side : Int} {w : wd} (hn : w 1 4 = (N : Int)) (hp : PlO N w) (hN : N ≤ 144) (hs : rg sort) (hl : rg l) (hd : rg side) : CalI yX4_lying cX4_lying 6 .int 4 LAY w [vR 5, vI sort, vI l, vI side] (fun a w' => a = sm (fun k => ib (pon sort l side w k)) N ∧ w' = w) := by
  refine calI_intro (ls := [some (vR 5), some (vI sort), some (vI l), some (vI side), none, none]) (by decide) (Nat.le_of_ble_eq_true rfl) rfl (fun κ ad X hR => ?_)
  refine j_iconst X dX4_lying_0 ?_
  refine s_4 X dX4_lying_1 rfl ?_
  refine j_iconst X dX4_lying_3 ?_
  refine s_5 X dX4_lying_4 rfl ?_
  have L_6 : ∀ (m : Nat) (k : Nat) (c : Int) (_ : c = sm (fun k => ib (pon sort l side w k)) k) (_ : k ≤ N) (_ : N - k < m), J κ LAY ad 0 0 6 [some (vR 5), some (vI sort), some (vI l), some (vI side), some (vI c), some (vI (k : Int))] [] w := by
    intro m
    induction m with
    | zero => intro k c hc h1 h2; omega
    | succ m ih6 =>
      intro k c hc h1 h2
      refine j_iload X dX4_lying_6 rfl ?_
      refine j_aload_n X dX4_lying_8 rfl ?_
      refine j_getR X dX4_lying_9 ff_X4_44 rfl rfl ?_
      refine j_getI X dX4_lying_12 ff_X4_73 rfl rfl ?_
      refine j_icmp_ge (tgt := 41) X dX4_lying_15 (by decide) ⟨by omega, by omega⟩ ⟨by omega, by omega⟩ (fun h_15 => ?_) (fun h_15 => ?_)
      · refine j_iload X dX4_lying_41 rfl ?_
        exact j_ireturn X hR dX4_lying_43 ⟨by rw [hc, show k = N by omega], rfl⟩
      · refine j_iload X dX4_lying_18 rfl ?_
        refine j_aload_n X dX4_lying_20 rfl ?_
        refine j_iload X dX4_lying_21 rfl ?_
        refine j_iload_n X dX4_lying_23 rfl ?_
        refine j_iload_n X dX4_lying_24 rfl ?_
        refine j_iload_n X dX4_lying_25 rfl ?_
        refine cV4i X mf_X4_isOn mv_X4_isOn ml_X4_95 (by decide) rfl rfl (Nat.le_of_ble_eq_true rfl) dX4_lying_26 (sp_X4_isOn (hp k (by omega)) (by omega) hs hl hd) (fun a_26 w_26 h_26 => ?_)
        obtain ⟨_, _⟩ := h_26
        subst a_26
        subst w_26
        refine cS1i X mf_X9_yes ms_X9_yes ml_X4_61 (by decide) (Nat.le_of_ble_eq_true rfl) dX4_lying_29 (sp_X9_yes (by first | exact Or.inr rfl | exact Or.inl rfl | exact ib_01)) (fun a_29 w_29 h_29 => ?_)
        obtain ⟨_, _⟩ := h_29
        subst a_29
        subst w_29
        refine j_iadd X dX4_lying_32 ?_
        refine s_4 X dX4_lying_33 rfl ?_
        refine inc_5 X dX4_lying_35 rfl ?_
        refine j_goto (tgt := 6) X dX4_lying_38 (by decide) ?_
        exact ih6 (k + 1) _ (by rw [sm_s, hc]) (by omega) (by omega)
  exact L_6 (N + 1) 0 0 rfl (by omega) (by omega)
set_option maxHeartbeats 4000000 in
set_option maxRecDepth 20000 in
theorem sp_X4_isCrossed {N : Nat} {sort l : Int} {w : wd} (hn : w 1 4 = (N : Int)) (hp : PlO N w) (hN : N ≤ 144) (hs : rg sort) (hl : rg l) : CalI yX4_isCrossed cX4_isCrossed 4 .boolean 5 LAY w [vR 5, vI sort, vI l] (fun a w' => a = ib (0 < sm (fun k => ib (pon sort l 0 w k)) N ∧ sm (fun k => ib (pon sort l 0 w k)) N < N) ∧ w' = w) := by
  have hb := sm_b (f := fun k => ib (pon sort l 0 w k)) (fun _ => ib_01) N
  refine calI_intro (ls := [some (vR 5), some (vI sort), some (vI l), none]) (by decide) (Nat.le_of_ble_eq_true rfl) rfl (fun κ ad X hR => ?_)
  refine j_aload_n X dX4_isCrossed_0 rfl ?_
  refine j_iload_n X dX4_isCrossed_1 rfl ?_
  refine j_iload_n X dX4_isCrossed_2 rfl ?_
  refine j_iconst X dX4_isCrossed_3 ?_
  refine cV3i X mf_X4_lying mv_X4_lying ml_X4_146 (by decide) rfl rfl (Nat.le_of_ble_eq_true rfl) dX4_isCrossed_4 (sp_X4_lying hn hp hN hs hl ⟨by decide, by decide⟩) (fun a_4 w_4 h_4 => ?_)
  obtain ⟨_, _⟩ := h_4
  subst a_4
  subst w_4
  refine s_3 X dX4_isCrossed_7 rfl ?_
  refine j_iload_n X dX4_isCrossed_8 rfl ?_
  refine j_if_le (tgt := 27) X dX4_isCrossed_9 (by decide) ⟨by omega, by omega⟩ (fun h_9 => ?_) (fun h_9 => ?_)
  · refine j_iconst X dX4_isCrossed_27 ?_
    exact j_zreturn X hR dX4_isCrossed_28 (by first | exact Or.inl rfl | exact Or.inr rfl | exact ib_01) ⟨by first | exact (ib_t (by omega)).symm | exact (ib_f (by omega)).symm, rfl⟩
  · refine j_iload_n X dX4_isCrossed_12 rfl ?_
    refine j_aload_n X dX4_isCrossed_13 rfl ?_
    refine j_getR X dX4_isCrossed_14 ff_X4_44 rfl rfl ?_
    refine j_getI X dX4_isCrossed_17 ff_X4_73 rfl rfl ?_
    refine j_icmp_ge (tgt := 27) X dX4_isCrossed_20 (by decide) ⟨by omega, by omega⟩ ⟨by omega, by omega⟩ (fun h_20 => ?_) (fun h_20 => ?_)
    · refine j_iconst X dX4_isCrossed_27 ?_
      exact j_zreturn X hR dX4_isCrossed_28 (by first | exact Or.inl rfl | exact Or.inr rfl | exact ib_01) ⟨by first | exact (ib_t (by omega)).symm | exact (ib_f (by omega)).symm, rfl⟩
    · refine j_iconst X dX4_isCrossed_23 ?_
      refine j_goto (tgt := 28) X dX4_isCrossed_24 (by decide) ?_
      exact j_zreturn X hR dX4_isCrossed_28 (by first | exact Or.inl rfl | exact Or.inr rfl | exact ib_01) ⟨by first | exact (ib_t (by omega)).symm | exact (ib_f (by omega)).symm, rfl⟩
