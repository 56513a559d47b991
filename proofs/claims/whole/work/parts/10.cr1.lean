/-! ===== the pile: folds kept and undone; the creases ===== -/
def putF (w : wd) (m : Nat) (sort l side ov : Int) : wd := wst (wst (wst (wst w 12 m sort) 13 m l) 14 m side) 15 m ov
def addW (N m : Nat) (sort l side ov : Int) (w : wd) : wd := turW N sort l side ov (wst (putF w m sort l side ov) 5 11 ((m : Int) + 1))
def redo (N : Nat) (w : wd) (i : Nat) : wd := match i with
  | 0 => w
  | i + 1 => turW N (w 12 i) (w 13 i) (w 14 i) (w 15 i) (redo N w i)
theorem redo_o {N : Nat} {w : wd} {o : Nat} (h : o < 6 ∨ 11 < o) : ∀ i, redo N w i o = w o
  | 0 => rfl
  | i + 1 => (turW_o h).trans (redo_o h i)
def flatW (n : Nat) (w : wd) : wd := mesP (sprP n (4 * n * n) w) (4 * n * n)
theorem flatW_o {n : Nat} {w : wd} {o : Nat} (h : o < 6 ∨ 11 < o) : flatW n w o = w o := by
  funext i
  have h11 : ¬ o = 11 := by omega
  simp only [flatW, mesP, sprP]
  rw [if_neg (by omega), if_neg (by omega)]
theorem nb_rg {n k e : Nat} (h1 : 1 ≤ n ∧ n ≤ 6) (hk : k < 4 * n * n) (he : e < 3) : nb n k e = -99999 ∨ ∃ j : Nat, nb n k e = (j : Int) ∧ j < 4 * n * n := by
  obtain ⟨b1, b2, b3⟩ := lxy_rg h1 hk
  unfold nb
  split
  · unfold acr
    split
    · rename_i h
      refine Or.inr ⟨4 * ((ay (ly n k) (lq k)).toNat * n + (ax (lx n k) (lq k)).toNat) + ((lq k + 2) % 4).toNat, ?_, idx_lt (by omega) (by omega) (by omega)⟩
      rw [Int.natCast_add, Int.natCast_mul, Int.natCast_add, Int.natCast_mul, Int.toNat_of_nonneg h.1, Int.toNat_of_nonneg h.2.2.1, Int.toNat_of_nonneg (by omega)]
      rfl
    · exact Or.inl rfl
  · have e1 : lq k = ((k % 4 : Nat) : Int) := rfl
    refine Or.inr ⟨((k : Int) - lq k + (if e = 1 then lq k + 1 else lq k + 3) % 4).toNat, ?_, ?_⟩
    · rw [Int.toNat_of_nonneg]
      split <;> omega
    · rw [Nat.mul_assoc] at hk ⊢
      split <;> omega
theorem nb_b {n k e : Nat} (h1 : 1 ≤ n ∧ n ≤ 6) (hk : k < 4 * n * n) (he : e < 3) : -99999 ≤ nb n k e ∧ nb n k e ≤ 144 := by
  have := nn_le h1.2
  rcases nb_rg h1 hk he with h | ⟨j, h, hj⟩ <;> omega
def kd (n : Nat) (w : wd) (k e : Nat) : Int := if nb n k e = -99999 then -99999 else if ib (w 10 k = 1) = ib (w 10 (nb n k e).toNat = 1) then 0 else if w 9 k < w 9 (nb n k e).toNat then (if w 10 k = 1 then 1 else 2) else (if w 10 (nb n k e).toNat = 1 then 1 else 2)
theorem kd_rg (n : Nat) (w : wd) (k e : Nat) : -99999 ≤ kd n w k e ∧ kd n w k e ≤ 2 := by
  unfold kd
  (repeat' split) <;> omega
abbrev isC (c dx dy : Int) : Prop := (((c = 0 ∨ c = 1) ∧ dx = 2) ∨ (¬ (c = 0 ∨ c = 1) ∧ dx = 0)) ∧ (((c = 1 ∨ c = 2) ∧ dy = 2) ∨ (¬ (c = 1 ∨ c = 2) ∧ dy = 0))
abbrev eA (n k e : Nat) (tx ty : Int) : Prop := (e = 0 ∧ (isC (lq k) (tx - 2 * lx n k) (ty - 2 * ly n k) ∨ isC ((lq k + 3) % 4) (tx - 2 * lx n k) (ty - 2 * ly n k))) ∨ (e ≠ 0 ∧ ((tx - 2 * lx n k = 1 ∧ ty - 2 * ly n k = 1) ∨ (e = 1 ∧ isC (lq k) (tx - 2 * lx n k) (ty - 2 * ly n k)) ∨ (e ≠ 1 ∧ isC ((lq k + 3) % 4) (tx - 2 * lx n k) (ty - 2 * ly n k))))
def crT (n : Nat) (w : wd) (K : Int) (k : Nat) : Int := sm (fun e => ib ((k : Int) < nb n k e ∧ kd n w k e = K)) 3
def crE (n : Nat) (w : wd) (K tx ty : Int) (k : Nat) : Int := sm (fun e => ib ((k : Int) < nb n k e ∧ eA n k e tx ty ∧ kd n w k e = K)) 3
set_option maxHeartbeats 4000000 in
set_option maxRecDepth 20000 in
theorem sp_X4_add {N m : Nat} {sort l side ov : Int} {w : wd} (hn : w 1 4 = (N : Int)) (hN : N ≤ 144) (hp : PlO N w) (hm : m < 8) (hmd : w 5 11 = (m : Int)) (hs : rg sort) (hl : rg l) (hd : rg side) (ho : ov = 0 ∨ ov = 1) : CalV yX4_add cX4_add 5 6 LAY w [vR 5, vI sort, vI l, vI side, vI ov] (fun w' => w' = addW N m sort l side ov w) := by
  refine calV_intro (ls := [some (vR 5), some (vI sort), some (vI l), some (vI side), some (vI ov)]) (by decide) (Nat.le_of_ble_eq_true rfl) rfl (fun κ ad X hR => ?_)
  refine j_aload_n X dX4_add_0 rfl ?_
  refine j_getR X dX4_add_1 ff_X4_32 rfl rfl ?_
  refine j_aload_n X dX4_add_4 rfl ?_
  refine j_getI X dX4_add_5 ff_X4_48 rfl rfl ?_
  refine j_iload_n X dX4_add_8 rfl ?_
  change J κ LAY ad 0 0 _ _ (_ :: vI (w 5 11) :: _) _
  rw [hmd]
  refine cS3v X mf_X5_put ms_X5_put ml_X4_55 (by decide) (Nat.le_of_ble_eq_true rfl) dX4_add_9 (sp_putk (k := m) rfl (by decide) hm) (fun w_9 h_9 => ?_)
  change _ = _ at h_9
  subst w_9
  refine j_aload_n X dX4_add_12 rfl ?_
  refine j_getR X dX4_add_13 ff_X4_35 rfl rfl ?_
  refine j_aload_n X dX4_add_16 rfl ?_
  refine j_getI X dX4_add_17 ff_X4_48 rfl rfl ?_
  refine j_iload_n X dX4_add_20 rfl ?_
  change J κ LAY ad 0 0 _ _ (_ :: vI (w 5 11) :: _) _
  rw [hmd]
  refine cS3v X mf_X5_put ms_X5_put ml_X4_55 (by decide) (Nat.le_of_ble_eq_true rfl) dX4_add_21 (sp_putk (k := m) rfl (by decide) hm) (fun w_21 h_21 => ?_)
  change _ = _ at h_21
  subst w_21
  refine j_aload_n X dX4_add_24 rfl ?_
  refine j_getR X dX4_add_25 ff_X4_38 rfl rfl ?_
  refine j_aload_n X dX4_add_28 rfl ?_
  refine j_getI X dX4_add_29 ff_X4_48 rfl rfl ?_
  refine j_iload_n X dX4_add_32 rfl ?_
  change J κ LAY ad 0 0 _ _ (_ :: vI (w 5 11) :: _) _
  rw [hmd]
  refine cS3v X mf_X5_put ms_X5_put ml_X4_55 (by decide) (Nat.le_of_ble_eq_true rfl) dX4_add_33 (sp_putk (k := m) rfl (by decide) hm) (fun w_33 h_33 => ?_)
  change _ = _ at h_33
  subst w_33
  refine j_aload_n X dX4_add_36 rfl ?_
  refine j_getR X dX4_add_37 ff_X4_41 rfl rfl ?_
  refine j_aload_n X dX4_add_40 rfl ?_
  refine j_getI X dX4_add_41 ff_X4_48 rfl rfl ?_
  refine j_iload X dX4_add_44 rfl ?_
  change J κ LAY ad 0 0 _ _ (_ :: vI (w 5 11) :: _) _
  rw [hmd]
  refine cS1i X mf_X9_yes ms_X9_yes ml_X4_61 (by decide) (Nat.le_of_ble_eq_true rfl) dX4_add_46 (sp_X9_yes ho) (fun a_46 w_46 h_46 => ?_)
  obtain ⟨_, _⟩ := h_46
  subst a_46
  subst w_46
  refine cS3v X mf_X5_put ms_X5_put ml_X4_55 (by decide) (Nat.le_of_ble_eq_true rfl) dX4_add_49 (sp_putk (k := m) rfl (by decide) hm) (fun w_49 h_49 => ?_)
  change _ = _ at h_49
  subst w_49
  refine j_aload_n X dX4_add_52 rfl ?_
  refine j_dup X dX4_add_53 (fun _ h => by cases h) ?_
  refine j_getI X dX4_add_54 ff_X4_48 rfl rfl ?_
  change J κ LAY ad 0 0 _ _ (vI (w 5 11) :: _) _
  rw [hmd]
  refine j_iconst X dX4_add_57 ?_
  refine j_iadd X dX4_add_58 ?_
  refine j_putI X dX4_add_59 fp_X4_48 rfl rfl ?_
  refine j_aload_n X dX4_add_62 rfl ?_
  refine j_iload_n X dX4_add_63 rfl ?_
  refine j_iload_n X dX4_add_64 rfl ?_
  refine j_iload_n X dX4_add_65 rfl ?_
  refine j_iload X dX4_add_66 rfl ?_
  refine cV4v X mf_X4_turn mv_X4_turn ml_X4_65 (by decide) rfl rfl (Nat.le_of_ble_eq_true rfl) dX4_add_68 (sp_X4_turn (N := N) hn hN hp hs hl hd ho) (fun w_68 h_68 => ?_)
  change _ = _ at h_68
  subst w_68
  exact j_return X hR dX4_add_71 rfl
set_option maxHeartbeats 4000000 in
set_option maxRecDepth 20000 in
theorem sp_X4_flatten {n : Nat} {w : wd} (hs : ShO n w) : CalV yX4_flatten cX4_flatten 1 5 LAY w [vR 5] (fun w' => w' = flatW n (wst w 5 11 0)) := by
  refine calV_intro (ls := [some (vR 5)]) (by decide) (Nat.le_of_ble_eq_true rfl) rfl (fun κ ad X hR => ?_)
  refine j_aload_n X dX4_flatten_0 rfl ?_
  refine j_iconst X dX4_flatten_1 ?_
  refine j_putI X dX4_flatten_2 fp_X4_48 rfl rfl ?_
  refine j_aload_n X dX4_flatten_5 rfl ?_
  refine cV0v X mf_X4_spread mv_X4_spread ml_X4_52 (by decide) rfl rfl (Nat.le_of_ble_eq_true rfl) dX4_flatten_6 (sp_X4_spread (n := n) (hs.keep (fun o ho => by simp only [wst]; rw [if_neg (by omega)]))) (fun w_6 h_6 => ?_)
  change _ = _ at h_6
  subst w_6
  exact j_return X hR dX4_flatten_9 rfl
set_option maxHeartbeats 4000000 in
set_option maxRecDepth 20000 in
theorem sp_X0_isFirstOf {k e n : Nat} {w : wd} (hs : ShO n w) (hk : k < 4 * n * n) (he : e < 3) : CalI yX0_isFirstOf cX0_isFirstOf 3 .boolean 3 LAY w [vR 16, vI (k : Int), vI (e : Int)] (fun a w' => a = ib ((k : Int) < nb n k e) ∧ w' = w) := by
  have h144 := nn_le hs.1.2
  have hb := nb_b hs.1 hk he
  refine calI_intro (ls := [some (vR 16), some (vI (k : Int)), some (vI (e : Int))]) (by decide) (Nat.le_of_ble_eq_true rfl) rfl (fun κ ad X hR => ?_)
  refine j_iload_n X dX0_isFirstOf_0 rfl ?_
  refine j_aload_n X dX0_isFirstOf_1 rfl ?_
  refine j_getR X dX0_isFirstOf_2 ff_X0_9 rfl rfl ?_
  refine j_iload_n X dX0_isFirstOf_5 rfl ?_
  refine j_iload_n X dX0_isFirstOf_6 rfl ?_
  refine cV2i X mf_X7_beside mv_X7_beside ml_X0_19 (by decide) rfl rfl (Nat.le_of_ble_eq_true rfl) dX0_isFirstOf_7 (sp_X7_beside hs (by omega) (by omega)) (fun a_7 w_7 h_7 => ?_)
  obtain ⟨_, _⟩ := h_7
  subst a_7
  subst w_7
  refine j_icmp_ge (tgt := 17) X dX0_isFirstOf_10 (by decide) ⟨by omega, by omega⟩ ⟨by omega, by omega⟩ (fun h_10 => ?_) (fun h_10 => ?_)
  · refine j_iconst X dX0_isFirstOf_17 ?_
    exact j_zreturn X hR dX0_isFirstOf_18 (by first | exact Or.inl rfl | exact Or.inr rfl | exact ib_01) ⟨by first | exact (ib_t (by omega)).symm | exact (ib_f (by omega)).symm, rfl⟩
  · refine j_iconst X dX0_isFirstOf_13 ?_
    refine j_goto (tgt := 18) X dX0_isFirstOf_14 (by decide) ?_
    exact j_zreturn X hR dX0_isFirstOf_18 (by first | exact Or.inl rfl | exact Or.inr rfl | exact ib_01) ⟨by first | exact (ib_t (by omega)).symm | exact (ib_f (by omega)).symm, rfl⟩
set_option maxHeartbeats 4000000 in
set_option maxRecDepth 20000 in
theorem sp_X0_isCorner {c dx dy : Int} {w : wd} (hc : rg c) (hx : rg dx) (hy : rg dy) : CalI yX0_isCorner cX0_isCorner 5 .boolean 1 LAY w [vI c, vI dx, vI dy] (fun a w' => a = ib (isC c dx dy) ∧ w' = w) := by
  refine calI_intro (ls := [some (vI c), some (vI dx), some (vI dy), none, none]) (by decide) (Nat.le_of_ble_eq_true rfl) rfl (fun κ ad X hR => ?_)
  have C_30 : ∀ u v : Int, ((c = 0 ∨ c = 1) ∧ u = 2) ∨ (¬ (c = 0 ∨ c = 1) ∧ u = 0) → ((c = 1 ∨ c = 2) ∧ v = 2) ∨ (¬ (c = 1 ∨ c = 2) ∧ v = 0) → J κ LAY ad 0 0 30 [some (vI c), some (vI dx), some (vI dy), some (vI u), none] [vI v] w := by
    intro u v hu hv
    refine s_4 X dX0_isCorner_30 rfl ?_
    refine j_iload_n X dX0_isCorner_32 rfl ?_
    refine j_iload_n X dX0_isCorner_33 rfl ?_
    refine j_icmp_ne (tgt := 47) X dX0_isCorner_34 (by decide) ⟨by omega, by omega⟩ ⟨by omega, by omega⟩ (fun h_34 => ?_) (fun h_34 => ?_)
    · refine j_iconst X dX0_isCorner_47 ?_
      exact j_zreturn X hR dX0_isCorner_48 (by first | exact Or.inl rfl | exact Or.inr rfl | exact ib_01) ⟨by first | exact (ib_t (by omega)).symm | exact (ib_f (by omega)).symm, rfl⟩
    · refine j_iload_n X dX0_isCorner_37 rfl ?_
      refine j_iload X dX0_isCorner_38 rfl ?_
      refine j_icmp_ne (tgt := 47) X dX0_isCorner_40 (by decide) ⟨by omega, by omega⟩ ⟨by omega, by omega⟩ (fun h_40 => ?_) (fun h_40 => ?_)
      · refine j_iconst X dX0_isCorner_47 ?_
        exact j_zreturn X hR dX0_isCorner_48 (by first | exact Or.inl rfl | exact Or.inr rfl | exact ib_01) ⟨by first | exact (ib_t (by omega)).symm | exact (ib_f (by omega)).symm, rfl⟩
      · refine j_iconst X dX0_isCorner_43 ?_
        refine j_goto (tgt := 48) X dX0_isCorner_44 (by decide) ?_
        exact j_zreturn X hR dX0_isCorner_48 (by first | exact Or.inl rfl | exact Or.inr rfl | exact ib_01) ⟨by first | exact (ib_t (by omega)).symm | exact (ib_f (by omega)).symm, rfl⟩
  have C_14 : ∀ u : Int, ((c = 0 ∨ c = 1) ∧ u = 2) ∨ (¬ (c = 0 ∨ c = 1) ∧ u = 0) → J κ LAY ad 0 0 14 [some (vI c), some (vI dx), some (vI dy), none, none] [vI u] w := by
    intro u hu
    refine s_3 X dX0_isCorner_14 rfl ?_
    refine j_iload_n X dX0_isCorner_15 rfl ?_
    refine j_iconst X dX0_isCorner_16 ?_
    refine j_icmp_eq (tgt := 25) X dX0_isCorner_17 (by decide) ⟨by omega, by omega⟩ ⟨by omega, by omega⟩ (fun h_17 => ?_) (fun h_17 => ?_)
    · refine j_iconst X dX0_isCorner_25 ?_
      refine j_goto (tgt := 30) X dX0_isCorner_26 (by decide) ?_
      exact C_30 _ _ hu (by omega)
    · refine j_iload_n X dX0_isCorner_20 rfl ?_
      refine j_iconst X dX0_isCorner_21 ?_
      refine j_icmp_ne (tgt := 29) X dX0_isCorner_22 (by decide) ⟨by omega, by omega⟩ ⟨by omega, by omega⟩ (fun h_22 => ?_) (fun h_22 => ?_)
      · refine j_iconst X dX0_isCorner_29 ?_
        exact C_30 _ _ hu (by omega)
      · refine j_iconst X dX0_isCorner_25 ?_
        refine j_goto (tgt := 30) X dX0_isCorner_26 (by decide) ?_
        exact C_30 _ _ hu (by omega)
  refine j_iload_n X dX0_isCorner_0 rfl ?_
  refine j_if_eq (tgt := 9) X dX0_isCorner_1 (by decide) ⟨by omega, by omega⟩ (fun h_1 => ?_) (fun h_1 => ?_)
  · refine j_iconst X dX0_isCorner_9 ?_
    refine j_goto (tgt := 14) X dX0_isCorner_10 (by decide) ?_
    exact C_14 _ (by omega)
  · refine j_iload_n X dX0_isCorner_4 rfl ?_
    refine j_iconst X dX0_isCorner_5 ?_
    refine j_icmp_ne (tgt := 13) X dX0_isCorner_6 (by decide) ⟨by omega, by omega⟩ ⟨by omega, by omega⟩ (fun h_6 => ?_) (fun h_6 => ?_)
    · refine j_iconst X dX0_isCorner_13 ?_
      exact C_14 _ (by omega)
    · refine j_iconst X dX0_isCorner_9 ?_
      refine j_goto (tgt := 14) X dX0_isCorner_10 (by decide) ?_
      exact C_14 _ (by omega)
set_option maxHeartbeats 4000000 in
set_option maxRecDepth 20000 in
theorem sp_X0_endsAt {k e n : Nat} {tx ty : Int} {w : wd} (hs : ShO n w) (hk : k < 4 * n * n) (he : e < 3) (htx : -100 ≤ tx ∧ tx ≤ 100) (hty : -100 ≤ ty ∧ ty ≤ 100) : CalI yX0_endsAt cX0_endsAt 11 .boolean 3 LAY w [vR 16, vI (k : Int), vI (e : Int), vI tx, vI ty] (fun a w' => a = ib (eA n k e tx ty) ∧ w' = w) := by
  have h144 := nn_le hs.1.2
  obtain ⟨b1, b2, b3⟩ := lxy_rg hs.1 hk
  have hn6 := hs.1.2
  refine calI_intro (ls := [some (vR 16), some (vI (k : Int)), some (vI (e : Int)), some (vI tx), some (vI ty), none, none, none, none, none, none]) (by decide) (Nat.le_of_ble_eq_true rfl) rfl (fun κ ad X hR => ?_)
  refine j_iload_n X dX0_endsAt_0 rfl ?_
  refine j_iconst X dX0_endsAt_1 ?_
  refine j_aload_n X dX0_endsAt_2 rfl ?_
  refine j_getR X dX0_endsAt_3 ff_X0_9 rfl rfl ?_
  refine j_iload_n X dX0_endsAt_6 rfl ?_
  refine cV1i X mf_X7_x mv_X7_x ml_X0_55 (by decide) rfl rfl (Nat.le_of_ble_eq_true rfl) dX0_endsAt_7 (sp_X7_x hs (by omega)) (fun a_7 w_7 h_7 => ?_)
  obtain ⟨_, _⟩ := h_7
  subst a_7
  subst w_7
  refine j_imul X dX0_endsAt_10 ?_
  refine j_isub X dX0_endsAt_11 ?_
  refine s_5 X dX0_endsAt_12 rfl ?_
  refine j_iload X dX0_endsAt_14 rfl ?_
  refine j_iconst X dX0_endsAt_16 ?_
  refine j_aload_n X dX0_endsAt_17 rfl ?_
  refine j_getR X dX0_endsAt_18 ff_X0_9 rfl rfl ?_
  refine j_iload_n X dX0_endsAt_21 rfl ?_
  refine cV1i X mf_X7_y mv_X7_y ml_X0_58 (by decide) rfl rfl (Nat.le_of_ble_eq_true rfl) dX0_endsAt_22 (sp_X7_y hs (by omega)) (fun a_22 w_22 h_22 => ?_)
  obtain ⟨_, _⟩ := h_22
  subst a_22
  subst w_22
  refine j_imul X dX0_endsAt_25 ?_
  refine j_isub X dX0_endsAt_26 ?_
  refine s_6 X dX0_endsAt_27 rfl ?_
  refine j_aload_n X dX0_endsAt_29 rfl ?_
  refine j_getR X dX0_endsAt_30 ff_X0_9 rfl rfl ?_
  refine j_iload_n X dX0_endsAt_33 rfl ?_
  refine cV1i X mf_X7_quarter mv_X7_quarter ml_X0_61 (by decide) rfl rfl (Nat.le_of_ble_eq_true rfl) dX0_endsAt_34 (sp_X7_quarter) (fun a_34 w_34 h_34 => ?_)
  obtain ⟨_, _⟩ := h_34
  subst a_34
  subst w_34
  refine s_7 X dX0_endsAt_37 rfl ?_
  refine j_iload X dX0_endsAt_39 rfl ?_
  refine j_iload X dX0_endsAt_41 rfl ?_
  refine j_iload X dX0_endsAt_43 rfl ?_
  refine cS3i X mf_X0_isCorner ms_X0_isCorner ml_X0_64 (by decide) (Nat.le_of_ble_eq_true rfl) dX0_endsAt_45 (sp_X0_isCorner ⟨by omega, by omega⟩ ⟨by omega, by omega⟩ ⟨by omega, by omega⟩) (fun a_45 w_45 h_45 => ?_)
  obtain ⟨_, _⟩ := h_45
  subst a_45
  subst w_45
  refine s_8 X dX0_endsAt_48 rfl ?_
  refine j_iload X dX0_endsAt_50 rfl ?_
  refine j_iconst X dX0_endsAt_52 ?_
  refine j_iadd X dX0_endsAt_53 ?_
  refine j_iconst X dX0_endsAt_54 ?_
  refine j_iand X dX0_endsAt_55 (z_and3 _) ?_
  refine j_iload X dX0_endsAt_56 rfl ?_
  refine j_iload X dX0_endsAt_58 rfl ?_
  refine cS3i X mf_X0_isCorner ms_X0_isCorner ml_X0_64 (by decide) (Nat.le_of_ble_eq_true rfl) dX0_endsAt_60 (sp_X0_isCorner ⟨by omega, by omega⟩ ⟨by omega, by omega⟩ ⟨by omega, by omega⟩) (fun a_60 w_60 h_60 => ?_)
  obtain ⟨_, _⟩ := h_60
  subst a_60
  subst w_60
  refine s_9 X dX0_endsAt_63 rfl ?_
  have C_82 : ∀ v : Int, v = ib (tx - 2 * lx n k = 1 ∧ ty - 2 * ly n k = 1) → J κ LAY ad 0 0 82 [some (vR 16), some (vI (k : Int)), some (vI (e : Int)), some (vI tx), some (vI ty), some (vI (tx - 2 * lx n k)), some (vI (ty - 2 * ly n k)), some (vI (lq k)), some (vI (ib (isC (lq k) (tx - 2 * lx n k) (ty - 2 * ly n k)))), some (vI (ib (isC ((lq k + 3) % 4) (tx - 2 * lx n k) (ty - 2 * ly n k)))), none] [vI v] w := by
    intro v hv
    subst v
    refine s_10 X dX0_endsAt_82 rfl ?_
    refine j_iload_n X dX0_endsAt_84 rfl ?_
    refine j_if_ne (tgt := 104) X dX0_endsAt_85 (by decide) ⟨by omega, by omega⟩ (fun h_85 => ?_) (fun h_85 => ?_)
    · have he0 : e ≠ 0 := by omega
      refine j_iload X dX0_endsAt_104 rfl ?_
      refine jb_ne (tgt := 127) X dX0_endsAt_106 (by decide) (fun h_106 => ?_) (fun h_106 => ?_)
      · refine j_iconst X dX0_endsAt_127 ?_
        refine j_goto (tgt := 132) X dX0_endsAt_128 (by decide) ?_
        exact j_zreturn X hR dX0_endsAt_132 (by first | exact Or.inl rfl | exact Or.inr rfl | exact ib_01) ⟨(ib_t (Or.inr ⟨he0, Or.inl h_106⟩)).symm, rfl⟩
      · refine j_iload_n X dX0_endsAt_109 rfl ?_
        refine j_iconst X dX0_endsAt_110 ?_
        refine j_icmp_ne (tgt := 122) X dX0_endsAt_111 (by decide) ⟨by omega, by omega⟩ ⟨by omega, by omega⟩ (fun h_111 => ?_) (fun h_111 => ?_)
        · have he1 : e ≠ 1 := by omega
          refine j_iload X dX0_endsAt_122 rfl ?_
          refine jb_eq (tgt := 131) X dX0_endsAt_124 (by decide) (fun h_124 => ?_) (fun h_124 => ?_)
          · refine j_iconst X dX0_endsAt_131 ?_
            exact j_zreturn X hR dX0_endsAt_132 (by first | exact Or.inl rfl | exact Or.inr rfl | exact ib_01) ⟨(ib_f (fun q => by rcases q with ⟨q0, q1⟩ | ⟨q0, q1 | ⟨q1, q2⟩ | ⟨q1, q2⟩⟩; exact he0 q0; exact h_106 q1; exact he1 q1; exact h_124 q2)).symm, rfl⟩
          · refine j_iconst X dX0_endsAt_127 ?_
            refine j_goto (tgt := 132) X dX0_endsAt_128 (by decide) ?_
            exact j_zreturn X hR dX0_endsAt_132 (by first | exact Or.inl rfl | exact Or.inr rfl | exact ib_01) ⟨(ib_t (Or.inr ⟨he0, Or.inr (Or.inr ⟨he1, h_124⟩)⟩)).symm, rfl⟩
        · have he1 : e = 1 := by omega
          refine j_iload X dX0_endsAt_114 rfl ?_
          refine jb_eq (tgt := 131) X dX0_endsAt_116 (by decide) (fun h_116 => ?_) (fun h_116 => ?_)
          · refine j_iconst X dX0_endsAt_131 ?_
            exact j_zreturn X hR dX0_endsAt_132 (by first | exact Or.inl rfl | exact Or.inr rfl | exact ib_01) ⟨(ib_f (fun q => by rcases q with ⟨q0, q1⟩ | ⟨q0, q1 | ⟨q1, q2⟩ | ⟨q1, q2⟩⟩; exact he0 q0; exact h_106 q1; exact h_116 q2; exact q1 he1)).symm, rfl⟩
          · refine j_goto (tgt := 127) X dX0_endsAt_119 (by decide) ?_
            refine j_iconst X dX0_endsAt_127 ?_
            refine j_goto (tgt := 132) X dX0_endsAt_128 (by decide) ?_
            exact j_zreturn X hR dX0_endsAt_132 (by first | exact Or.inl rfl | exact Or.inr rfl | exact ib_01) ⟨(ib_t (Or.inr ⟨he0, Or.inr (Or.inl ⟨he1, h_116⟩)⟩)).symm, rfl⟩
    · have he0 : e = 0 := by omega
      refine j_iload X dX0_endsAt_88 rfl ?_
      refine jb_ne (tgt := 98) X dX0_endsAt_90 (by decide) (fun h_90 => ?_) (fun h_90 => ?_)
      · refine j_iconst X dX0_endsAt_98 ?_
        refine j_goto (tgt := 103) X dX0_endsAt_99 (by decide) ?_
        exact j_zreturn X hR dX0_endsAt_103 (by first | exact Or.inl rfl | exact Or.inr rfl | exact ib_01) ⟨(ib_t (Or.inl ⟨he0, Or.inl h_90⟩)).symm, rfl⟩
      · refine j_iload X dX0_endsAt_93 rfl ?_
        refine jb_eq (tgt := 102) X dX0_endsAt_95 (by decide) (fun h_95 => ?_) (fun h_95 => ?_)
        · refine j_iconst X dX0_endsAt_102 ?_
          exact j_zreturn X hR dX0_endsAt_103 (by first | exact Or.inl rfl | exact Or.inr rfl | exact ib_01) ⟨(ib_f (fun q => by rcases q with ⟨q0, q1 | q1⟩ | ⟨q0, q1⟩; exact h_90 q1; exact h_95 q1; exact q0 he0)).symm, rfl⟩
        · refine j_iconst X dX0_endsAt_98 ?_
          refine j_goto (tgt := 103) X dX0_endsAt_99 (by decide) ?_
          exact j_zreturn X hR dX0_endsAt_103 (by first | exact Or.inl rfl | exact Or.inr rfl | exact ib_01) ⟨(ib_t (Or.inl ⟨he0, Or.inr h_95⟩)).symm, rfl⟩
  refine j_iload X dX0_endsAt_65 rfl ?_
  refine j_iconst X dX0_endsAt_67 ?_
  refine j_icmp_ne (tgt := 81) X dX0_endsAt_68 (by decide) ⟨by omega, by omega⟩ ⟨by omega, by omega⟩ (fun h_68 => ?_) (fun h_68 => ?_)
  · refine j_iconst X dX0_endsAt_81 ?_
    exact C_82 _ (by first | exact (ib_t (by omega)).symm | exact (ib_f (by omega)).symm)
  · refine j_iload X dX0_endsAt_71 rfl ?_
    refine j_iconst X dX0_endsAt_73 ?_
    refine j_icmp_ne (tgt := 81) X dX0_endsAt_74 (by decide) ⟨by omega, by omega⟩ ⟨by omega, by omega⟩ (fun h_74 => ?_) (fun h_74 => ?_)
    · refine j_iconst X dX0_endsAt_81 ?_
      exact C_82 _ (by first | exact (ib_t (by omega)).symm | exact (ib_f (by omega)).symm)
    · refine j_iconst X dX0_endsAt_77 ?_
      refine j_goto (tgt := 82) X dX0_endsAt_78 (by decide) ?_
      exact C_82 _ (by first | exact (ib_t (by omega)).symm | exact (ib_f (by omega)).symm)
