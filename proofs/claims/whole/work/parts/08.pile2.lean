set_option maxHeartbeats 4000000 in
set_option maxRecDepth 20000 in
theorem sp_X4_find {N : Nat} {x y q l : Int} {w : wd} (hn : w 1 4 = (N : Int)) (hp : PlO N w) (hy9 : LyO N w) (hN : N ≤ 144) (hx : rg x) (hy : rg y) (hq : rg q) (hl : rg l) : CalI yX4_find cX4_find 6 .int 3 LAY w [vR 5, vI x, vI y, vI q, vI l] (fun a w' => ((∃ k, k < N ∧ a = (k : Int) ∧ (w 6 k = x ∧ w 7 k = y ∧ w 8 k = q ∧ w 9 k = l) ∧ ∀ j, j < k → ¬ (w 6 j = x ∧ w 7 j = y ∧ w 8 j = q ∧ w 9 j = l)) ∨ (a = -99999 ∧ ∀ j, j < N → ¬ (w 6 j = x ∧ w 7 j = y ∧ w 8 j = q ∧ w 9 j = l))) ∧ w' = w) := by
  refine calI_intro (ls := [some (vR 5), some (vI x), some (vI y), some (vI q), some (vI l), none]) (by decide) (Nat.le_of_ble_eq_true rfl) rfl (fun κ ad X hR => ?_)
  refine j_iconst X dX4_find_0 ?_
  refine s_5 X dX4_find_1 rfl ?_
  have L_3 : ∀ (m : Nat) (k : Nat) (_ : ∀ j, j < k → ¬ (w 6 j = x ∧ w 7 j = y ∧ w 8 j = q ∧ w 9 j = l)) (_ : k ≤ N) (_ : N - k < m), J κ LAY ad 0 0 3 [some (vR 5), some (vI x), some (vI y), some (vI q), some (vI l), some (vI (k : Int))] [] w := by
    intro m
    induction m with
    | zero => intro k hj h1 h2; omega
    | succ m ih3 =>
      intro k hj h1 h2
      refine j_iload X dX4_find_3 rfl ?_
      refine j_aload_n X dX4_find_5 rfl ?_
      refine j_getR X dX4_find_6 ff_X4_44 rfl rfl ?_
      refine j_getI X dX4_find_9 ff_X4_73 rfl rfl ?_
      refine j_icmp_ge (tgt := 65) X dX4_find_12 (by decide) ⟨by omega, by omega⟩ ⟨by omega, by omega⟩ (fun h_12 => ?_) (fun h_12 => ?_)
      · refine j_ldc X dX4_find_65 kc_X4_149 ?_
        exact j_ireturn X hR dX4_find_67 ⟨Or.inr ⟨rfl, fun j h => hj j (by omega)⟩, rfl⟩
      · have hpk := hp k (by omega)
        unfold PlK at hpk
        have hyk := hy9 k (by omega)
        refine j_aload_n X dX4_find_15 rfl ?_
        refine j_iload X dX4_find_16 rfl ?_
        refine cV1i X mf_X4_x mv_X4_x ml_X4_113 (by decide) rfl rfl (Nat.le_of_ble_eq_true rfl) dX4_find_18 (sp_X4_x (by omega)) (fun a_18 w_18 h_18 => ?_)
        obtain ⟨_, _⟩ := h_18
        subst a_18
        subst w_18
        refine j_iload_n X dX4_find_21 rfl ?_
        refine j_icmp_ne (tgt := 59) X dX4_find_22 (by decide) ⟨by omega, by omega⟩ ⟨by omega, by omega⟩ (fun h_22 => ?_) (fun h_22 => ?_)
        · refine inc_5 X dX4_find_59 rfl ?_
          refine j_goto (tgt := 3) X dX4_find_62 (by decide) ?_
          exact ih3 (k + 1) (fun j h => by rcases Nat.lt_succ_iff_lt_or_eq.mp h with q1 | q1; exact hj j q1; subst q1; omega) (by omega) (by omega)
        · refine j_aload_n X dX4_find_25 rfl ?_
          refine j_iload X dX4_find_26 rfl ?_
          refine cV1i X mf_X4_y mv_X4_y ml_X4_114 (by decide) rfl rfl (Nat.le_of_ble_eq_true rfl) dX4_find_28 (sp_X4_y (by omega)) (fun a_28 w_28 h_28 => ?_)
          obtain ⟨_, _⟩ := h_28
          subst a_28
          subst w_28
          refine j_iload_n X dX4_find_31 rfl ?_
          refine j_icmp_ne (tgt := 59) X dX4_find_32 (by decide) ⟨by omega, by omega⟩ ⟨by omega, by omega⟩ (fun h_32 => ?_) (fun h_32 => ?_)
          · refine inc_5 X dX4_find_59 rfl ?_
            refine j_goto (tgt := 3) X dX4_find_62 (by decide) ?_
            exact ih3 (k + 1) (fun j h => by rcases Nat.lt_succ_iff_lt_or_eq.mp h with q1 | q1; exact hj j q1; subst q1; omega) (by omega) (by omega)
          · refine j_aload_n X dX4_find_35 rfl ?_
            refine j_iload X dX4_find_36 rfl ?_
            refine cV1i X mf_X4_quarter mv_X4_quarter ml_X4_122 (by decide) rfl rfl (Nat.le_of_ble_eq_true rfl) dX4_find_38 (sp_X4_quarter (by omega)) (fun a_38 w_38 h_38 => ?_)
            obtain ⟨_, _⟩ := h_38
            subst a_38
            subst w_38
            refine j_iload_n X dX4_find_41 rfl ?_
            refine j_icmp_ne (tgt := 59) X dX4_find_42 (by decide) ⟨by omega, by omega⟩ ⟨by omega, by omega⟩ (fun h_42 => ?_) (fun h_42 => ?_)
            · refine inc_5 X dX4_find_59 rfl ?_
              refine j_goto (tgt := 3) X dX4_find_62 (by decide) ?_
              exact ih3 (k + 1) (fun j h => by rcases Nat.lt_succ_iff_lt_or_eq.mp h with q1 | q1; exact hj j q1; subst q1; omega) (by omega) (by omega)
            · refine j_aload_n X dX4_find_45 rfl ?_
              refine j_iload X dX4_find_46 rfl ?_
              refine cV1i X mf_X4_layer mv_X4_layer ml_X4_110 (by decide) rfl rfl (Nat.le_of_ble_eq_true rfl) dX4_find_48 (sp_X4_layer (by omega)) (fun a_48 w_48 h_48 => ?_)
              obtain ⟨_, _⟩ := h_48
              subst a_48
              subst w_48
              refine j_iload X dX4_find_51 rfl ?_
              refine j_icmp_ne (tgt := 59) X dX4_find_53 (by decide) ⟨by omega, by omega⟩ ⟨by omega, by omega⟩ (fun h_53 => ?_) (fun h_53 => ?_)
              · refine inc_5 X dX4_find_59 rfl ?_
                refine j_goto (tgt := 3) X dX4_find_62 (by decide) ?_
                exact ih3 (k + 1) (fun j h => by rcases Nat.lt_succ_iff_lt_or_eq.mp h with q1 | q1; exact hj j q1; subst q1; omega) (by omega) (by omega)
              · refine j_iload X dX4_find_56 rfl ?_
                exact j_ireturn X hR dX4_find_58 ⟨Or.inl ⟨k, by omega, rfl, by omega, hj⟩, rfl⟩
  exact L_3 (N + 1) 0 (fun j h => absurd h (Nat.not_lt_zero j)) (by omega) (by omega)
set_option maxHeartbeats 4000000 in
set_option maxRecDepth 20000 in
theorem sp_X4_taken {N : Nat} {w : wd} (hn : w 1 4 = (N : Int)) (hp : LyO N w) (hN : N ≤ 144) : CalI yX4_taken cX4_taken 3 .int 3 LAY w [vR 5] (fun a w' => a = sm (fun k => ib (w 9 k = 0)) N ∧ w' = w) := by
  refine calI_intro (ls := [some (vR 5), none, none]) (by decide) (Nat.le_of_ble_eq_true rfl) rfl (fun κ ad X hR => ?_)
  refine j_iconst X dX4_taken_0 ?_
  refine s_1 X dX4_taken_1 rfl ?_
  refine j_iconst X dX4_taken_2 ?_
  refine s_2 X dX4_taken_3 rfl ?_
  have L_4 : ∀ (m : Nat) (k : Nat) (c : Int) (_ : c = sm (fun k => ib (w 9 k = 0)) k) (_ : k ≤ N) (_ : N - k < m), J κ LAY ad 0 0 4 [some (vR 5), some (vI c), some (vI (k : Int))] [] w := by
    intro m
    induction m with
    | zero => intro k c hc h1 h2; omega
    | succ m ih4 =>
      intro k c hc h1 h2
      refine j_iload_n X dX4_taken_4 rfl ?_
      refine j_aload_n X dX4_taken_5 rfl ?_
      refine j_getR X dX4_taken_6 ff_X4_44 rfl rfl ?_
      refine j_getI X dX4_taken_9 ff_X4_73 rfl rfl ?_
      refine j_icmp_ge (tgt := 40) X dX4_taken_12 (by decide) ⟨by omega, by omega⟩ ⟨by omega, by omega⟩ (fun h_12 => ?_) (fun h_12 => ?_)
      · refine j_iload_n X dX4_taken_40 rfl ?_
        exact j_ireturn X hR dX4_taken_41 ⟨by rw [hc, show k = N by omega], rfl⟩
      · have hpk := hp k (by omega)
        refine j_iload_n X dX4_taken_15 rfl ?_
        refine j_aload_n X dX4_taken_16 rfl ?_
        refine j_iload_n X dX4_taken_17 rfl ?_
        refine cV1i X mf_X4_layer mv_X4_layer ml_X4_110 (by decide) rfl rfl (Nat.le_of_ble_eq_true rfl) dX4_taken_18 (sp_X4_layer (by omega)) (fun a_18 w_18 h_18 => ?_)
        obtain ⟨_, _⟩ := h_18
        subst a_18
        subst w_18
        refine j_if_ne (tgt := 28) X dX4_taken_21 (by decide) ⟨by omega, by omega⟩ (fun h_21 => ?_) (fun h_21 => ?_)
        · refine j_iconst X dX4_taken_28 ?_
          refine cS1i X mf_X9_yes ms_X9_yes ml_X4_61 (by decide) (Nat.le_of_ble_eq_true rfl) dX4_taken_29 (sp_X9_yes (by first | exact Or.inr rfl | exact Or.inl rfl | exact ib_01)) (fun a_29 w_29 h_29 => ?_)
          obtain ⟨_, _⟩ := h_29
          subst a_29
          subst w_29
          refine j_iadd X dX4_taken_32 ?_
          refine s_1 X dX4_taken_33 rfl ?_
          refine inc_2 X dX4_taken_34 rfl ?_
          refine j_goto (tgt := 4) X dX4_taken_37 (by decide) ?_
          exact ih4 (k + 1) _ (by rw [sm_s, hc, ib_f (by assumption)]) (by omega) (by omega)
        · refine j_iconst X dX4_taken_24 ?_
          refine j_goto (tgt := 29) X dX4_taken_25 (by decide) ?_
          refine cS1i X mf_X9_yes ms_X9_yes ml_X4_61 (by decide) (Nat.le_of_ble_eq_true rfl) dX4_taken_29 (sp_X9_yes (by first | exact Or.inr rfl | exact Or.inl rfl | exact ib_01)) (fun a_29 w_29 h_29 => ?_)
          obtain ⟨_, _⟩ := h_29
          subst a_29
          subst w_29
          refine j_iadd X dX4_taken_32 ?_
          refine s_1 X dX4_taken_33 rfl ?_
          refine inc_2 X dX4_taken_34 rfl ?_
          refine j_goto (tgt := 4) X dX4_taken_37 (by decide) ?_
          exact ih4 (k + 1) _ (by rw [sm_s, hc, ib_t (by omega)]) (by omega) (by omega)
  exact L_4 (N + 1) 0 0 rfl (by omega) (by omega)
set_option maxHeartbeats 4000000 in
set_option maxRecDepth 20000 in
theorem sp_X4_turnedDown {N : Nat} {w : wd} (hn : w 1 4 = (N : Int)) (hp : PlO N w) (hN : N ≤ 144) : CalI yX4_turnedDown cX4_turnedDown 3 .int 3 LAY w [vR 5] (fun a w' => a = sm (fun k => ib (¬ w 10 k = 1)) N ∧ w' = w) := by
  refine calI_intro (ls := [some (vR 5), none, none]) (by decide) (Nat.le_of_ble_eq_true rfl) rfl (fun κ ad X hR => ?_)
  refine j_iconst X dX4_turnedDown_0 ?_
  refine s_1 X dX4_turnedDown_1 rfl ?_
  refine j_iconst X dX4_turnedDown_2 ?_
  refine s_2 X dX4_turnedDown_3 rfl ?_
  have L_4 : ∀ (m : Nat) (k : Nat) (c : Int) (_ : c = sm (fun k => ib (¬ w 10 k = 1)) k) (_ : k ≤ N) (_ : N - k < m), J κ LAY ad 0 0 4 [some (vR 5), some (vI c), some (vI (k : Int))] [] w := by
    intro m
    induction m with
    | zero => intro k c hc h1 h2; omega
    | succ m ih4 =>
      intro k c hc h1 h2
      refine j_iload_n X dX4_turnedDown_4 rfl ?_
      refine j_aload_n X dX4_turnedDown_5 rfl ?_
      refine j_getR X dX4_turnedDown_6 ff_X4_44 rfl rfl ?_
      refine j_getI X dX4_turnedDown_9 ff_X4_73 rfl rfl ?_
      refine j_icmp_ge (tgt := 40) X dX4_turnedDown_12 (by decide) ⟨by omega, by omega⟩ ⟨by omega, by omega⟩ (fun h_12 => ?_) (fun h_12 => ?_)
      · refine j_iload_n X dX4_turnedDown_40 rfl ?_
        exact j_ireturn X hR dX4_turnedDown_41 ⟨by rw [hc, show k = N by omega], rfl⟩
      · refine j_iload_n X dX4_turnedDown_15 rfl ?_
        refine j_aload_n X dX4_turnedDown_16 rfl ?_
        refine j_iload_n X dX4_turnedDown_17 rfl ?_
        refine cV1i X mf_X4_isUp mv_X4_isUp ml_X4_127 (by decide) rfl rfl (Nat.le_of_ble_eq_true rfl) dX4_turnedDown_18 (sp_X4_isUp (by omega) (hp k (by omega)).2.2.2) (fun a_18 w_18 h_18 => ?_)
        obtain ⟨_, _⟩ := h_18
        subst a_18
        subst w_18
        refine jb_ne (tgt := 28) X dX4_turnedDown_21 (by decide) (fun h_21 => ?_) (fun h_21 => ?_)
        · refine j_iconst X dX4_turnedDown_28 ?_
          refine cS1i X mf_X9_yes ms_X9_yes ml_X4_61 (by decide) (Nat.le_of_ble_eq_true rfl) dX4_turnedDown_29 (sp_X9_yes (by first | exact Or.inr rfl | exact Or.inl rfl | exact ib_01)) (fun a_29 w_29 h_29 => ?_)
          obtain ⟨_, _⟩ := h_29
          subst a_29
          subst w_29
          refine j_iadd X dX4_turnedDown_32 ?_
          refine s_1 X dX4_turnedDown_33 rfl ?_
          refine inc_2 X dX4_turnedDown_34 rfl ?_
          refine j_goto (tgt := 4) X dX4_turnedDown_37 (by decide) ?_
          exact ih4 (k + 1) _ (by rw [sm_s, hc, ib_f (by omega)]) (by omega) (by omega)
        · refine j_iconst X dX4_turnedDown_24 ?_
          refine j_goto (tgt := 29) X dX4_turnedDown_25 (by decide) ?_
          refine cS1i X mf_X9_yes ms_X9_yes ml_X4_61 (by decide) (Nat.le_of_ble_eq_true rfl) dX4_turnedDown_29 (sp_X9_yes (by first | exact Or.inr rfl | exact Or.inl rfl | exact ib_01)) (fun a_29 w_29 h_29 => ?_)
          obtain ⟨_, _⟩ := h_29
          subst a_29
          subst w_29
          refine j_iadd X dX4_turnedDown_32 ?_
          refine s_1 X dX4_turnedDown_33 rfl ?_
          refine inc_2 X dX4_turnedDown_34 rfl ?_
          refine j_goto (tgt := 4) X dX4_turnedDown_37 (by decide) ?_
          exact ih4 (k + 1) _ (by rw [sm_s, hc, ib_t (by assumption)]) (by omega) (by omega)
  exact L_4 (N + 1) 0 0 rfl (by omega) (by omega)
def mxf (f : Nat → Int) (n : Nat) : Int := match n with
  | 0 => 0
  | k + 1 => max (mxf f k) (f k)
theorem mxf_s (f : Nat → Int) (n : Nat) : mxf f (n + 1) = max (mxf f n) (f n) := rfl
theorem mxf_b {f : Nat → Int} {B : Int} : ∀ n, (∀ k, k < n → f k ≤ B) → 0 ≤ B → 0 ≤ mxf f n ∧ mxf f n ≤ B
  | 0, _, hB => ⟨Int.le_refl _, hB⟩
  | n + 1, h, hB => by
    have h1 := mxf_b n (fun k hk => h k (by omega)) hB
    have h2 := h n (by omega)
    rw [mxf_s]
    omega
/-- heights are small numbers -/
def HtO (w : wd) : Prop := ∀ s, s < 1024 → 0 ≤ w 11 s ∧ w 11 s ≤ 144
theorem HtO.ow {w : wd} (h : HtO w) (k : Nat) : 0 ≤ w 11 (psp w k).toNat ∧ w 11 (psp w k).toNat ≤ 144 := h _ (by have := spot_lt (w 6 k) (w 7 k) (w 8 k); unfold psp; omega)
theorem HtO.mr {w : wd} (h : HtO w) (sort l : Int) (k : Nat) : 0 ≤ w 11 (msp sort l w k).toNat ∧ w 11 (msp sort l w k).toNat ≤ 144 := h _ (by have := spot_lt (mirX sort l (w 6 k) (w 7 k)) (mirY sort l (w 6 k) (w 7 k)) (mirQ sort (w 8 k)); unfold msp; omega)
set_option maxHeartbeats 4000000 in
set_option maxRecDepth 20000 in
theorem sp_X4_highest {N : Nat} {w : wd} (hn : w 1 4 = (N : Int)) (hh : HtO w) (hN : N ≤ 144) : CalI yX4_highest cX4_highest 3 .int 4 LAY w [vR 5] (fun a w' => a = mxf (fun k => w 11 (psp w k).toNat) N ∧ w' = w) := by
  refine calI_intro (ls := [some (vR 5), none, none]) (by decide) (Nat.le_of_ble_eq_true rfl) rfl (fun κ ad X hR => ?_)
  refine j_iconst X dX4_highest_0 ?_
  refine s_1 X dX4_highest_1 rfl ?_
  refine j_iconst X dX4_highest_2 ?_
  refine s_2 X dX4_highest_3 rfl ?_
  have L_4 : ∀ (m : Nat) (k : Nat) (c : Int) (_ : c = mxf (fun k => w 11 (psp w k).toNat) k) (_ : k ≤ N) (_ : N - k < m), J κ LAY ad 0 0 4 [some (vR 5), some (vI c), some (vI (k : Int))] [] w := by
    intro m
    induction m with
    | zero => intro k c hc h1 h2; omega
    | succ m ih4 =>
      intro k c hc h1 h2
      have hb := mxf_b (f := fun k => w 11 (psp w k).toNat) (B := 144) k (fun j _ => (hh.ow j).2) (by decide)
      have ha := hh.ow k
      refine j_iload_n X dX4_highest_4 rfl ?_
      refine j_aload_n X dX4_highest_5 rfl ?_
      refine j_getR X dX4_highest_6 ff_X4_44 rfl rfl ?_
      refine j_getI X dX4_highest_9 ff_X4_73 rfl rfl ?_
      refine j_icmp_ge (tgt := 31) X dX4_highest_12 (by decide) ⟨by omega, by omega⟩ ⟨by omega, by omega⟩ (fun h_12 => ?_) (fun h_12 => ?_)
      · refine j_iload_n X dX4_highest_31 rfl ?_
        exact j_ireturn X hR dX4_highest_32 ⟨by rw [hc, show k = N by omega], rfl⟩
      · refine j_iload_n X dX4_highest_15 rfl ?_
        refine j_aload_n X dX4_highest_16 rfl ?_
        refine j_iload_n X dX4_highest_17 rfl ?_
        refine cV1i X mf_X4_heightOver mv_X4_heightOver ml_X4_107 (by decide) rfl rfl (Nat.le_of_ble_eq_true rfl) dX4_highest_18 (sp_X4_heightOver (by omega)) (fun a_18 w_18 h_18 => ?_)
        obtain ⟨_, _⟩ := h_18
        subst a_18
        subst w_18
        refine j_mmax X csOk_0 mt_X4_150 (by decide) (Nat.le_of_ble_eq_true rfl) dX4_highest_21 ⟨by omega, by omega⟩ ⟨by omega, by omega⟩ ?_
        refine s_1 X dX4_highest_24 rfl ?_
        refine inc_2 X dX4_highest_25 rfl ?_
        refine j_goto (tgt := 4) X dX4_highest_28 (by decide) ?_
        exact ih4 (k + 1) _ (by rw [mxf_s, hc]) (by omega) (by omega)
  exact L_4 (N + 1) 0 0 rfl (by omega) (by omega)
set_option maxHeartbeats 4000000 in
set_option maxRecDepth 20000 in
theorem sp_X4_heightOn {N : Nat} {sort l : Int} {w : wd} (hn : w 1 4 = (N : Int)) (hp : PlO N w) (hh : HtO w) (hN : N ≤ 144) (hs : rg sort) (hl : rg l) : CalI yX4_heightOn cX4_heightOn 5 .int 4 LAY w [vR 5, vI sort, vI l] (fun a w' => a = mxf (fun k => if touch sort l (w 6 k) (w 7 k) (w 8 k) then w 11 (psp w k).toNat else 0) N ∧ w' = w) := by
  refine calI_intro (ls := [some (vR 5), some (vI sort), some (vI l), none, none]) (by decide) (Nat.le_of_ble_eq_true rfl) rfl (fun κ ad X hR => ?_)
  refine j_iconst X dX4_heightOn_0 ?_
  refine s_3 X dX4_heightOn_1 rfl ?_
  refine j_iconst X dX4_heightOn_2 ?_
  refine s_4 X dX4_heightOn_3 rfl ?_
  have L_5 : ∀ (m : Nat) (k : Nat) (c : Int) (_ : c = mxf (fun k => if touch sort l (w 6 k) (w 7 k) (w 8 k) then w 11 (psp w k).toNat else 0) k) (_ : k ≤ N) (_ : N - k < m), J κ LAY ad 0 0 5 [some (vR 5), some (vI sort), some (vI l), some (vI c), some (vI (k : Int))] [] w := by
    intro m
    induction m with
    | zero => intro k c hc h1 h2; omega
    | succ m ih5 =>
      intro k c hc h1 h2
      have hb := mxf_b (f := fun k => if touch sort l (w 6 k) (w 7 k) (w 8 k) then w 11 (psp w k).toNat else 0) (B := 144) k (fun j _ => by split; exact (hh.ow j).2; decide) (by decide)
      have ha := hh.ow k
      refine j_iload X dX4_heightOn_5 rfl ?_
      refine j_aload_n X dX4_heightOn_7 rfl ?_
      refine j_getR X dX4_heightOn_8 ff_X4_44 rfl rfl ?_
      refine j_getI X dX4_heightOn_11 ff_X4_73 rfl rfl ?_
      refine j_icmp_ge (tgt := 60) X dX4_heightOn_14 (by decide) ⟨by omega, by omega⟩ ⟨by omega, by omega⟩ (fun h_14 => ?_) (fun h_14 => ?_)
      · refine j_iload_n X dX4_heightOn_60 rfl ?_
        exact j_ireturn X hR dX4_heightOn_61 ⟨by rw [hc, show k = N by omega], rfl⟩
      · have hpk := hp k (by omega)
        unfold PlK at hpk
        refine j_iload_n X dX4_heightOn_17 rfl ?_
        refine j_iload_n X dX4_heightOn_18 rfl ?_
        refine j_aload_n X dX4_heightOn_19 rfl ?_
        refine j_iload X dX4_heightOn_20 rfl ?_
        refine cV1i X mf_X4_x mv_X4_x ml_X4_113 (by decide) rfl rfl (Nat.le_of_ble_eq_true rfl) dX4_heightOn_22 (sp_X4_x (by omega)) (fun a_22 w_22 h_22 => ?_)
        obtain ⟨_, _⟩ := h_22
        subst a_22
        subst w_22
        refine j_aload_n X dX4_heightOn_25 rfl ?_
        refine j_iload X dX4_heightOn_26 rfl ?_
        refine cV1i X mf_X4_y mv_X4_y ml_X4_114 (by decide) rfl rfl (Nat.le_of_ble_eq_true rfl) dX4_heightOn_28 (sp_X4_y (by omega)) (fun a_28 w_28 h_28 => ?_)
        obtain ⟨_, _⟩ := h_28
        subst a_28
        subst w_28
        refine j_aload_n X dX4_heightOn_31 rfl ?_
        refine j_iload X dX4_heightOn_32 rfl ?_
        refine cV1i X mf_X4_quarter mv_X4_quarter ml_X4_122 (by decide) rfl rfl (Nat.le_of_ble_eq_true rfl) dX4_heightOn_34 (sp_X4_quarter (by omega)) (fun a_34 w_34 h_34 => ?_)
        obtain ⟨_, _⟩ := h_34
        subst a_34
        subst w_34
        refine cS5i X mf_X3_touches ms_X3_touches ml_X4_155 (by decide) (Nat.le_of_ble_eq_true rfl) dX4_heightOn_37 (sp_X3_touches hs hl ⟨by omega, by omega⟩ ⟨by omega, by omega⟩ ⟨by omega, by omega⟩) (fun a_37 w_37 h_37 => ?_)
        obtain ⟨_, _⟩ := h_37
        subst a_37
        subst w_37
        refine jb_eq (tgt := 54) X dX4_heightOn_40 (by decide) (fun h_40 => ?_) (fun h_40 => ?_)
        · refine inc_4 X dX4_heightOn_54 rfl ?_
          refine j_goto (tgt := 5) X dX4_heightOn_57 (by decide) ?_
          exact ih5 (k + 1) _ (by rw [mxf_s, if_neg h_40, ← hc]; omega) (by omega) (by omega)
        · refine j_iload_n X dX4_heightOn_43 rfl ?_
          refine j_aload_n X dX4_heightOn_44 rfl ?_
          refine j_iload X dX4_heightOn_45 rfl ?_
          refine cV1i X mf_X4_heightOver mv_X4_heightOver ml_X4_107 (by decide) rfl rfl (Nat.le_of_ble_eq_true rfl) dX4_heightOn_47 (sp_X4_heightOver (by omega)) (fun a_47 w_47 h_47 => ?_)
          obtain ⟨_, _⟩ := h_47
          subst a_47
          subst w_47
          refine j_mmax X csOk_0 mt_X4_150 (by decide) (Nat.le_of_ble_eq_true rfl) dX4_heightOn_50 ⟨by omega, by omega⟩ ⟨by omega, by omega⟩ ?_
          refine s_3 X dX4_heightOn_53 rfl ?_
          refine inc_4 X dX4_heightOn_54 rfl ?_
          refine j_goto (tgt := 5) X dX4_heightOn_57 (by decide) ?_
          exact ih5 (k + 1) _ (by rw [mxf_s, if_pos h_40, ← hc]) (by omega) (by omega)
  exact L_5 (N + 1) 0 0 rfl (by omega) (by omega)
def mnA (f : Nat → Int) (n : Nat) : Int := match n with
  | 0 => f 0
  | k + 1 => min (mnA f k) (f (k + 1))
def mxA (f : Nat → Int) (n : Nat) : Int := match n with
  | 0 => f 0
  | k + 1 => max (mxA f k) (f (k + 1))
theorem mnA_b {f : Nat → Int} {B : Int} : ∀ n, (∀ k, k ≤ n → -B ≤ f k ∧ f k ≤ B) → -B ≤ mnA f n ∧ mnA f n ≤ B
  | 0, h => h 0 (Nat.le_refl 0)
  | n + 1, h => by
    have h1 := mnA_b n (fun k hk => h k (by omega))
    have h2 := h (n + 1) (Nat.le_refl _)
    show -B ≤ min _ _ ∧ min _ _ ≤ B
    omega
theorem mxA_b {f : Nat → Int} {B : Int} : ∀ n, (∀ k, k ≤ n → -B ≤ f k ∧ f k ≤ B) → -B ≤ mxA f n ∧ mxA f n ≤ B
  | 0, h => h 0 (Nat.le_refl 0)
  | n + 1, h => by
    have h1 := mxA_b n (fun k hk => h k (by omega))
    have h2 := h (n + 1) (Nat.le_refl _)
    show -B ≤ max _ _ ∧ max _ _ ≤ B
    omega
set_option maxHeartbeats 4000000 in
set_option maxRecDepth 20000 in
theorem sp_X4_least {o N : Nat} {w : wd} (hn : w 1 4 = (N : Int)) (hN : N ≤ 144) (hN1 : 1 ≤ N) (hl : LAY[o]? = some (.inr (false, 144))) (hr : ∀ k, k < N → -300 ≤ w o k ∧ w o k ≤ 300) : CalI yX4_least cX4_least 4 .int 2 LAY w [vR 5, vR o] (fun a w' => a = mnA (w o) (N - 1) ∧ w' = w) := by
  refine calI_intro (ls := [some (vR 5), some (vR o), none, none]) (by decide) (Nat.le_of_ble_eq_true rfl) rfl (fun κ ad X hR => ?_)
  refine j_aload_n X dX4_least_0 rfl ?_
  refine j_iconst X dX4_least_1 ?_
  refine cS2i X mf_X5_get ms_X5_get ml_X4_69 (by decide) (Nat.le_of_ble_eq_true rfl) dX4_least_2 (sp_getk (k := 0) hl (by decide) (by decide)) (fun a_2 w_2 h_2 => ?_)
  obtain ⟨_, _⟩ := h_2
  subst a_2
  subst w_2
  refine s_2 X dX4_least_5 rfl ?_
  refine j_iconst X dX4_least_6 ?_
  refine s_3 X dX4_least_7 rfl ?_
  have L_8 : ∀ (m : Nat) (k : Nat) (c : Int) (_ : c = mnA (w o) (k - 1)) (_ : 1 ≤ k ∧ k ≤ N) (_ : N - k < m), J κ LAY ad 0 0 8 [some (vR 5), some (vR o), some (vI c), some (vI (k : Int))] [] w := by
    intro m
    induction m with
    | zero => intro k c hc h1 h2; omega
    | succ m ih8 =>
      intro k c hc h1 h2
      have hb := mnA_b (f := w o) (B := 300) (k - 1) (fun j hj => hr j (by omega))
      refine j_iload_n X dX4_least_8 rfl ?_
      refine j_aload_n X dX4_least_9 rfl ?_
      refine j_getR X dX4_least_10 ff_X4_44 rfl rfl ?_
      refine j_getI X dX4_least_13 ff_X4_73 rfl rfl ?_
      refine j_icmp_ge (tgt := 35) X dX4_least_16 (by decide) ⟨by omega, by omega⟩ ⟨by omega, by omega⟩ (fun h_16 => ?_) (fun h_16 => ?_)
      · refine j_iload_n X dX4_least_35 rfl ?_
        exact j_ireturn X hR dX4_least_36 ⟨by rw [hc, show k - 1 = N - 1 by omega], rfl⟩
      · have hk9 := hr k (by omega)
        refine j_iload_n X dX4_least_19 rfl ?_
        refine j_aload_n X dX4_least_20 rfl ?_
        refine j_iload_n X dX4_least_21 rfl ?_
        refine cS2i X mf_X5_get ms_X5_get ml_X4_69 (by decide) (Nat.le_of_ble_eq_true rfl) dX4_least_22 (sp_getk hl (by decide) (by omega)) (fun a_22 w_22 h_22 => ?_)
        obtain ⟨_, _⟩ := h_22
        subst a_22
        subst w_22
        refine j_mmin X csOk_0 mt_X4_166 (by decide) (Nat.le_of_ble_eq_true rfl) dX4_least_25 ⟨by omega, by omega⟩ ⟨by omega, by omega⟩ ?_
        refine s_2 X dX4_least_28 rfl ?_
        refine inc_3 X dX4_least_29 rfl ?_
        refine j_goto (tgt := 8) X dX4_least_32 (by decide) ?_
        exact ih8 (k + 1) _ (by rw [hc, show k + 1 - 1 = (k - 1) + 1 by omega]; show _ = min _ _; rw [show k - 1 + 1 = k by omega]) (by omega) (by omega)
  exact L_8 (N + 1) 1 (w o 0) rfl (by omega) (by omega)
set_option maxHeartbeats 4000000 in
set_option maxRecDepth 20000 in
theorem sp_X4_greatest {o N : Nat} {w : wd} (hn : w 1 4 = (N : Int)) (hN : N ≤ 144) (hN1 : 1 ≤ N) (hl : LAY[o]? = some (.inr (false, 144))) (hr : ∀ k, k < N → -300 ≤ w o k ∧ w o k ≤ 300) : CalI yX4_greatest cX4_greatest 4 .int 2 LAY w [vR 5, vR o] (fun a w' => a = mxA (w o) (N - 1) ∧ w' = w) := by
  refine calI_intro (ls := [some (vR 5), some (vR o), none, none]) (by decide) (Nat.le_of_ble_eq_true rfl) rfl (fun κ ad X hR => ?_)
  refine j_aload_n X dX4_greatest_0 rfl ?_
  refine j_iconst X dX4_greatest_1 ?_
  refine cS2i X mf_X5_get ms_X5_get ml_X4_69 (by decide) (Nat.le_of_ble_eq_true rfl) dX4_greatest_2 (sp_getk (k := 0) hl (by decide) (by decide)) (fun a_2 w_2 h_2 => ?_)
  obtain ⟨_, _⟩ := h_2
  subst a_2
  subst w_2
  refine s_2 X dX4_greatest_5 rfl ?_
  refine j_iconst X dX4_greatest_6 ?_
  refine s_3 X dX4_greatest_7 rfl ?_
  have L_8 : ∀ (m : Nat) (k : Nat) (c : Int) (_ : c = mxA (w o) (k - 1)) (_ : 1 ≤ k ∧ k ≤ N) (_ : N - k < m), J κ LAY ad 0 0 8 [some (vR 5), some (vR o), some (vI c), some (vI (k : Int))] [] w := by
    intro m
    induction m with
    | zero => intro k c hc h1 h2; omega
    | succ m ih8 =>
      intro k c hc h1 h2
      have hb := mxA_b (f := w o) (B := 300) (k - 1) (fun j hj => hr j (by omega))
      refine j_iload_n X dX4_greatest_8 rfl ?_
      refine j_aload_n X dX4_greatest_9 rfl ?_
      refine j_getR X dX4_greatest_10 ff_X4_44 rfl rfl ?_
      refine j_getI X dX4_greatest_13 ff_X4_73 rfl rfl ?_
      refine j_icmp_ge (tgt := 35) X dX4_greatest_16 (by decide) ⟨by omega, by omega⟩ ⟨by omega, by omega⟩ (fun h_16 => ?_) (fun h_16 => ?_)
      · refine j_iload_n X dX4_greatest_35 rfl ?_
        exact j_ireturn X hR dX4_greatest_36 ⟨by rw [hc, show k - 1 = N - 1 by omega], rfl⟩
      · have hk9 := hr k (by omega)
        refine j_iload_n X dX4_greatest_19 rfl ?_
        refine j_aload_n X dX4_greatest_20 rfl ?_
        refine j_iload_n X dX4_greatest_21 rfl ?_
        refine cS2i X mf_X5_get ms_X5_get ml_X4_69 (by decide) (Nat.le_of_ble_eq_true rfl) dX4_greatest_22 (sp_getk hl (by decide) (by omega)) (fun a_22 w_22 h_22 => ?_)
        obtain ⟨_, _⟩ := h_22
        subst a_22
        subst w_22
        refine j_mmax X csOk_0 mt_X4_150 (by decide) (Nat.le_of_ble_eq_true rfl) dX4_greatest_25 ⟨by omega, by omega⟩ ⟨by omega, by omega⟩ ?_
        refine s_2 X dX4_greatest_28 rfl ?_
        refine inc_3 X dX4_greatest_29 rfl ?_
        refine j_goto (tgt := 8) X dX4_greatest_32 (by decide) ?_
        exact ih8 (k + 1) _ (by rw [hc, show k + 1 - 1 = (k - 1) + 1 by omega]; show _ = max _ _; rw [show k - 1 + 1 = k by omega]) (by omega) (by omega)
  exact L_8 (N + 1) 1 (w o 0) rfl (by omega) (by omega)
set_option maxHeartbeats 4000000 in
set_option maxRecDepth 20000 in
theorem sp_X4_leastX {N : Nat} {w : wd} (hn : w 1 4 = (N : Int)) (hp : PlO N w) (hN : N ≤ 144) (hN1 : 1 ≤ N) : CalI yX4_leastX cX4_leastX 1 .int 3 LAY w [vR 5] (fun a w' => a = mnA (w 6) (N - 1) ∧ w' = w) := by
  refine calI_intro (ls := [some (vR 5)]) (by decide) (Nat.le_of_ble_eq_true rfl) rfl (fun κ ad X hR => ?_)
  refine j_aload_n X dX4_leastX_0 rfl ?_
  refine j_aload_n X dX4_leastX_1 rfl ?_
  refine j_getR X dX4_leastX_2 ff_X4_9 rfl rfl ?_
  refine cV1i X mf_X4_least mv_X4_least ml_X4_159 (by decide) rfl rfl (Nat.le_of_ble_eq_true rfl) dX4_leastX_5 (sp_X4_least hn hN hN1 rfl (fun k hk => (hp k hk).1)) (fun a_5 w_5 h_5 => ?_)
  obtain ⟨_, _⟩ := h_5
  subst a_5
  subst w_5
  exact j_ireturn X hR dX4_leastX_8 ⟨rfl, rfl⟩
set_option maxHeartbeats 4000000 in
set_option maxRecDepth 20000 in
theorem sp_X4_greatestX {N : Nat} {w : wd} (hn : w 1 4 = (N : Int)) (hp : PlO N w) (hN : N ≤ 144) (hN1 : 1 ≤ N) : CalI yX4_greatestX cX4_greatestX 1 .int 3 LAY w [vR 5] (fun a w' => a = mxA (w 6) (N - 1) ∧ w' = w) := by
  refine calI_intro (ls := [some (vR 5)]) (by decide) (Nat.le_of_ble_eq_true rfl) rfl (fun κ ad X hR => ?_)
  refine j_aload_n X dX4_greatestX_0 rfl ?_
  refine j_aload_n X dX4_greatestX_1 rfl ?_
  refine j_getR X dX4_greatestX_2 ff_X4_9 rfl rfl ?_
  refine cV1i X mf_X4_greatest mv_X4_greatest ml_X4_163 (by decide) rfl rfl (Nat.le_of_ble_eq_true rfl) dX4_greatestX_5 (sp_X4_greatest hn hN hN1 rfl (fun k hk => (hp k hk).1)) (fun a_5 w_5 h_5 => ?_)
  obtain ⟨_, _⟩ := h_5
  subst a_5
  subst w_5
  exact j_ireturn X hR dX4_greatestX_8 ⟨rfl, rfl⟩
set_option maxHeartbeats 4000000 in
set_option maxRecDepth 20000 in
theorem sp_X4_leastY {N : Nat} {w : wd} (hn : w 1 4 = (N : Int)) (hp : PlO N w) (hN : N ≤ 144) (hN1 : 1 ≤ N) : CalI yX4_leastY cX4_leastY 1 .int 3 LAY w [vR 5] (fun a w' => a = mnA (w 7) (N - 1) ∧ w' = w) := by
  refine calI_intro (ls := [some (vR 5)]) (by decide) (Nat.le_of_ble_eq_true rfl) rfl (fun κ ad X hR => ?_)
  refine j_aload_n X dX4_leastY_0 rfl ?_
  refine j_aload_n X dX4_leastY_1 rfl ?_
  refine j_getR X dX4_leastY_2 ff_X4_15 rfl rfl ?_
  refine cV1i X mf_X4_least mv_X4_least ml_X4_159 (by decide) rfl rfl (Nat.le_of_ble_eq_true rfl) dX4_leastY_5 (sp_X4_least hn hN hN1 rfl (fun k hk => (hp k hk).2.1)) (fun a_5 w_5 h_5 => ?_)
  obtain ⟨_, _⟩ := h_5
  subst a_5
  subst w_5
  exact j_ireturn X hR dX4_leastY_8 ⟨rfl, rfl⟩
set_option maxHeartbeats 4000000 in
set_option maxRecDepth 20000 in
theorem sp_X4_greatestY {N : Nat} {w : wd} (hn : w 1 4 = (N : Int)) (hp : PlO N w) (hN : N ≤ 144) (hN1 : 1 ≤ N) : CalI yX4_greatestY cX4_greatestY 1 .int 3 LAY w [vR 5] (fun a w' => a = mxA (w 7) (N - 1) ∧ w' = w) := by
  refine calI_intro (ls := [some (vR 5)]) (by decide) (Nat.le_of_ble_eq_true rfl) rfl (fun κ ad X hR => ?_)
  refine j_aload_n X dX4_greatestY_0 rfl ?_
  refine j_aload_n X dX4_greatestY_1 rfl ?_
  refine j_getR X dX4_greatestY_2 ff_X4_15 rfl rfl ?_
  refine cV1i X mf_X4_greatest mv_X4_greatest ml_X4_163 (by decide) rfl rfl (Nat.le_of_ble_eq_true rfl) dX4_greatestY_5 (sp_X4_greatest hn hN hN1 rfl (fun k hk => (hp k hk).2.1)) (fun a_5 w_5 h_5 => ?_)
  obtain ⟨_, _⟩ := h_5
  subst a_5
  subst w_5
  exact j_ireturn X hR dX4_greatestY_8 ⟨rfl, rfl⟩
