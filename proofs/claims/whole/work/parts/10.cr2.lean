set_option maxHeartbeats 4000000 in
set_option maxRecDepth 20000 in
theorem sp_X0_kind {k e n : Nat} {w : wd} (hs : ShO n w) (hp : PlO (4 * n * n) w) (hy : LyO (4 * n * n) w) (hk : k < 4 * n * n) (he : e < 3) : CalI yX0_kind cX0_kind 5 .int 3 LAY w [vR 16, vI (k : Int), vI (e : Int)] (fun a w' => a = kd n w k e ∧ w' = w) := by
  have h144 := nn_le hs.1.2
  have hb := nb_b hs.1 hk he
  refine calI_intro (ls := [some (vR 16), some (vI (k : Int)), some (vI (e : Int)), none, none]) (by decide) (Nat.le_of_ble_eq_true rfl) rfl (fun κ ad X hR => ?_)
  refine j_aload_n X dX0_kind_0 rfl ?_
  refine j_getR X dX0_kind_1 ff_X0_9 rfl rfl ?_
  refine j_iload_n X dX0_kind_4 rfl ?_
  refine j_iload_n X dX0_kind_5 rfl ?_
  refine cV2i X mf_X7_beside mv_X7_beside ml_X0_19 (by decide) rfl rfl (Nat.le_of_ble_eq_true rfl) dX0_kind_6 (sp_X7_beside hs (by omega) (by omega)) (fun a_6 w_6 h_6 => ?_)
  obtain ⟨_, _⟩ := h_6
  subst a_6
  subst w_6
  refine s_3 X dX0_kind_9 rfl ?_
  refine j_iload_n X dX0_kind_10 rfl ?_
  refine j_ldc X dX0_kind_11 kc_X0_25 ?_
  refine j_icmp_ne (tgt := 19) X dX0_kind_13 (by decide) ⟨by omega, by omega⟩ ⟨by omega, by omega⟩ (fun h_13 => ?_) (fun h_13 => ?_)
  · obtain ⟨j, hnb, hj⟩ := (nb_rg hs.1 hk he).resolve_left h_13
    have hjt : (nb n k e).toNat = j := by rw [hnb]; rfl
    have l1 := hy k hk
    have l2 := hy j hj
    rw [hnb]
    refine j_aload_n X dX0_kind_19 rfl ?_
    refine j_getR X dX0_kind_20 ff_X0_15 rfl rfl ?_
    refine j_iload_n X dX0_kind_23 rfl ?_
    refine cV1i X mf_X4_isUp mv_X4_isUp ml_X0_26 (by decide) rfl rfl (Nat.le_of_ble_eq_true rfl) dX0_kind_24 (sp_X4_isUp (by omega) (hp k hk).2.2.2) (fun a_24 w_24 h_24 => ?_)
    obtain ⟨_, _⟩ := h_24
    subst a_24
    subst w_24
    refine j_aload_n X dX0_kind_27 rfl ?_
    refine j_getR X dX0_kind_28 ff_X0_15 rfl rfl ?_
    refine j_iload_n X dX0_kind_31 rfl ?_
    refine cV1i X mf_X4_isUp mv_X4_isUp ml_X0_26 (by decide) rfl rfl (Nat.le_of_ble_eq_true rfl) dX0_kind_32 (sp_X4_isUp (by omega) (hp j hj).2.2.2) (fun a_32 w_32 h_32 => ?_)
    obtain ⟨_, _⟩ := h_32
    subst a_32
    subst w_32
    refine j_icmp_ne (tgt := 40) X dX0_kind_35 (by decide) ib_rg ib_rg (fun h_35 => ?_) (fun h_35 => ?_)
    · refine j_aload_n X dX0_kind_40 rfl ?_
      refine j_getR X dX0_kind_41 ff_X0_15 rfl rfl ?_
      refine j_iload_n X dX0_kind_44 rfl ?_
      refine cV1i X mf_X4_layer mv_X4_layer ml_X0_32 (by decide) rfl rfl (Nat.le_of_ble_eq_true rfl) dX0_kind_45 (sp_X4_layer (by omega)) (fun a_45 w_45 h_45 => ?_)
      obtain ⟨_, _⟩ := h_45
      subst a_45
      subst w_45
      refine j_aload_n X dX0_kind_48 rfl ?_
      refine j_getR X dX0_kind_49 ff_X0_15 rfl rfl ?_
      refine j_iload_n X dX0_kind_52 rfl ?_
      refine cV1i X mf_X4_layer mv_X4_layer ml_X0_32 (by decide) rfl rfl (Nat.le_of_ble_eq_true rfl) dX0_kind_53 (sp_X4_layer (by omega)) (fun a_53 w_53 h_53 => ?_)
      obtain ⟨_, _⟩ := h_53
      subst a_53
      subst w_53
      refine j_icmp_ge (tgt := 63) X dX0_kind_56 (by decide) ⟨by omega, by omega⟩ ⟨by omega, by omega⟩ (fun h_56 => ?_) (fun h_56 => ?_)
      · refine j_iload_n X dX0_kind_63 rfl ?_
        refine s_4 X dX0_kind_64 rfl ?_
        refine j_aload_n X dX0_kind_66 rfl ?_
        refine j_getR X dX0_kind_67 ff_X0_15 rfl rfl ?_
        refine j_iload X dX0_kind_70 rfl ?_
        refine cV1i X mf_X4_isUp mv_X4_isUp ml_X0_26 (by decide) rfl rfl (Nat.le_of_ble_eq_true rfl) dX0_kind_72 (sp_X4_isUp (k := j) (by omega) (hp j hj).2.2.2) (fun a_72 w_72 h_72 => ?_)
        obtain ⟨_, _⟩ := h_72
        subst a_72
        subst w_72
        refine jb_eq (tgt := 82) X dX0_kind_75 (by decide) (fun h_75 => ?_) (fun h_75 => ?_)
        · refine j_iconst X dX0_kind_82 ?_
          exact j_ireturn X hR dX0_kind_83 ⟨by unfold kd; rw [if_neg h_13, if_neg (by rw [hjt]; exact h_35), hjt, if_neg (by omega), if_neg h_75], rfl⟩
        · refine j_iconst X dX0_kind_78 ?_
          refine j_goto (tgt := 83) X dX0_kind_79 (by decide) ?_
          exact j_ireturn X hR dX0_kind_83 ⟨by unfold kd; rw [if_neg h_13, if_neg (by rw [hjt]; exact h_35), hjt, if_neg (by omega), if_pos h_75], rfl⟩
      · refine j_iload_n X dX0_kind_59 rfl ?_
        refine j_goto (tgt := 64) X dX0_kind_60 (by decide) ?_
        refine s_4 X dX0_kind_64 rfl ?_
        refine j_aload_n X dX0_kind_66 rfl ?_
        refine j_getR X dX0_kind_67 ff_X0_15 rfl rfl ?_
        refine j_iload X dX0_kind_70 rfl ?_
        refine cV1i X mf_X4_isUp mv_X4_isUp ml_X0_26 (by decide) rfl rfl (Nat.le_of_ble_eq_true rfl) dX0_kind_72 (sp_X4_isUp (k := k) (by omega) (hp k hk).2.2.2) (fun a_72 w_72 h_72 => ?_)
        obtain ⟨_, _⟩ := h_72
        subst a_72
        subst w_72
        refine jb_eq (tgt := 82) X dX0_kind_75 (by decide) (fun h_75 => ?_) (fun h_75 => ?_)
        · refine j_iconst X dX0_kind_82 ?_
          exact j_ireturn X hR dX0_kind_83 ⟨by unfold kd; rw [if_neg h_13, if_neg (by rw [hjt]; exact h_35), hjt, if_pos (by omega), if_neg h_75], rfl⟩
        · refine j_iconst X dX0_kind_78 ?_
          refine j_goto (tgt := 83) X dX0_kind_79 (by decide) ?_
          exact j_ireturn X hR dX0_kind_83 ⟨by unfold kd; rw [if_neg h_13, if_neg (by rw [hjt]; exact h_35), hjt, if_pos (by omega), if_pos h_75], rfl⟩
    · refine j_iconst X dX0_kind_38 ?_
      exact j_ireturn X hR dX0_kind_39 ⟨by unfold kd; rw [if_neg h_13, if_pos (by rw [hjt]; exact h_35)], rfl⟩
  · refine j_ldc X dX0_kind_16 kc_X0_25 ?_
    exact j_ireturn X hR dX0_kind_18 ⟨by unfold kd; rw [if_pos h_13], rfl⟩
set_option maxHeartbeats 4000000 in
set_option maxRecDepth 20000 in
theorem sp_X0_total {n : Nat} {K : Int} {w : wd} (hs : ShO n w) (hp : PlO (4 * n * n) w) (hy : LyO (4 * n * n) w) (hK : rg K) : CalI yX0_total cX0_total 5 .int 4 LAY w [vR 16, vI K] (fun a w' => a = sm (crT n w K) (4 * n * n) ∧ w' = w) := by
  have h144 := nn_le hs.1.2
  have hn2 := hs.2.2.1
  refine calI_intro (ls := [some (vR 16), some (vI K), none, none, none]) (by decide) (Nat.le_of_ble_eq_true rfl) rfl (fun κ ad X hR => ?_)
  refine j_iconst X dX0_total_0 ?_
  refine s_2 X dX0_total_1 rfl ?_
  refine j_iconst X dX0_total_2 ?_
  refine s_3 X dX0_total_3 rfl ?_
  have L_4 : ∀ (m : Nat) (k : Nat) (c : Int) (_ : c = sm (crT n w K) k) (_ : k ≤ 4 * n * n) (_ : 4 * n * n - k < m), J κ LAY ad 0 0 4 [some (vR 16), some (vI K), some (vI c), some (vI (k : Int)), none] [] w := by
    intro m
    induction m with
    | zero => intro k c hc h1 h2; omega
    | succ m ih4 =>
      intro k c hc h1 h2
      refine j_iload_n X dX0_total_4 rfl ?_
      refine j_aload_n X dX0_total_5 rfl ?_
      refine j_getR X dX0_total_6 ff_X0_9 rfl rfl ?_
      refine j_getI X dX0_total_9 ff_X0_36 rfl rfl ?_
      refine j_icmp_ge (tgt := 68) X dX0_total_12 (by decide) ⟨by omega, by omega⟩ ⟨by omega, by omega⟩ (fun h_12 => ?_) (fun h_12 => ?_)
      · refine j_iload_n X dX0_total_68 rfl ?_
        exact j_ireturn X hR dX0_total_69 ⟨by rw [hc, show k = 4 * n * n by omega], rfl⟩
      · refine j_iconst X dX0_total_15 ?_
        refine s_4 X dX0_total_16 rfl ?_
        have L_18 : ∀ (m : Nat) (e : Nat) (d : Int) (_ : d = c + sm (fun e => ib ((k : Int) < nb n k e ∧ kd n w k e = K)) e) (_ : e ≤ 3) (_ : 3 - e < m), J κ LAY ad 0 0 18 [some (vR 16), some (vI K), some (vI d), some (vI (k : Int)), some (vI (e : Int))] [] w := by
          intro m
          induction m with
          | zero => intro e d hd h3 h4; omega
          | succ m ih18 =>
            intro e d hd h3 h4
            have hkr := kd_rg n w k e
            have hkr2 : rg (kd n w k e) := ⟨by omega, by omega⟩
            refine j_iload X dX0_total_18 rfl ?_
            refine j_iconst X dX0_total_20 ?_
            refine j_icmp_ge (tgt := 62) X dX0_total_21 (by decide) ⟨by omega, by omega⟩ ⟨by omega, by omega⟩ (fun h_21 => ?_) (fun h_21 => ?_)
            · refine inc_3 X dX0_total_62 rfl ?_
              refine j_goto (tgt := 4) X dX0_total_65 (by decide) ?_
              refine fg_4 ?_
              exact ih4 (k + 1) _ (by rw [hd, sm_s, hc, show e = 3 by omega]; rfl) (by omega) (by omega)
            · have he3 : e < 3 := by omega
              have hme : 3 - (e + 1) < m := by omega
              have hk3 : k < 4 * n * n := by omega
              refine j_iload_n X dX0_total_24 rfl ?_
              refine j_aload_n X dX0_total_25 rfl ?_
              refine j_iload_n X dX0_total_26 rfl ?_
              refine j_iload X dX0_total_27 rfl ?_
              refine cV2i X mf_X0_isFirstOf mv_X0_isFirstOf ml_X0_40 (by decide) rfl rfl (Nat.le_of_ble_eq_true rfl) dX0_total_29 (sp_X0_isFirstOf hs hk3 he3) (fun a_29 w_29 h_29 => ?_)
              obtain ⟨_, _⟩ := h_29
              subst a_29
              subst w_29
              refine jb_eq (tgt := 50) X dX0_total_32 (by decide) (fun h_32 => ?_) (fun h_32 => ?_)
              · refine j_iconst X dX0_total_50 ?_
                refine cS1i X mf_X9_yes ms_X9_yes ml_X0_47 (by decide) (Nat.le_of_ble_eq_true rfl) dX0_total_51 (sp_X9_yes (by first | exact Or.inr rfl | exact Or.inl rfl | exact ib_01)) (fun a_51 w_51 h_51 => ?_)
                obtain ⟨_, _⟩ := h_51
                subst a_51
                subst w_51
                refine j_iadd X dX0_total_54 ?_
                refine s_2 X dX0_total_55 rfl ?_
                refine inc_4 X dX0_total_56 rfl ?_
                refine j_goto (tgt := 18) X dX0_total_59 (by decide) ?_
                exact ih18 (e + 1) _ (by first | exact acc_t hd (ib_t ⟨h_32, h_43⟩) | exact acc_f hd (ib_f (fun q => h_32 q.1)) | exact acc_f hd (ib_f (fun q => h_43 q.2))) he3 hme
              · refine j_aload_n X dX0_total_35 rfl ?_
                refine j_iload_n X dX0_total_36 rfl ?_
                refine j_iload X dX0_total_37 rfl ?_
                refine cV2i X mf_X0_kind mv_X0_kind ml_X0_44 (by decide) rfl rfl (Nat.le_of_ble_eq_true rfl) dX0_total_39 (sp_X0_kind hs hp hy hk3 he3) (fun a_39 w_39 h_39 => ?_)
                obtain ⟨_, _⟩ := h_39
                subst a_39
                subst w_39
                refine j_iload_n X dX0_total_42 rfl ?_
                refine j_icmp_ne (tgt := 50) X dX0_total_43 (by decide) hkr2 hK (fun h_43 => ?_) (fun h_43 => ?_)
                · refine j_iconst X dX0_total_50 ?_
                  refine cS1i X mf_X9_yes ms_X9_yes ml_X0_47 (by decide) (Nat.le_of_ble_eq_true rfl) dX0_total_51 (sp_X9_yes (by first | exact Or.inr rfl | exact Or.inl rfl | exact ib_01)) (fun a_51 w_51 h_51 => ?_)
                  obtain ⟨_, _⟩ := h_51
                  subst a_51
                  subst w_51
                  refine j_iadd X dX0_total_54 ?_
                  refine s_2 X dX0_total_55 rfl ?_
                  refine inc_4 X dX0_total_56 rfl ?_
                  refine j_goto (tgt := 18) X dX0_total_59 (by decide) ?_
                  exact ih18 (e + 1) _ (by first | exact acc_t hd (ib_t ⟨h_32, h_43⟩) | exact acc_f hd (ib_f (fun q => h_32 q.1)) | exact acc_f hd (ib_f (fun q => h_43 q.2))) he3 hme
                · refine j_iconst X dX0_total_46 ?_
                  refine j_goto (tgt := 51) X dX0_total_47 (by decide) ?_
                  refine cS1i X mf_X9_yes ms_X9_yes ml_X0_47 (by decide) (Nat.le_of_ble_eq_true rfl) dX0_total_51 (sp_X9_yes (by first | exact Or.inr rfl | exact Or.inl rfl | exact ib_01)) (fun a_51 w_51 h_51 => ?_)
                  obtain ⟨_, _⟩ := h_51
                  subst a_51
                  subst w_51
                  refine j_iadd X dX0_total_54 ?_
                  refine s_2 X dX0_total_55 rfl ?_
                  refine inc_4 X dX0_total_56 rfl ?_
                  refine j_goto (tgt := 18) X dX0_total_59 (by decide) ?_
                  exact ih18 (e + 1) _ (by first | exact acc_t hd (ib_t ⟨h_32, h_43⟩) | exact acc_f hd (ib_f (fun q => h_32 q.1)) | exact acc_f hd (ib_f (fun q => h_43 q.2))) he3 hme
        exact L_18 4 0 c (by rw [sm_0]; omega) (by omega) (by omega)
  exact L_4 (4 * n * n + 1) 0 0 rfl (by omega) (by omega)
set_option maxHeartbeats 4000000 in
set_option maxRecDepth 20000 in
theorem sp_X0_ending {n : Nat} {K x y b : Int} {w : wd} (hs : ShO n w) (hp : PlO (4 * n * n) w) (hy : LyO (4 * n * n) w) (hK : rg K) (hx : 0 ≤ x ∧ x ≤ 6) (hy2 : 0 ≤ y ∧ y ≤ 6) (hb : b = 0 ∨ b = 1) : CalI yX0_ending cX0_ending 11 .int 4 LAY w [vR 16, vI K, vI x, vI y, vI b] (fun a w' => a = sm (crE n w K (2 * x + b) (2 * y + b)) (4 * n * n) ∧ w' = w) := by
  have h144 := nn_le hs.1.2
  have hn2 := hs.2.2.1
  refine calI_intro (ls := [some (vR 16), some (vI K), some (vI x), some (vI y), some (vI b), none, none, none, none, none, none]) (by decide) (Nat.le_of_ble_eq_true rfl) rfl (fun κ ad X hR => ?_)
  refine j_iconst X dX0_ending_0 ?_
  refine j_iload_n X dX0_ending_1 rfl ?_
  refine j_imul X dX0_ending_2 ?_
  refine j_iload X dX0_ending_3 rfl ?_
  refine cS1i X mf_X9_yes ms_X9_yes ml_X0_47 (by decide) (Nat.le_of_ble_eq_true rfl) dX0_ending_5 (sp_X9_yes hb) (fun a_5 w_5 h_5 => ?_)
  obtain ⟨_, _⟩ := h_5
  subst a_5
  subst w_5
  refine j_iadd X dX0_ending_8 ?_
  refine s_5 X dX0_ending_9 rfl ?_
  refine j_iconst X dX0_ending_11 ?_
  refine j_iload_n X dX0_ending_12 rfl ?_
  refine j_imul X dX0_ending_13 ?_
  refine j_iload X dX0_ending_14 rfl ?_
  refine cS1i X mf_X9_yes ms_X9_yes ml_X0_47 (by decide) (Nat.le_of_ble_eq_true rfl) dX0_ending_16 (sp_X9_yes hb) (fun a_16 w_16 h_16 => ?_)
  obtain ⟨_, _⟩ := h_16
  subst a_16
  subst w_16
  refine j_iadd X dX0_ending_19 ?_
  refine s_6 X dX0_ending_20 rfl ?_
  refine j_iconst X dX0_ending_22 ?_
  refine s_7 X dX0_ending_23 rfl ?_
  refine j_iconst X dX0_ending_25 ?_
  refine s_8 X dX0_ending_26 rfl ?_
  have L_28 : ∀ (m : Nat) (k : Nat) (c : Int) (_ : c = sm (crE n w K (2 * x + b) (2 * y + b)) k) (_ : k ≤ 4 * n * n) (_ : 4 * n * n - k < m), J κ LAY ad 0 0 28 [some (vR 16), some (vI K), some (vI x), some (vI y), some (vI b), some (vI (2 * x + b)), some (vI (2 * y + b)), some (vI c), some (vI (k : Int)), none, none] [] w := by
    intro m
    induction m with
    | zero => intro k c hc h1 h2; omega
    | succ m ih28 =>
      intro k c hc h1 h2
      refine j_iload X dX0_ending_28 rfl ?_
      refine j_aload_n X dX0_ending_30 rfl ?_
      refine j_getR X dX0_ending_31 ff_X0_9 rfl rfl ?_
      refine j_getI X dX0_ending_34 ff_X0_36 rfl rfl ?_
      refine j_icmp_ge (tgt := 124) X dX0_ending_37 (by decide) ⟨by omega, by omega⟩ ⟨by omega, by omega⟩ (fun h_37 => ?_) (fun h_37 => ?_)
      · refine j_iload X dX0_ending_124 rfl ?_
        exact j_ireturn X hR dX0_ending_126 ⟨by rw [hc, show k = 4 * n * n by omega], rfl⟩
      · refine j_iconst X dX0_ending_40 ?_
        refine s_9 X dX0_ending_41 rfl ?_
        have L_43 : ∀ (m : Nat) (e : Nat) (d : Int) (_ : d = c + sm (fun e => ib ((k : Int) < nb n k e ∧ eA n k e (2 * x + b) (2 * y + b) ∧ kd n w k e = K)) e) (_ : e ≤ 3) (_ : 3 - e < m), J κ LAY ad 0 0 43 [some (vR 16), some (vI K), some (vI x), some (vI y), some (vI b), some (vI (2 * x + b)), some (vI (2 * y + b)), some (vI d), some (vI (k : Int)), some (vI (e : Int)), none] [] w := by
          intro m
          induction m with
          | zero => intro e d hd h3 h4; omega
          | succ m ih43 =>
            intro e d hd h3 h4
            have hkr := kd_rg n w k e
            have hkr2 : rg (kd n w k e) := ⟨by omega, by omega⟩
            refine j_iload X dX0_ending_43 rfl ?_
            refine j_iconst X dX0_ending_45 ?_
            refine j_icmp_ge (tgt := 118) X dX0_ending_46 (by decide) ⟨by omega, by omega⟩ ⟨by omega, by omega⟩ (fun h_46 => ?_) (fun h_46 => ?_)
            · refine inc_8 X dX0_ending_118 rfl ?_
              refine j_goto (tgt := 28) X dX0_ending_121 (by decide) ?_
              refine fg_9 ?_
              refine fg_10 ?_
              exact ih28 (k + 1) _ (by rw [hd, sm_s, hc, show e = 3 by omega]; rfl) (by omega) (by omega)
            · have he3 : e < 3 := by omega
              have hme : 3 - (e + 1) < m := by omega
              have hk3 : k < 4 * n * n := by omega
              refine j_aload_n X dX0_ending_49 rfl ?_
              refine j_iload X dX0_ending_50 rfl ?_
              refine j_iload X dX0_ending_52 rfl ?_
              refine cV2i X mf_X0_isFirstOf mv_X0_isFirstOf ml_X0_40 (by decide) rfl rfl (Nat.le_of_ble_eq_true rfl) dX0_ending_54 (sp_X0_isFirstOf hs hk3 he3) (fun a_54 w_54 h_54 => ?_)
              obtain ⟨_, _⟩ := h_54
              subst a_54
              subst w_54
              refine jb_eq (tgt := 79) X dX0_ending_57 (by decide) (fun h_57 => ?_) (fun h_57 => ?_)
              · refine j_iconst X dX0_ending_79 ?_
                refine s_10 X dX0_ending_80 rfl ?_
                refine j_iload X dX0_ending_82 rfl ?_
                refine j_iload X dX0_ending_84 rfl ?_
                refine j_if_eq (tgt := 105) X dX0_ending_86 (by decide) ⟨by omega, by omega⟩ (fun h_86 => ?_) (fun h_86 => ?_)
                · refine j_iconst X dX0_ending_105 ?_
                  refine cS1i X mf_X9_yes ms_X9_yes ml_X0_47 (by decide) (Nat.le_of_ble_eq_true rfl) dX0_ending_106 (sp_X9_yes (by first | exact Or.inr rfl | exact Or.inl rfl | exact ib_01)) (fun a_106 w_106 h_106 => ?_)
                  obtain ⟨_, _⟩ := h_106
                  subst a_106
                  subst w_106
                  refine j_iadd X dX0_ending_109 ?_
                  refine s_7 X dX0_ending_110 rfl ?_
                  refine inc_9 X dX0_ending_112 rfl ?_
                  refine j_goto (tgt := 43) X dX0_ending_115 (by decide) ?_
                  refine fg_10 ?_
                  exact ih43 (e + 1) _ (by first | exact absurd rfl h_86 | exact absurd h_86 (by decide) | exact acc_t hd (ib_t ⟨h_57, h_72, h_98⟩) | exact acc_f hd (ib_f (fun q => h_57 q.1)) | exact acc_f hd (ib_f (fun q => h_72 q.2.1)) | exact acc_f hd (ib_f (fun q => h_98 q.2.2))) he3 hme
                · refine j_aload_n X dX0_ending_89 rfl ?_
                  refine j_iload X dX0_ending_90 rfl ?_
                  refine j_iload X dX0_ending_92 rfl ?_
                  refine cV2i X mf_X0_kind mv_X0_kind ml_X0_44 (by decide) rfl rfl (Nat.le_of_ble_eq_true rfl) dX0_ending_94 (sp_X0_kind hs hp hy hk3 he3) (fun a_94 w_94 h_94 => ?_)
                  obtain ⟨_, _⟩ := h_94
                  subst a_94
                  subst w_94
                  refine j_iload_n X dX0_ending_97 rfl ?_
                  refine j_icmp_ne (tgt := 105) X dX0_ending_98 (by decide) hkr2 hK (fun h_98 => ?_) (fun h_98 => ?_)
                  · refine j_iconst X dX0_ending_105 ?_
                    refine cS1i X mf_X9_yes ms_X9_yes ml_X0_47 (by decide) (Nat.le_of_ble_eq_true rfl) dX0_ending_106 (sp_X9_yes (by first | exact Or.inr rfl | exact Or.inl rfl | exact ib_01)) (fun a_106 w_106 h_106 => ?_)
                    obtain ⟨_, _⟩ := h_106
                    subst a_106
                    subst w_106
                    refine j_iadd X dX0_ending_109 ?_
                    refine s_7 X dX0_ending_110 rfl ?_
                    refine inc_9 X dX0_ending_112 rfl ?_
                    refine j_goto (tgt := 43) X dX0_ending_115 (by decide) ?_
                    refine fg_10 ?_
                    exact ih43 (e + 1) _ (by first | exact absurd rfl h_86 | exact absurd h_86 (by decide) | exact acc_t hd (ib_t ⟨h_57, h_72, h_98⟩) | exact acc_f hd (ib_f (fun q => h_57 q.1)) | exact acc_f hd (ib_f (fun q => h_72 q.2.1)) | exact acc_f hd (ib_f (fun q => h_98 q.2.2))) he3 hme
                  · refine j_iconst X dX0_ending_101 ?_
                    refine j_goto (tgt := 106) X dX0_ending_102 (by decide) ?_
                    refine cS1i X mf_X9_yes ms_X9_yes ml_X0_47 (by decide) (Nat.le_of_ble_eq_true rfl) dX0_ending_106 (sp_X9_yes (by first | exact Or.inr rfl | exact Or.inl rfl | exact ib_01)) (fun a_106 w_106 h_106 => ?_)
                    obtain ⟨_, _⟩ := h_106
                    subst a_106
                    subst w_106
                    refine j_iadd X dX0_ending_109 ?_
                    refine s_7 X dX0_ending_110 rfl ?_
                    refine inc_9 X dX0_ending_112 rfl ?_
                    refine j_goto (tgt := 43) X dX0_ending_115 (by decide) ?_
                    refine fg_10 ?_
                    exact ih43 (e + 1) _ (by first | exact absurd rfl h_86 | exact absurd h_86 (by decide) | exact acc_t hd (ib_t ⟨h_57, h_72, h_98⟩) | exact acc_f hd (ib_f (fun q => h_57 q.1)) | exact acc_f hd (ib_f (fun q => h_72 q.2.1)) | exact acc_f hd (ib_f (fun q => h_98 q.2.2))) he3 hme
              · refine j_aload_n X dX0_ending_60 rfl ?_
                refine j_iload X dX0_ending_61 rfl ?_
                refine j_iload X dX0_ending_63 rfl ?_
                refine j_iload X dX0_ending_65 rfl ?_
                refine j_iload X dX0_ending_67 rfl ?_
                refine cV4i X mf_X0_endsAt mv_X0_endsAt ml_X0_51 (by decide) rfl rfl (Nat.le_of_ble_eq_true rfl) dX0_ending_69 (sp_X0_endsAt hs hk3 he3 ⟨by omega, by omega⟩ ⟨by omega, by omega⟩) (fun a_69 w_69 h_69 => ?_)
                obtain ⟨_, _⟩ := h_69
                subst a_69
                subst w_69
                refine jb_eq (tgt := 79) X dX0_ending_72 (by decide) (fun h_72 => ?_) (fun h_72 => ?_)
                · refine j_iconst X dX0_ending_79 ?_
                  refine s_10 X dX0_ending_80 rfl ?_
                  refine j_iload X dX0_ending_82 rfl ?_
                  refine j_iload X dX0_ending_84 rfl ?_
                  refine j_if_eq (tgt := 105) X dX0_ending_86 (by decide) ⟨by omega, by omega⟩ (fun h_86 => ?_) (fun h_86 => ?_)
                  · refine j_iconst X dX0_ending_105 ?_
                    refine cS1i X mf_X9_yes ms_X9_yes ml_X0_47 (by decide) (Nat.le_of_ble_eq_true rfl) dX0_ending_106 (sp_X9_yes (by first | exact Or.inr rfl | exact Or.inl rfl | exact ib_01)) (fun a_106 w_106 h_106 => ?_)
                    obtain ⟨_, _⟩ := h_106
                    subst a_106
                    subst w_106
                    refine j_iadd X dX0_ending_109 ?_
                    refine s_7 X dX0_ending_110 rfl ?_
                    refine inc_9 X dX0_ending_112 rfl ?_
                    refine j_goto (tgt := 43) X dX0_ending_115 (by decide) ?_
                    refine fg_10 ?_
                    exact ih43 (e + 1) _ (by first | exact absurd rfl h_86 | exact absurd h_86 (by decide) | exact acc_t hd (ib_t ⟨h_57, h_72, h_98⟩) | exact acc_f hd (ib_f (fun q => h_57 q.1)) | exact acc_f hd (ib_f (fun q => h_72 q.2.1)) | exact acc_f hd (ib_f (fun q => h_98 q.2.2))) he3 hme
                  · refine j_aload_n X dX0_ending_89 rfl ?_
                    refine j_iload X dX0_ending_90 rfl ?_
                    refine j_iload X dX0_ending_92 rfl ?_
                    refine cV2i X mf_X0_kind mv_X0_kind ml_X0_44 (by decide) rfl rfl (Nat.le_of_ble_eq_true rfl) dX0_ending_94 (sp_X0_kind hs hp hy hk3 he3) (fun a_94 w_94 h_94 => ?_)
                    obtain ⟨_, _⟩ := h_94
                    subst a_94
                    subst w_94
                    refine j_iload_n X dX0_ending_97 rfl ?_
                    refine j_icmp_ne (tgt := 105) X dX0_ending_98 (by decide) hkr2 hK (fun h_98 => ?_) (fun h_98 => ?_)
                    · refine j_iconst X dX0_ending_105 ?_
                      refine cS1i X mf_X9_yes ms_X9_yes ml_X0_47 (by decide) (Nat.le_of_ble_eq_true rfl) dX0_ending_106 (sp_X9_yes (by first | exact Or.inr rfl | exact Or.inl rfl | exact ib_01)) (fun a_106 w_106 h_106 => ?_)
                      obtain ⟨_, _⟩ := h_106
                      subst a_106
                      subst w_106
                      refine j_iadd X dX0_ending_109 ?_
                      refine s_7 X dX0_ending_110 rfl ?_
                      refine inc_9 X dX0_ending_112 rfl ?_
                      refine j_goto (tgt := 43) X dX0_ending_115 (by decide) ?_
                      refine fg_10 ?_
                      exact ih43 (e + 1) _ (by first | exact absurd rfl h_86 | exact absurd h_86 (by decide) | exact acc_t hd (ib_t ⟨h_57, h_72, h_98⟩) | exact acc_f hd (ib_f (fun q => h_57 q.1)) | exact acc_f hd (ib_f (fun q => h_72 q.2.1)) | exact acc_f hd (ib_f (fun q => h_98 q.2.2))) he3 hme
                    · refine j_iconst X dX0_ending_101 ?_
                      refine j_goto (tgt := 106) X dX0_ending_102 (by decide) ?_
                      refine cS1i X mf_X9_yes ms_X9_yes ml_X0_47 (by decide) (Nat.le_of_ble_eq_true rfl) dX0_ending_106 (sp_X9_yes (by first | exact Or.inr rfl | exact Or.inl rfl | exact ib_01)) (fun a_106 w_106 h_106 => ?_)
                      obtain ⟨_, _⟩ := h_106
                      subst a_106
                      subst w_106
                      refine j_iadd X dX0_ending_109 ?_
                      refine s_7 X dX0_ending_110 rfl ?_
                      refine inc_9 X dX0_ending_112 rfl ?_
                      refine j_goto (tgt := 43) X dX0_ending_115 (by decide) ?_
                      refine fg_10 ?_
                      exact ih43 (e + 1) _ (by first | exact absurd rfl h_86 | exact absurd h_86 (by decide) | exact acc_t hd (ib_t ⟨h_57, h_72, h_98⟩) | exact acc_f hd (ib_f (fun q => h_57 q.1)) | exact acc_f hd (ib_f (fun q => h_72 q.2.1)) | exact acc_f hd (ib_f (fun q => h_98 q.2.2))) he3 hme
                · refine j_iconst X dX0_ending_75 ?_
                  refine j_goto (tgt := 80) X dX0_ending_76 (by decide) ?_
                  refine s_10 X dX0_ending_80 rfl ?_
                  refine j_iload X dX0_ending_82 rfl ?_
                  refine j_iload X dX0_ending_84 rfl ?_
                  refine j_if_eq (tgt := 105) X dX0_ending_86 (by decide) ⟨by omega, by omega⟩ (fun h_86 => ?_) (fun h_86 => ?_)
                  · refine j_iconst X dX0_ending_105 ?_
                    refine cS1i X mf_X9_yes ms_X9_yes ml_X0_47 (by decide) (Nat.le_of_ble_eq_true rfl) dX0_ending_106 (sp_X9_yes (by first | exact Or.inr rfl | exact Or.inl rfl | exact ib_01)) (fun a_106 w_106 h_106 => ?_)
                    obtain ⟨_, _⟩ := h_106
                    subst a_106
                    subst w_106
                    refine j_iadd X dX0_ending_109 ?_
                    refine s_7 X dX0_ending_110 rfl ?_
                    refine inc_9 X dX0_ending_112 rfl ?_
                    refine j_goto (tgt := 43) X dX0_ending_115 (by decide) ?_
                    refine fg_10 ?_
                    exact ih43 (e + 1) _ (by first | exact absurd rfl h_86 | exact absurd h_86 (by decide) | exact acc_t hd (ib_t ⟨h_57, h_72, h_98⟩) | exact acc_f hd (ib_f (fun q => h_57 q.1)) | exact acc_f hd (ib_f (fun q => h_72 q.2.1)) | exact acc_f hd (ib_f (fun q => h_98 q.2.2))) he3 hme
                  · refine j_aload_n X dX0_ending_89 rfl ?_
                    refine j_iload X dX0_ending_90 rfl ?_
                    refine j_iload X dX0_ending_92 rfl ?_
                    refine cV2i X mf_X0_kind mv_X0_kind ml_X0_44 (by decide) rfl rfl (Nat.le_of_ble_eq_true rfl) dX0_ending_94 (sp_X0_kind hs hp hy hk3 he3) (fun a_94 w_94 h_94 => ?_)
                    obtain ⟨_, _⟩ := h_94
                    subst a_94
                    subst w_94
                    refine j_iload_n X dX0_ending_97 rfl ?_
                    refine j_icmp_ne (tgt := 105) X dX0_ending_98 (by decide) hkr2 hK (fun h_98 => ?_) (fun h_98 => ?_)
                    · refine j_iconst X dX0_ending_105 ?_
                      refine cS1i X mf_X9_yes ms_X9_yes ml_X0_47 (by decide) (Nat.le_of_ble_eq_true rfl) dX0_ending_106 (sp_X9_yes (by first | exact Or.inr rfl | exact Or.inl rfl | exact ib_01)) (fun a_106 w_106 h_106 => ?_)
                      obtain ⟨_, _⟩ := h_106
                      subst a_106
                      subst w_106
                      refine j_iadd X dX0_ending_109 ?_
                      refine s_7 X dX0_ending_110 rfl ?_
                      refine inc_9 X dX0_ending_112 rfl ?_
                      refine j_goto (tgt := 43) X dX0_ending_115 (by decide) ?_
                      refine fg_10 ?_
                      exact ih43 (e + 1) _ (by first | exact absurd rfl h_86 | exact absurd h_86 (by decide) | exact acc_t hd (ib_t ⟨h_57, h_72, h_98⟩) | exact acc_f hd (ib_f (fun q => h_57 q.1)) | exact acc_f hd (ib_f (fun q => h_72 q.2.1)) | exact acc_f hd (ib_f (fun q => h_98 q.2.2))) he3 hme
                    · refine j_iconst X dX0_ending_101 ?_
                      refine j_goto (tgt := 106) X dX0_ending_102 (by decide) ?_
                      refine cS1i X mf_X9_yes ms_X9_yes ml_X0_47 (by decide) (Nat.le_of_ble_eq_true rfl) dX0_ending_106 (sp_X9_yes (by first | exact Or.inr rfl | exact Or.inl rfl | exact ib_01)) (fun a_106 w_106 h_106 => ?_)
                      obtain ⟨_, _⟩ := h_106
                      subst a_106
                      subst w_106
                      refine j_iadd X dX0_ending_109 ?_
                      refine s_7 X dX0_ending_110 rfl ?_
                      refine inc_9 X dX0_ending_112 rfl ?_
                      refine j_goto (tgt := 43) X dX0_ending_115 (by decide) ?_
                      refine fg_10 ?_
                      exact ih43 (e + 1) _ (by first | exact absurd rfl h_86 | exact absurd h_86 (by decide) | exact acc_t hd (ib_t ⟨h_57, h_72, h_98⟩) | exact acc_f hd (ib_f (fun q => h_57 q.1)) | exact acc_f hd (ib_f (fun q => h_72 q.2.1)) | exact acc_f hd (ib_f (fun q => h_98 q.2.2))) he3 hme
        exact L_43 4 0 c (by rw [sm_0]; omega) (by omega) (by omega)
  exact L_28 (4 * n * n + 1) 0 0 rfl (by omega) (by omega)
