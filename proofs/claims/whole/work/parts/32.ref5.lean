/-! ===== the reference: begin, keep, unfold, cut, rims, pieces ===== -/
theorem begM_o {n : Nat} {w : wd} {a c o : Nat} (h : o < 55 ∨ (60 < o ∧ o < 68) ∨ 69 < o) : begM n w a c o = w o := by
  funext i; unfold begM; rw [if_neg (by omega), if_neg (by omega)]
theorem kepM_o {w : wd} {m a c o : Nat} (h : o < 61 ∨ 66 < o) : kepM w m a c o = w o := by
  funext i; unfold kepM; rw [if_neg (by omega), if_neg (by omega)]
theorem unfM_o {w : wd} {m a c o : Nat} (h : o < 55 ∨ 60 < o) : unfM w m a c o = w o := by
  funext i; unfold unfM; rw [if_neg (by omega), if_neg (by omega)]
theorem ctM_o {s l d : Int} {w : wd} {m o : Nat} (h : o ≠ 54) (h2 : o ≠ 68) : ctM s l d w m o = w o := by
  funext i; unfold ctM; rw [if_neg (by omega), if_neg (by omega)]
theorem ctM_i {s l d : Int} {w : wd} {m i : Nat} (h : i ≠ 17) : ctM s l d w m 54 i = w 54 i := by
  unfold ctM; rw [if_neg (by omega), if_neg (by omega)]
theorem c144 (m f : Nat) : (144 : Int) * (m : Int) + (f : Int) = ((144 * m + f : Nat) : Int) := by omega
theorem c3k (m f e : Nat) : (3 : Int) * ((144 * m + f : Nat) : Int) + (e : Int) = ((432 * m + (3 * f + e) : Nat) : Int) := by omega
set_option maxHeartbeats 4000000 in
set_option maxRecDepth 20000 in
theorem sp_X10_begin {n : Nat} {w : wd} (hn6 : 1 ≤ n ∧ n ≤ 6) : CalV yX10_begin cX10_begin 4 2 LAY w [vR 54, vI (n : Int)] (fun w' => w' = begR n w) := by
  have hN := nn_le hn6.2
  refine calV_intro (ls := [some (vR 54), some (vI (n : Int)), none, none]) (by decide) (Nat.le_of_ble_eq_true rfl) rfl (fun κ ad X hR => ?_)
  refine j_aload_n X dX10_begin_0 rfl ?_
  refine j_iload_n X dX10_begin_1 rfl ?_
  refine j_putI X dX10_begin_2 fp_X10_7 rfl rfl ?_
  refine j_iconst X dX10_begin_5 ?_
  refine s_2 X dX10_begin_6 rfl ?_
  have L_7 : ∀ (m : Nat) (f : Nat) (_ : f ≤ 4 * n * n) (_ : 4 * n * n - f < m), J κ LAY ad 0 0 7 [some (vR 54), some (vI n), some (vI (f : Int)), none] [] (begM n (wst w 54 1 n) f (3 * f)) := by
    intro m
    induction m with
    | zero => intros; exact absurd ‹_ < 0› (Nat.not_lt_zero _)
    | succ m ih7 =>
      intro f h1 h2
      refine j_iload_n X dX10_begin_7 rfl ?_
      have hb1 : (begM n (wst w 54 1 n) f (3 * f)) 54 1 = (n : Int) := congrFun (begM_o (by decide)) 1
      have hbn : nOk n (begM n (wst w 54 1 n) f (3 * f)) := ⟨hn6, hb1⟩
      refine j_aload_n X dX10_begin_8 rfl ?_
      refine cV0i X mf_X10_facets mv_X10_facets ml_X10_97 (by decide) rfl rfl (Nat.le_of_ble_eq_true rfl) dX10_begin_9 (sp_X10_facets hbn) (fun a_9 w_9 h_9 => ?_)
      obtain ⟨_, _⟩ := h_9
      subst a_9
      subst w_9
      refine j_icmp_ge (tgt := 110) X dX10_begin_12 (by decide) ⟨by omega, by omega⟩ ⟨by omega, by omega⟩ (fun h_12 => ?_) (fun h_12 => ?_)
      · refine j_aload_n X dX10_begin_110 rfl ?_
        refine j_iconst X dX10_begin_111 ?_
        refine j_putI X dX10_begin_112 fp_X10_111 rfl rfl ?_
        refine j_aload_n X dX10_begin_115 rfl ?_
        refine j_iconst X dX10_begin_116 ?_
        refine j_putZ X dX10_begin_117 fp_X10_114 rfl rfl (by first | exact Or.inl rfl | exact Or.inr rfl | assumption | omega) ?_
        exact j_return X hR dX10_begin_120 (by rw [show f = 4 * n * n by omega]; rfl)
      · refine j_aload_n X dX10_begin_15 rfl ?_
        refine j_getR X dX10_begin_16 ff_X10_13 rfl rfl ?_
        refine j_iload_n X dX10_begin_19 rfl ?_
        refine j_iload_n X dX10_begin_20 rfl ?_
        refine j_iconst X dX10_begin_21 ?_
        refine j_idiv X dX10_begin_22 (by omega) (by omega) (by omega) (by omega) ?_
        refine j_aload_n X dX10_begin_23 rfl ?_
        refine j_getI X dX10_begin_24 ff_X10_7 rfl rfl ?_
        rw [hb1]
        refine j_irem X dX10_begin_27 (by omega) (by omega) (by omega) (by omega) ?_
        rw [show (f : Int) / 4 % (n : Int) = lx n f from rfl]
        refine j_iastk X dX10_begin_28 rfl (by omega) (by decide) ?_
        refine j_aload_n X dX10_begin_29 rfl ?_
        refine j_getR X dX10_begin_30 ff_X10_17 rfl rfl ?_
        refine j_iload_n X dX10_begin_33 rfl ?_
        refine j_iload_n X dX10_begin_34 rfl ?_
        refine j_iconst X dX10_begin_35 ?_
        refine j_idiv X dX10_begin_36 (by omega) (by omega) (by omega) (by omega) ?_
        refine j_aload_n X dX10_begin_37 rfl ?_
        refine j_getI X dX10_begin_38 ff_X10_7 rfl rfl ?_
        rw [show (wst (begM n (wst w 54 1 n) f (3 * f)) 55 f (lx n f)) 54 1 = (n : Int) from hb1]
        refine j_idiv X dX10_begin_41 (by omega) (by omega) (by omega) (by omega) ?_
        rw [show (f : Int) / 4 / (n : Int) = ly n f from rfl]
        refine j_iastk X dX10_begin_42 rfl (by omega) (by decide) ?_
        refine j_aload_n X dX10_begin_43 rfl ?_
        refine j_getR X dX10_begin_44 ff_X10_20 rfl rfl ?_
        refine j_iload_n X dX10_begin_47 rfl ?_
        refine j_iload_n X dX10_begin_48 rfl ?_
        refine j_iconst X dX10_begin_49 ?_
        refine j_irem X dX10_begin_50 (by omega) (by omega) (by omega) (by omega) ?_
        rw [show (f : Int) % 4 = lq f from rfl]
        refine j_iastk X dX10_begin_51 rfl (by omega) (by decide) ?_
        refine j_aload_n X dX10_begin_52 rfl ?_
        refine j_getR X dX10_begin_53 ff_X10_23 rfl rfl ?_
        refine j_iload_n X dX10_begin_56 rfl ?_
        refine j_iconst X dX10_begin_57 ?_
        refine j_iastk X dX10_begin_58 rfl (by omega) (by decide) ?_
        refine j_aload_n X dX10_begin_59 rfl ?_
        refine j_getR X dX10_begin_60 ff_X10_26 rfl rfl ?_
        refine j_iload_n X dX10_begin_63 rfl ?_
        refine j_iconst X dX10_begin_64 ?_
        refine j_zastk X dX10_begin_65 rfl (by omega) (by decide) (by first | exact Or.inl rfl | exact Or.inr rfl | assumption | omega) ?_
        refine j_aload_n X dX10_begin_66 rfl ?_
        refine j_getR X dX10_begin_67 ff_X10_57 rfl rfl ?_
        refine j_iload_n X dX10_begin_70 rfl ?_
        refine j_iconst X dX10_begin_71 ?_
        refine j_zastk X dX10_begin_72 rfl (by omega) (by decide) (by first | exact Or.inl rfl | exact Or.inr rfl | assumption | omega) ?_
        refine j_aload_n X dX10_begin_73 rfl ?_
        refine j_getR X dX10_begin_74 ff_X10_60 rfl rfl ?_
        refine j_iload_n X dX10_begin_77 rfl ?_
        refine j_iconst X dX10_begin_78 ?_
        refine j_zastk X dX10_begin_79 rfl (by omega) (by decide) (by first | exact Or.inl rfl | exact Or.inr rfl | assumption | omega) ?_
        rw [begM_a]
        refine j_iconst X dX10_begin_80 ?_
        refine s_3 X dX10_begin_81 rfl ?_
        have L_82 : ∀ (m : Nat) (e : Nat) (_ : e ≤ 3) (_ : 3 - e < m), J κ LAY ad 0 0 82 [some (vR 54), some (vI n), some (vI (f : Int)), some (vI (e : Int))] [] (begM n (wst w 54 1 n) (f + 1) (3 * f + e)) := by
          intro m
          induction m with
          | zero => intros; exact absurd ‹_ < 0› (Nat.not_lt_zero _)
          | succ m ih82 =>
            intro e h3 h4
            refine j_iload_n X dX10_begin_82 rfl ?_
            refine j_iconst X dX10_begin_83 ?_
            refine j_icmp_ge (tgt := 104) X dX10_begin_84 (by decide) ⟨by omega, by omega⟩ ⟨by omega, by omega⟩ (fun h_84 => ?_) (fun h_84 => ?_)
            · refine inc_2 X dX10_begin_104 rfl ?_
              refine j_goto (tgt := 7) X dX10_begin_107 (by decide) ?_
              refine fg_3 ?_
              obtain rfl : e = 3 := by omega
              exact ih7 (f + 1) (by omega) (by omega)
            · refine j_aload_n X dX10_begin_87 rfl ?_
              refine j_getR X dX10_begin_88 ff_X10_30 rfl rfl ?_
              refine j_iconst X dX10_begin_91 ?_
              refine j_iload_n X dX10_begin_92 rfl ?_
              refine j_imul X dX10_begin_93 ?_
              refine j_iload_n X dX10_begin_94 rfl ?_
              refine j_iadd X dX10_begin_95 ?_
              rw [c3]
              refine j_iconst X dX10_begin_96 ?_
              refine j_iastk X dX10_begin_97 rfl (by omega) (by decide) ?_
              refine inc_3 X dX10_begin_98 rfl ?_
              refine j_goto (tgt := 82) X dX10_begin_101 (by decide) ?_
              rw [begM_c]
              exact ih82 (e + 1) (by omega) (by omega)
        exact L_82 4 0 (by omega) (by omega)
  have h9 := L_7 (4 * n * n + 1) 0 (by omega) (by omega)
  rw [begM_0] at h9
  exact h9
set_option maxHeartbeats 4000000 in
set_option maxRecDepth 20000 in
theorem sp_X10_sheet {n : Nat} {w : wd} (hm : MI n w) {t : Int} (ht : rg t) : CalI yX10_sheet cX10_sheet 3 .int 3 LAY w [vR 54, vI t] (fun a w' => if 1 ≤ t ∧ t ≤ 6 then a = (n : Int) ∧ w' = begR t.toNat w else a = -2 ∧ w' = w) := by
  obtain ⟨hn, ht0, hp, hcr, hfe, hfi, hic, hfo, hkn⟩ := id hm
  have hN := nn_le hn.1.2
  have hn1 := hn.2
  have hn6 := hn.1
  refine calI_intro (ls := [some (vR 54), some (vI t), none]) (by decide) (Nat.le_of_ble_eq_true rfl) rfl (fun κ ad X hR => ?_)
  refine j_aload_n X dX10_sheet_0 rfl ?_
  refine j_iconst X dX10_sheet_1 ?_
  refine j_putI X dX10_sheet_2 fp_X10_94 rfl rfl ?_
  rw [thr0 ht0]
  refine j_iload_n X dX10_sheet_5 rfl ?_
  refine j_i2l X dX10_sheet_6 ⟨by omega, by omega⟩ ?_
  refine j_lconst X dX10_sheet_7 ?_
  refine j_ldc2 X dX10_sheet_8 kl_X10_136 ?_
  refine cS3i X mf_X10_in ms_X10_in ml_X10_101 (by decide) (Nat.le_of_ble_eq_true rfl) dX10_sheet_11 (sp_X10_in ⟨by omega, by omega⟩ ⟨by omega, by omega⟩ ⟨by omega, by omega⟩) (fun a_11 w_11 h_11 => ?_)
  obtain ⟨_, _⟩ := h_11
  subst a_11
  subst w_11
  refine jb_ne (tgt := 20) X dX10_sheet_14 (by decide) (fun h_14 => ?_) (fun h_14 => ?_)
  · obtain ⟨j, rfl⟩ := Int.eq_ofNat_of_zero_le (show (0 : Int) ≤ t by omega)
    refine j_aload_n X dX10_sheet_20 rfl ?_
    refine j_getI X dX10_sheet_21 ff_X10_7 rfl rfl ?_
    refine s_2 X dX10_sheet_24 rfl ?_
    refine j_aload_n X dX10_sheet_25 rfl ?_
    refine j_iload_n X dX10_sheet_26 rfl ?_
    refine cV1v X mf_X10_begin mv_X10_begin ml_X10_90 (by decide) rfl rfl (Nat.le_of_ble_eq_true rfl) dX10_sheet_27 (sp_X10_begin (by omega)) (fun w_27 h_27 => ?_)
    change _ = _ at h_27
    subst w_27
    refine j_iload_n X dX10_sheet_30 rfl ?_
    exact j_ireturn X hR dX10_sheet_31 (by rw [if_pos (by omega)]; exact ⟨hn1, rfl⟩)
  · refine j_bipush X dX10_sheet_17 (by decide +kernel) ?_
    exact j_ireturn X hR dX10_sheet_19 (by rw [if_neg (by omega)]; exact ⟨rfl, rfl⟩)
set_option maxHeartbeats 4000000 in
set_option maxRecDepth 20000 in
theorem sp_X10_keep {n q : Nat} {w : wd} (hn : nOk n w) (hp : ∀ k, k < 4 * n * n → PlM w k) (hq : w 54 8 = (q : Int)) (hq8 : q < 8) : CalV yX10_keep cX10_keep 4 2 LAY w [vR 54] (fun w' => w' = kepM w q (4 * n * n) (3 * (4 * n * n))) := by
  have hN := nn_le hn.1.2
  refine calV_intro (ls := [some (vR 54), none, none, none]) (by decide) (Nat.le_of_ble_eq_true rfl) rfl (fun κ ad X hR => ?_)
  refine j_iconst X dX10_keep_0 ?_
  refine s_1 X dX10_keep_1 rfl ?_
  have L_2 : ∀ (m : Nat) (f : Nat) (_ : f ≤ 4 * n * n) (_ : 4 * n * n - f < m), J κ LAY ad 0 0 2 [some (vR 54), some (vI (f : Int)), none, none] [] (kepM w q f (3 * f)) := by
    intro m
    induction m with
    | zero => intros; exact absurd ‹_ < 0› (Nat.not_lt_zero _)
    | succ m ih2 =>
      intro f h1 h2
      refine j_iload_n X dX10_keep_2 rfl ?_
      have hb8 : (kepM w q f (3 * f)) 54 8 = (q : Int) := (congrFun (kepM_o (by decide)) 8).trans hq
      have hbn : nOk n (kepM w q f (3 * f)) := ⟨hn.1, (congrFun (kepM_o (by decide)) 1).trans hn.2⟩
      refine j_aload_n X dX10_keep_3 rfl ?_
      refine cV0i X mf_X10_facets mv_X10_facets ml_X10_97 (by decide) rfl rfl (Nat.le_of_ble_eq_true rfl) dX10_keep_4 (sp_X10_facets hbn) (fun a_4 w_4 h_4 => ?_)
      obtain ⟨_, _⟩ := h_4
      subst a_4
      subst w_4
      refine j_icmp_ge (tgt := 120) X dX10_keep_7 (by decide) ⟨by omega, by omega⟩ ⟨by omega, by omega⟩ (fun h_7 => ?_) (fun h_7 => ?_)
      · exact j_return X hR dX10_keep_120 (by rw [show f = 4 * n * n by omega])
      · have hpf := hp f (by omega)
        refine j_sipush X dX10_keep_10 (by decide +kernel) ?_
        refine j_aload_n X dX10_keep_13 rfl ?_
        refine j_getI X dX10_keep_14 ff_X10_111 rfl rfl ?_
        refine j_imul X dX10_keep_17 ?_
        refine j_iload_n X dX10_keep_18 rfl ?_
        refine j_iadd X dX10_keep_19 ?_
        rw [hb8, c144]
        refine s_2 X dX10_keep_20 rfl ?_
        refine j_aload_n X dX10_keep_21 rfl ?_
        refine j_getR X dX10_keep_22 ff_X10_33 rfl rfl ?_
        refine j_iload_n X dX10_keep_25 rfl ?_
        refine j_aload_n X dX10_keep_26 rfl ?_
        refine j_getR X dX10_keep_27 ff_X10_13 rfl rfl ?_
        refine j_iload_n X dX10_keep_30 rfl ?_
        refine j_ialdk X dX10_keep_31 rfl (by omega) (by decide) ?_
        rw [show (kepM w q f (3 * f)) 55 f = w 55 f from congrFun (kepM_o (w := w) (m := q) (a := f) (c := 3 * f) (o := 55) (by decide)) f]
        refine j_iastk X dX10_keep_32 rfl (by omega) (by decide) ?_
        refine j_aload_n X dX10_keep_33 rfl ?_
        refine j_getR X dX10_keep_34 ff_X10_36 rfl rfl ?_
        refine j_iload_n X dX10_keep_37 rfl ?_
        refine j_aload_n X dX10_keep_38 rfl ?_
        refine j_getR X dX10_keep_39 ff_X10_17 rfl rfl ?_
        refine j_iload_n X dX10_keep_42 rfl ?_
        refine j_ialdk X dX10_keep_43 rfl (by omega) (by decide) ?_
        rw [show (wst (kepM w q f (3 * f)) 61 (144 * q + f) (w 55 f)) 56 f = w 56 f from congrFun (kepM_o (w := w) (m := q) (a := f) (c := 3 * f) (o := 56) (by decide)) f]
        refine j_iastk X dX10_keep_44 rfl (by omega) (by decide) ?_
        refine j_aload_n X dX10_keep_45 rfl ?_
        refine j_getR X dX10_keep_46 ff_X10_39 rfl rfl ?_
        refine j_iload_n X dX10_keep_49 rfl ?_
        refine j_aload_n X dX10_keep_50 rfl ?_
        refine j_getR X dX10_keep_51 ff_X10_20 rfl rfl ?_
        refine j_iload_n X dX10_keep_54 rfl ?_
        refine j_ialdk X dX10_keep_55 rfl (by omega) (by decide) ?_
        rw [show (wst (wst (kepM w q f (3 * f)) 61 (144 * q + f) (w 55 f)) 62 (144 * q + f) (w 56 f)) 57 f = w 57 f from congrFun (kepM_o (w := w) (m := q) (a := f) (c := 3 * f) (o := 57) (by decide)) f]
        refine j_iastk X dX10_keep_56 rfl (by omega) (by decide) ?_
        refine j_aload_n X dX10_keep_57 rfl ?_
        refine j_getR X dX10_keep_58 ff_X10_42 rfl rfl ?_
        refine j_iload_n X dX10_keep_61 rfl ?_
        refine j_aload_n X dX10_keep_62 rfl ?_
        refine j_getR X dX10_keep_63 ff_X10_23 rfl rfl ?_
        refine j_iload_n X dX10_keep_66 rfl ?_
        refine j_ialdk X dX10_keep_67 rfl (by omega) (by decide) ?_
        rw [show (wst (wst (wst (kepM w q f (3 * f)) 61 (144 * q + f) (w 55 f)) 62 (144 * q + f) (w 56 f)) 63 (144 * q + f) (w 57 f)) 58 f = w 58 f from congrFun (kepM_o (w := w) (m := q) (a := f) (c := 3 * f) (o := 58) (by decide)) f]
        refine j_iastk X dX10_keep_68 rfl (by omega) (by decide) ?_
        refine j_aload_n X dX10_keep_69 rfl ?_
        refine j_getR X dX10_keep_70 ff_X10_45 rfl rfl ?_
        refine j_iload_n X dX10_keep_73 rfl ?_
        refine j_aload_n X dX10_keep_74 rfl ?_
        refine j_getR X dX10_keep_75 ff_X10_26 rfl rfl ?_
        refine j_iload_n X dX10_keep_78 rfl ?_
        refine j_zaldk X dX10_keep_79 rfl (by omega) (by decide) ?_
        rw [show (wst (wst (wst (wst (kepM w q f (3 * f)) 61 (144 * q + f) (w 55 f)) 62 (144 * q + f) (w 56 f)) 63 (144 * q + f) (w 57 f)) 64 (144 * q + f) (w 58 f)) 59 f = w 59 f from congrFun (kepM_o (w := w) (m := q) (a := f) (c := 3 * f) (o := 59) (by decide)) f]
        refine j_zastk X dX10_keep_80 rfl (by omega) (by decide) hpf.2.2.2.2 ?_
        rw [kepM_a]
        refine j_iconst X dX10_keep_81 ?_
        refine s_3 X dX10_keep_82 rfl ?_
        have L_83 : ∀ (m : Nat) (e : Nat) (_ : e ≤ 3) (_ : 3 - e < m), J κ LAY ad 0 0 83 [some (vR 54), some (vI (f : Int)), some (vI ((144 * q + f : Nat) : Int)), some (vI (e : Int))] [] (kepM w q (f + 1) (3 * f + e)) := by
          intro m
          induction m with
          | zero => intros; exact absurd ‹_ < 0› (Nat.not_lt_zero _)
          | succ m ih83 =>
            intro e h3 h4
            refine j_iload_n X dX10_keep_83 rfl ?_
            refine j_iconst X dX10_keep_84 ?_
            refine j_icmp_ge (tgt := 114) X dX10_keep_85 (by decide) ⟨by omega, by omega⟩ ⟨by omega, by omega⟩ (fun h_85 => ?_) (fun h_85 => ?_)
            · refine inc_1 X dX10_keep_114 rfl ?_
              refine j_goto (tgt := 2) X dX10_keep_117 (by decide) ?_
              refine fg_3 ?_
              refine fg_2 ?_
              obtain rfl : e = 3 := by omega
              exact ih2 (f + 1) (by omega) (by omega)
            · refine j_aload_n X dX10_keep_88 rfl ?_
              refine j_getR X dX10_keep_89 ff_X10_48 rfl rfl ?_
              refine j_iconst X dX10_keep_92 ?_
              refine j_iload_n X dX10_keep_93 rfl ?_
              refine j_imul X dX10_keep_94 ?_
              refine j_iload_n X dX10_keep_95 rfl ?_
              refine j_iadd X dX10_keep_96 ?_
              rw [c3k]
              refine j_aload_n X dX10_keep_97 rfl ?_
              refine j_getR X dX10_keep_98 ff_X10_30 rfl rfl ?_
              refine j_iconst X dX10_keep_101 ?_
              refine j_iload_n X dX10_keep_102 rfl ?_
              refine j_imul X dX10_keep_103 ?_
              refine j_iload_n X dX10_keep_104 rfl ?_
              refine j_iadd X dX10_keep_105 ?_
              rw [c3]
              refine j_ialdk X dX10_keep_106 rfl (by omega) (by decide) ?_
              rw [show (kepM w q (f + 1) (3 * f + e)) 60 (3 * f + e) = w 60 (3 * f + e) from congrFun (kepM_o (by decide)) _]
              refine j_iastk X dX10_keep_107 rfl (by omega) (by decide) ?_
              refine inc_3 X dX10_keep_108 rfl ?_
              refine j_goto (tgt := 83) X dX10_keep_111 (by decide) ?_
              rw [kepM_c]
              exact ih83 (e + 1) (by omega) (by omega)
        exact L_83 4 0 (by omega) (by omega)
  have h9 := L_2 (4 * n * n + 1) 0 (by omega) (by omega)
  rw [kepM_0] at h9
  exact h9
set_option maxHeartbeats 4000000 in
set_option maxRecDepth 20000 in
theorem sp_X10_unfold {n : Nat} {w : wd} (hm : MI n w) (hwz : ∀ i, i < 1152 → w 65 i = 0 ∨ w 65 i = 1) : CalI yX10_unfold cX10_unfold 4 .int 2 LAY w [vR 54] (fun a w' => if w 54 8 = 0 then a = -3 ∧ w' = w else w' = unfM (wst w 54 8 (w 54 8 - 1)) (w 54 8 - 1).toNat (4 * n * n) (3 * (4 * n * n)) ∧ a = w 54 8 - 1) := by
  obtain ⟨hn, ht0, hp, hcr, hfe, hfi, hic, hfo, hkn⟩ := id hm
  have hN := nn_le hn.1.2
  have hn1 := hn.2
  have hn6 := hn.1
  obtain ⟨fo, hfo8, hfo1⟩ := hfo
  refine calI_intro (ls := [some (vR 54), none, none, none]) (by decide) (Nat.le_of_ble_eq_true rfl) rfl (fun κ ad X hR => ?_)
  refine j_aload_n X dX10_unfold_0 rfl ?_
  refine j_iconst X dX10_unfold_1 ?_
  refine j_putI X dX10_unfold_2 fp_X10_94 rfl rfl ?_
  rw [thr0 ht0]
  refine j_aload_n X dX10_unfold_5 rfl ?_
  refine j_getI X dX10_unfold_6 ff_X10_111 rfl rfl ?_
  refine j_if_ne (tgt := 15) X dX10_unfold_9 (by decide) ⟨by omega, by omega⟩ (fun h_9 => ?_) (fun h_9 => ?_)
  · obtain ⟨q, rfl⟩ : ∃ q, fo = q + 1 := ⟨fo - 1, by omega⟩
    have hw8 : w 54 8 - 1 = (q : Int) := by omega
    refine j_aload_n X dX10_unfold_15 rfl ?_
    refine j_dup X dX10_unfold_16 (fun _ h => by cases h) ?_
    refine j_getI X dX10_unfold_17 ff_X10_111 rfl rfl ?_
    refine j_iconst X dX10_unfold_20 ?_
    refine j_isub X dX10_unfold_21 ?_
    refine j_putI X dX10_unfold_22 fp_X10_111 rfl rfl ?_
    rw [hw8]
    refine j_iconst X dX10_unfold_25 ?_
    refine s_1 X dX10_unfold_26 rfl ?_
    have L_27 : ∀ (m : Nat) (f : Nat) (_ : f ≤ 4 * n * n) (_ : 4 * n * n - f < m), J κ LAY ad 0 0 27 [some (vR 54), some (vI (f : Int)), none, none] [] (unfM (wst w 54 8 (q : Int)) q f (3 * f)) := by
      intro m
      induction m with
      | zero => intros; exact absurd ‹_ < 0› (Nat.not_lt_zero _)
      | succ m ih27 =>
        intro f h1 h2
        refine j_iload_n X dX10_unfold_27 rfl ?_
        have hb8 : (unfM (wst w 54 8 (q : Int)) q f (3 * f)) 54 8 = (q : Int) := congrFun (unfM_o (by decide)) 8
        have hbn : nOk n (unfM (wst w 54 8 (q : Int)) q f (3 * f)) := ⟨hn.1, (congrFun (unfM_o (by decide)) 1).trans hn.2⟩
        refine j_aload_n X dX10_unfold_28 rfl ?_
        refine cV0i X mf_X10_facets mv_X10_facets ml_X10_97 (by decide) rfl rfl (Nat.le_of_ble_eq_true rfl) dX10_unfold_29 (sp_X10_facets hbn) (fun a_29 w_29 h_29 => ?_)
        obtain ⟨_, _⟩ := h_29
        subst a_29
        subst w_29
        refine j_icmp_ge (tgt := 145) X dX10_unfold_32 (by decide) ⟨by omega, by omega⟩ ⟨by omega, by omega⟩ (fun h_32 => ?_) (fun h_32 => ?_)
        · refine j_aload_n X dX10_unfold_145 rfl ?_
          rw [show f = 4 * n * n by omega]
          refine j_getI X dX10_unfold_146 ff_X10_111 rfl rfl ?_
          exact j_ireturn X hR dX10_unfold_149 (by rw [if_neg (by omega), hw8]; exact ⟨rfl, congrFun (unfM_o (by decide)) 8⟩)
        · refine j_sipush X dX10_unfold_35 (by decide +kernel) ?_
          refine j_aload_n X dX10_unfold_38 rfl ?_
          refine j_getI X dX10_unfold_39 ff_X10_111 rfl rfl ?_
          refine j_imul X dX10_unfold_42 ?_
          refine j_iload_n X dX10_unfold_43 rfl ?_
          refine j_iadd X dX10_unfold_44 ?_
          rw [hb8, c144]
          have h65 := hwz (144 * q + f) (by omega)
          refine s_2 X dX10_unfold_45 rfl ?_
          refine j_aload_n X dX10_unfold_46 rfl ?_
          refine j_getR X dX10_unfold_47 ff_X10_13 rfl rfl ?_
          refine j_iload_n X dX10_unfold_50 rfl ?_
          refine j_aload_n X dX10_unfold_51 rfl ?_
          refine j_getR X dX10_unfold_52 ff_X10_33 rfl rfl ?_
          refine j_iload_n X dX10_unfold_55 rfl ?_
          refine j_ialdk X dX10_unfold_56 rfl (by omega) (by decide) ?_
          rw [show (unfM (wst w 54 8 (q : Int)) q f (3 * f)) 61 (144 * q + f) = (wst w 54 8 (q : Int)) 61 (144 * q + f) from congrFun (unfM_o (w := (wst w 54 8 (q : Int))) (m := q) (a := f) (c := 3 * f) (o := 61) (by decide)) _]
          refine j_iastk X dX10_unfold_57 rfl (by omega) (by decide) ?_
          refine j_aload_n X dX10_unfold_58 rfl ?_
          refine j_getR X dX10_unfold_59 ff_X10_17 rfl rfl ?_
          refine j_iload_n X dX10_unfold_62 rfl ?_
          refine j_aload_n X dX10_unfold_63 rfl ?_
          refine j_getR X dX10_unfold_64 ff_X10_36 rfl rfl ?_
          refine j_iload_n X dX10_unfold_67 rfl ?_
          refine j_ialdk X dX10_unfold_68 rfl (by omega) (by decide) ?_
          rw [show (wst (unfM (wst w 54 8 (q : Int)) q f (3 * f)) 55 f ((wst w 54 8 (q : Int)) 61 (144 * q + f))) 62 (144 * q + f) = (wst w 54 8 (q : Int)) 62 (144 * q + f) from congrFun (unfM_o (w := (wst w 54 8 (q : Int))) (m := q) (a := f) (c := 3 * f) (o := 62) (by decide)) _]
          refine j_iastk X dX10_unfold_69 rfl (by omega) (by decide) ?_
          refine j_aload_n X dX10_unfold_70 rfl ?_
          refine j_getR X dX10_unfold_71 ff_X10_20 rfl rfl ?_
          refine j_iload_n X dX10_unfold_74 rfl ?_
          refine j_aload_n X dX10_unfold_75 rfl ?_
          refine j_getR X dX10_unfold_76 ff_X10_39 rfl rfl ?_
          refine j_iload_n X dX10_unfold_79 rfl ?_
          refine j_ialdk X dX10_unfold_80 rfl (by omega) (by decide) ?_
          rw [show (wst (wst (unfM (wst w 54 8 (q : Int)) q f (3 * f)) 55 f ((wst w 54 8 (q : Int)) 61 (144 * q + f))) 56 f ((wst w 54 8 (q : Int)) 62 (144 * q + f))) 63 (144 * q + f) = (wst w 54 8 (q : Int)) 63 (144 * q + f) from congrFun (unfM_o (w := (wst w 54 8 (q : Int))) (m := q) (a := f) (c := 3 * f) (o := 63) (by decide)) _]
          refine j_iastk X dX10_unfold_81 rfl (by omega) (by decide) ?_
          refine j_aload_n X dX10_unfold_82 rfl ?_
          refine j_getR X dX10_unfold_83 ff_X10_23 rfl rfl ?_
          refine j_iload_n X dX10_unfold_86 rfl ?_
          refine j_aload_n X dX10_unfold_87 rfl ?_
          refine j_getR X dX10_unfold_88 ff_X10_42 rfl rfl ?_
          refine j_iload_n X dX10_unfold_91 rfl ?_
          refine j_ialdk X dX10_unfold_92 rfl (by omega) (by decide) ?_
          rw [show (wst (wst (wst (unfM (wst w 54 8 (q : Int)) q f (3 * f)) 55 f ((wst w 54 8 (q : Int)) 61 (144 * q + f))) 56 f ((wst w 54 8 (q : Int)) 62 (144 * q + f))) 57 f ((wst w 54 8 (q : Int)) 63 (144 * q + f))) 64 (144 * q + f) = (wst w 54 8 (q : Int)) 64 (144 * q + f) from congrFun (unfM_o (w := (wst w 54 8 (q : Int))) (m := q) (a := f) (c := 3 * f) (o := 64) (by decide)) _]
          refine j_iastk X dX10_unfold_93 rfl (by omega) (by decide) ?_
          refine j_aload_n X dX10_unfold_94 rfl ?_
          refine j_getR X dX10_unfold_95 ff_X10_26 rfl rfl ?_
          refine j_iload_n X dX10_unfold_98 rfl ?_
          refine j_aload_n X dX10_unfold_99 rfl ?_
          refine j_getR X dX10_unfold_100 ff_X10_45 rfl rfl ?_
          refine j_iload_n X dX10_unfold_103 rfl ?_
          refine j_zaldk X dX10_unfold_104 rfl (by omega) (by decide) ?_
          rw [show (wst (wst (wst (wst (unfM (wst w 54 8 (q : Int)) q f (3 * f)) 55 f ((wst w 54 8 (q : Int)) 61 (144 * q + f))) 56 f ((wst w 54 8 (q : Int)) 62 (144 * q + f))) 57 f ((wst w 54 8 (q : Int)) 63 (144 * q + f))) 58 f ((wst w 54 8 (q : Int)) 64 (144 * q + f))) 65 (144 * q + f) = (wst w 54 8 (q : Int)) 65 (144 * q + f) from congrFun (unfM_o (w := (wst w 54 8 (q : Int))) (m := q) (a := f) (c := 3 * f) (o := 65) (by decide)) _]
          refine j_zastk X dX10_unfold_105 rfl (by omega) (by decide) h65 ?_
          rw [unfM_a]
          refine j_iconst X dX10_unfold_106 ?_
          refine s_3 X dX10_unfold_107 rfl ?_
          have L_108 : ∀ (m : Nat) (e : Nat) (_ : e ≤ 3) (_ : 3 - e < m), J κ LAY ad 0 0 108 [some (vR 54), some (vI (f : Int)), some (vI ((144 * q + f : Nat) : Int)), some (vI (e : Int))] [] (unfM (wst w 54 8 (q : Int)) q (f + 1) (3 * f + e)) := by
            intro m
            induction m with
            | zero => intros; exact absurd ‹_ < 0› (Nat.not_lt_zero _)
            | succ m ih108 =>
              intro e h3 h4
              refine j_iload_n X dX10_unfold_108 rfl ?_
              refine j_iconst X dX10_unfold_109 ?_
              refine j_icmp_ge (tgt := 139) X dX10_unfold_110 (by decide) ⟨by omega, by omega⟩ ⟨by omega, by omega⟩ (fun h_110 => ?_) (fun h_110 => ?_)
              · refine inc_1 X dX10_unfold_139 rfl ?_
                refine j_goto (tgt := 27) X dX10_unfold_142 (by decide) ?_
                refine fg_3 ?_
                refine fg_2 ?_
                obtain rfl : e = 3 := by omega
                exact ih27 (f + 1) (by omega) (by omega)
              · refine j_aload_n X dX10_unfold_113 rfl ?_
                refine j_getR X dX10_unfold_114 ff_X10_30 rfl rfl ?_
                refine j_iconst X dX10_unfold_117 ?_
                refine j_iload_n X dX10_unfold_118 rfl ?_
                refine j_imul X dX10_unfold_119 ?_
                refine j_iload_n X dX10_unfold_120 rfl ?_
                refine j_iadd X dX10_unfold_121 ?_
                rw [c3]
                refine j_aload_n X dX10_unfold_122 rfl ?_
                refine j_getR X dX10_unfold_123 ff_X10_48 rfl rfl ?_
                refine j_iconst X dX10_unfold_126 ?_
                refine j_iload_n X dX10_unfold_127 rfl ?_
                refine j_imul X dX10_unfold_128 ?_
                refine j_iload_n X dX10_unfold_129 rfl ?_
                refine j_iadd X dX10_unfold_130 ?_
                rw [c3k]
                refine j_ialdk X dX10_unfold_131 rfl (by omega) (by decide) ?_
                rw [show (unfM (wst w 54 8 (q : Int)) q (f + 1) (3 * f + e)) 66 (432 * q + (3 * f + e)) = (wst w 54 8 (q : Int)) 66 (432 * q + (3 * f + e)) from congrFun (unfM_o (by decide)) _]
                refine j_iastk X dX10_unfold_132 rfl (by omega) (by decide) ?_
                refine inc_3 X dX10_unfold_133 rfl ?_
                refine j_goto (tgt := 108) X dX10_unfold_136 (by decide) ?_
                rw [unfM_c]
                exact ih108 (e + 1) (by omega) (by omega)
          exact L_108 4 0 (by omega) (by omega)
    have h9 := L_27 (4 * n * n + 1) 0 (by omega) (by omega)
    rw [unfM_0] at h9
    exact h9
  · refine j_bipush X dX10_unfold_12 (by decide +kernel) ?_
    exact j_ireturn X hR dX10_unfold_14 (by rw [if_pos (by omega)]; exact ⟨rfl, rfl⟩)
set_option maxHeartbeats 4000000 in
set_option maxRecDepth 20000 in
theorem sp_X10_cut {n : Nat} {w : wd} (hm : MI n w) {sort l : Int} (hsr : rg sort) (hlr : rg l) {side : Int} (hdr : rg side) : CalI yX10_cut cX10_cut 5 .int 4 LAY w [vR 54, vI sort, vI l, vI side] (fun a w' => if isLine sort l ∧ isSide side then (if w 54 17 = 0 then (if mxf (fun k => if rto sort l w k then w 58 k + 1 else 0) (4 * n * n) ≤ w 54 16 then w' = ctM sort l side w (4 * n * n) ∧ a = sm (fun k => ib (ron sort l side w k)) (4 * n * n) else a = -4 ∧ w' = w) else a = -3 ∧ w' = w) else a = -2 ∧ w' = w) := by
  obtain ⟨hn, ht0, hp, hcr, hfe, hfi, hic, hfo, hkn⟩ := id hm
  have hN := nn_le hn.1.2
  have hn1 := hn.2
  have hn6 := hn.1
  refine calI_intro (ls := [some (vR 54), some (vI sort), some (vI l), some (vI side), none]) (by decide) (Nat.le_of_ble_eq_true rfl) rfl (fun κ ad X hR => ?_)
  refine j_aload_n X dX10_cut_0 rfl ?_
  refine j_iconst X dX10_cut_1 ?_
  refine j_putI X dX10_cut_2 fp_X10_94 rfl rfl ?_
  rw [thr0 ht0]
  refine j_iload_n X dX10_cut_5 rfl ?_
  refine j_iload_n X dX10_cut_6 rfl ?_
  refine cS2i X mf_X10_noLine ms_X10_noLine ml_X10_138 (by decide) (Nat.le_of_ble_eq_true rfl) dX10_cut_7 (sp_X10_noLine hsr hlr) (fun a_7 w_7 h_7 => ?_)
  obtain ⟨_, _⟩ := h_7
  subst a_7
  subst w_7
  refine jb_ne (tgt := 23) X dX10_cut_10 (by decide) (fun h_10 => ?_) (fun h_10 => ?_)
  · refine j_bipush X dX10_cut_23 (by decide +kernel) ?_
    exact j_ireturn X hR dX10_cut_25 (by rw [if_neg (fun z => h_10 z.1)]; exact ⟨rfl, rfl⟩)
  · have hln : isLine sort l := Decidable.not_not.mp h_10
    refine j_iload_n X dX10_cut_13 rfl ?_
    refine j_i2l X dX10_cut_14 ⟨by omega, by omega⟩ ?_
    refine j_lconst X dX10_cut_15 ?_
    refine j_lconst X dX10_cut_16 ?_
    refine cS3i X mf_X10_in ms_X10_in ml_X10_101 (by decide) (Nat.le_of_ble_eq_true rfl) dX10_cut_17 (sp_X10_in ⟨by omega, by omega⟩ ⟨by omega, by omega⟩ ⟨by omega, by omega⟩) (fun a_17 w_17 h_17 => ?_)
    obtain ⟨_, _⟩ := h_17
    subst a_17
    subst w_17
    refine jb_ne (tgt := 26) X dX10_cut_20 (by decide) (fun h_20 => ?_) (fun h_20 => ?_)
    · have hsd : isSide side := by simp only [isSide]; omega
      have hmx := mxf_b (f := fun k => if rto sort l w k then w 58 k + 1 else 0) (B := 1001) (4 * n * n) (fun k hk => by
        have h9 := (hp k hk).2.2.2.1
        by_cases z : rto sort l w k
        · rw [if_pos z]; omega
        · rw [if_neg z]; omega) (by decide)
      refine j_aload_n X dX10_cut_26 rfl ?_
      refine j_getI X dX10_cut_27 ff_X10_114 rfl rfl ?_
      refine j_if_eq (tgt := 36) X dX10_cut_30 (by decide) ⟨by omega, by omega⟩ (fun h_30 => ?_) (fun h_30 => ?_)
      · refine j_aload_n X dX10_cut_36 rfl ?_
        refine j_iload_n X dX10_cut_37 rfl ?_
        refine j_iload_n X dX10_cut_38 rfl ?_
        refine cV2i X mf_X10_thickOf mv_X10_thickOf ml_X10_190 (by decide) rfl rfl (Nat.le_of_ble_eq_true rfl) dX10_cut_39 (sp_X10_thickOf hn hp hln.1 ⟨by omega, by omega⟩) (fun a_39 w_39 h_39 => ?_)
        obtain ⟨_, _⟩ := h_39
        subst a_39
        subst w_39
        refine j_aload_n X dX10_cut_42 rfl ?_
        refine j_getI X dX10_cut_43 ff_X10_54 rfl rfl ?_
        refine j_icmp_le (tgt := 52) X dX10_cut_46 (by decide) ⟨by omega, by omega⟩ ⟨by omega, by omega⟩ (fun h_46 => ?_) (fun h_46 => ?_)
        · refine j_aload_n X dX10_cut_52 rfl ?_
          refine j_iconst X dX10_cut_53 ?_
          refine j_putZ X dX10_cut_54 fp_X10_114 rfl rfl (by first | exact Or.inl rfl | exact Or.inr rfl | assumption | omega) ?_
          rw [ctM_0 sort l side]
          refine j_iconst X dX10_cut_57 ?_
          refine s_4 X dX10_cut_58 rfl ?_
          have L_60 : ∀ (m : Nat) (k : Nat) (_ : k ≤ 4 * n * n) (_ : 4 * n * n - k < m), J κ LAY ad 0 0 60 [some (vR 54), some (vI sort), some (vI l), some (vI side), some (vI (k : Int))] [] (ctM sort l side w k) := by
            intro m
            induction m with
            | zero => intros; exact absurd ‹_ < 0› (Nat.not_lt_zero _)
            | succ m ih60 =>
              intro k h1 h2
              refine j_iload X dX10_cut_60 rfl ?_
              have hbn : nOk n (ctM sort l side w k) := ⟨hn.1, (ctM_i (by decide)).trans hn.2⟩
              refine j_aload_n X dX10_cut_62 rfl ?_
              refine cV0i X mf_X10_facets mv_X10_facets ml_X10_97 (by decide) rfl rfl (Nat.le_of_ble_eq_true rfl) dX10_cut_63 (sp_X10_facets hbn) (fun a_63 w_63 h_63 => ?_)
              obtain ⟨_, _⟩ := h_63
              subst a_63
              subst w_63
              refine j_icmp_ge (tgt := 117) X dX10_cut_66 (by decide) ⟨by omega, by omega⟩ ⟨by omega, by omega⟩ (fun h_66 => ?_) (fun h_66 => ?_)
              · rw [show k = 4 * n * n by omega]
                have hbn : nOk n (ctM sort l side w (4 * n * n)) := ⟨hn.1, (ctM_i (by decide)).trans hn.2⟩
                have hbp : ∀ k, k < 4 * n * n → PlM (ctM sort l side w (4 * n * n)) k := fun k hk => by unfold PlM; rw [ctM_o (by decide) (by decide), ctM_o (by decide) (by decide), ctM_o (by decide) (by decide), ctM_o (by decide) (by decide), ctM_o (by decide) (by decide)]; exact hp k hk
                refine j_aload_n X dX10_cut_117 rfl ?_
                refine j_iload_n X dX10_cut_118 rfl ?_
                refine j_iload_n X dX10_cut_119 rfl ?_
                refine j_iload_n X dX10_cut_120 rfl ?_
                refine cV3i X mf_X10_fallsOf mv_X10_fallsOf ml_X10_193 (by decide) rfl rfl (Nat.le_of_ble_eq_true rfl) dX10_cut_121 (sp_X10_fallsOf hbn hbp hln.1 ⟨by omega, by omega⟩ hsd) (fun a_121 w_121 h_121 => ?_)
                obtain ⟨_, _⟩ := h_121
                subst a_121
                subst w_121
                exact j_ireturn X hR dX10_cut_124 (by rw [if_pos ⟨hln, hsd⟩, if_pos (by omega), if_pos (by omega)]; exact ⟨rfl, sm_c (fun k hk => ib_c (by show isOn (rst sort (ctM sort l side w (4 * n * n)) k) l side ↔ _; rw [show rst sort (ctM sort l side w (4 * n * n)) k = rst sort w k by unfold rst; rw [ctM_o (by decide) (by decide), ctM_o (by decide) (by decide), ctM_o (by decide) (by decide)]]))⟩)
              · obtain ⟨p1, p2, p3, p4, p5⟩ := hp k (by omega)
                refine j_aload_n X dX10_cut_69 rfl ?_
                refine j_getR X dX10_cut_70 ff_X10_57 rfl rfl ?_
                refine j_iload X dX10_cut_73 rfl ?_
                refine j_iload_n X dX10_cut_75 rfl ?_
                refine j_iload_n X dX10_cut_76 rfl ?_
                refine j_aload_n X dX10_cut_77 rfl ?_
                refine j_getR X dX10_cut_78 ff_X10_13 rfl rfl ?_
                refine j_iload X dX10_cut_81 rfl ?_
                refine j_ialdk X dX10_cut_83 rfl (by omega) (by decide) ?_
                rw [show (ctM sort l side w k) 55 k = w 55 k from congrFun (ctM_o (by decide) (by decide)) k]
                refine j_aload_n X dX10_cut_84 rfl ?_
                refine j_getR X dX10_cut_85 ff_X10_17 rfl rfl ?_
                refine j_iload X dX10_cut_88 rfl ?_
                refine j_ialdk X dX10_cut_90 rfl (by omega) (by decide) ?_
                rw [show (ctM sort l side w k) 56 k = w 56 k from congrFun (ctM_o (by decide) (by decide)) k]
                refine j_aload_n X dX10_cut_91 rfl ?_
                refine j_getR X dX10_cut_92 ff_X10_20 rfl rfl ?_
                refine j_iload X dX10_cut_95 rfl ?_
                refine j_ialdk X dX10_cut_97 rfl (by omega) (by decide) ?_
                rw [show (ctM sort l side w k) 57 k = w 57 k from congrFun (ctM_o (by decide) (by decide)) k]
                refine cS5i X mf_X10_sideOf ms_X10_sideOf ml_X10_142 (by decide) (Nat.le_of_ble_eq_true rfl) dX10_cut_98 (sp_X10_sideOf hln.1 ⟨by omega, by omega⟩ ⟨by omega, by omega⟩ ⟨by omega, by omega⟩ p3) (fun a_98 w_98 h_98 => ?_)
                obtain ⟨_, _⟩ := h_98
                subst a_98
                subst w_98
                refine j_iload_n X dX10_cut_101 rfl ?_
                refine j_icmp_ne (tgt := 109) X dX10_cut_102 (by decide) ib_rg ⟨by omega, by omega⟩ (fun h_102 => ?_) (fun h_102 => ?_)
                · refine j_iconst X dX10_cut_109 ?_
                  refine j_zastk X dX10_cut_110 rfl (by omega) (by decide) (by first | exact Or.inl rfl | exact Or.inr rfl | assumption | omega) ?_
                  refine inc_4 X dX10_cut_111 rfl ?_
                  refine j_goto (tgt := 60) X dX10_cut_114 (by decide) ?_
                  have h9 := ih60 (k + 1) (by omega) (by omega)
                  rw [← ctM_s, show ib (ron sort l side w k) = 0 from ib_f (fun z => h_102 ((ib_on hsd).mpr z))] at h9
                  exact h9
                · refine j_iconst X dX10_cut_105 ?_
                  refine j_goto (tgt := 110) X dX10_cut_106 (by decide) ?_
                  refine j_zastk X dX10_cut_110 rfl (by omega) (by decide) (by first | exact Or.inl rfl | exact Or.inr rfl | assumption | omega) ?_
                  refine inc_4 X dX10_cut_111 rfl ?_
                  refine j_goto (tgt := 60) X dX10_cut_114 (by decide) ?_
                  have h9 := ih60 (k + 1) (by omega) (by omega)
                  rw [← ctM_s, show ib (ron sort l side w k) = 1 from ib_t ((ib_on hsd).mp h_102)] at h9
                  exact h9
          exact L_60 (4 * n * n + 1) 0 (by omega) (by omega)
        · refine j_bipush X dX10_cut_49 (by decide +kernel) ?_
          exact j_ireturn X hR dX10_cut_51 (by rw [if_pos ⟨hln, hsd⟩, if_pos (by omega), if_neg (by omega)]; exact ⟨rfl, rfl⟩)
      · refine j_bipush X dX10_cut_33 (by decide +kernel) ?_
        exact j_ireturn X hR dX10_cut_35 (by rw [if_pos ⟨hln, hsd⟩, if_neg (by omega)]; exact ⟨rfl, rfl⟩)
    · refine j_bipush X dX10_cut_23 (by decide +kernel) ?_
      exact j_ireturn X hR dX10_cut_25 (by rw [if_neg (fun z => by have := z.2; simp only [isSide] at this; omega)]; exact ⟨rfl, rfl⟩)
