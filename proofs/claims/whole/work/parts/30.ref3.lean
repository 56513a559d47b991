/-! ===== the reference: creases, lines, figure ===== -/
def rcT (n : Nat) (w : wd) (K : Int) (k : Nat) : Int := sm (fun e => ib ((k : Int) < nb n k e ∧ w 60 (3 * k + e) = K)) 3
def slI (n : Nat) (x y q : Int) : Int := if (0 ≤ x ∧ x < n) ∧ (0 ≤ y ∧ y < n) then 3 * (4 * (y * n + x) + q) + 1 else -1
def ouI (n : Nat) (x y q : Int) : Int := if ((0 ≤ x ∧ x < n) ∧ (0 ≤ y ∧ y < n)) ∧ nb n (4 * (y * n + x) + q).toNat 0 ≠ -99999 then 3 * (4 * (y * n + x) + q) else -1
def okPt (n : Nat) (x y b : Int) : Prop := 0 ≤ x ∧ 0 ≤ y ∧ ((b = 1 ∧ x < n ∧ y < n) ∨ (b = 0 ∧ x ≤ n ∧ y ≤ n))
def gE (w : wd) (i : Int) : Int := if 0 ≤ i then w 60 i.toNat else 0
def enI (n : Nat) (x y b : Int) (i : Nat) : Int := if b = 1 then (if i < 4 then slI n x y i else -1) else if i = 0 then slI n x y 3 else if i = 1 then slI n (x - 1) y 0 else if i = 2 then slI n (x - 1) (y - 1) 1 else if i = 3 then slI n x (y - 1) 2 else if i = 4 then ouI n x y 0 else if i = 5 then ouI n (x - 1) y 0 else if i = 6 then ouI n x y 3 else ouI n x (y - 1) 3
theorem gE_no {w : wd} {i : Int} (h : i = -1) : gE w i = 0 := by
  subst h; rfl
theorem gE_yes {w : wd} {i : Int} {j : Nat} (h : i = (j : Int)) : gE w i = w 60 j := by
  subst h; unfold gE; rw [if_pos (by omega)]; rfl
theorem sl_no {n : Nat} {x y q : Int} (h : ¬ ((0 ≤ x ∧ x < n) ∧ (0 ≤ y ∧ y < n))) : slI n x y q = -1 := if_neg h
theorem sl_yes {n : Nat} {x y q : Int} (h : (0 ≤ x ∧ x < n) ∧ (0 ≤ y ∧ y < n)) : slI n x y q = 3 * (4 * (y * n + x) + q) + 1 := if_pos h
theorem sl_bd {n : Nat} {x y q : Int} (hq : 0 ≤ q ∧ q < 4) (hn : n ≤ 6) : slI n x y q = -1 ∨ ∃ j : Nat, slI n x y q = (j : Int) ∧ j < 432 := by
  unfold slI
  split
  · rename_i h
    obtain ⟨j, hj, hjN⟩ := mir_nat h.1 h.2 hq
    have := nn_le hn
    exact Or.inr ⟨3 * j + 1, by omega, by omega⟩
  · exact Or.inl rfl
theorem ou_bd {n : Nat} {x y q : Int} (hq : 0 ≤ q ∧ q < 4) (hn : n ≤ 6) : ouI n x y q = -1 ∨ ∃ j : Nat, ouI n x y q = (j : Int) ∧ j < 432 := by
  unfold ouI
  split
  · rename_i h
    obtain ⟨j, hj, hjN⟩ := mir_nat h.1.1 h.1.2 hq
    have := nn_le hn
    exact Or.inr ⟨3 * j, by omega, by omega⟩
  · exact Or.inl rfl
theorem en_bd {n : Nat} {x y b : Int} {i : Nat} (hi : i < 8) (hn : n ≤ 6) : enI n x y b i = -1 ∨ ∃ j : Nat, enI n x y b i = (j : Int) ∧ j < 432 := by
  unfold enI
  split
  · split
    · exact sl_bd ⟨by omega, by omega⟩ hn
    · exact Or.inl rfl
  · (repeat' split) <;> first | exact sl_bd ⟨by decide, by decide⟩ hn | exact ou_bd ⟨by decide, by decide⟩ hn
theorem gE_rg {w : wd} {i : Int} (h : ∀ i, i < 432 → 0 ≤ w 60 i ∧ w 60 i ≤ 2) (hi : i = -1 ∨ ∃ j : Nat, i = (j : Int) ∧ j < 432) : 0 ≤ gE w i ∧ gE w i ≤ 2 := by
  rcases hi with z | ⟨j, z, hj⟩
  · rw [gE_no z]; omega
  · rw [gE_yes z]; exact h j hj
def rst (s : Int) (w : wd) (k : Nat) : Int := strip s (w 55 k) (w 56 k) (w 57 k)
abbrev ron (s l d : Int) (w : wd) (k : Nat) : Prop := isOn (rst s w k) l d
abbrev rto (s l : Int) (w : wd) (k : Nat) : Prop := touch s l (w 55 k) (w 56 k) (w 57 k)
theorem bal_s {f g : Nat → Int} {d c : Int} {i : Nat} (h : d = sm f i - sm g i) (hc : c = f i - g i) : d + c = sm f (i + 1) - sm g (i + 1) := by
  rw [sm_s, sm_s]; omega
theorem deg_s {f g : Nat → Int} {d c : Int} {i : Nat} (h : d = sm f i + sm g i) (hc : c = f i + g i) : d + c = sm f (i + 1) + sm g (i + 1) := by
  rw [sm_s, sm_s]; omega
set_option maxHeartbeats 4000000 in
set_option maxRecDepth 20000 in
theorem sp_X10_creases {n : Nat} {w : wd} (hm : MI n w) {b : Int} (hb : b = 0 ∨ b = 1) : CalI yX10_creases cX10_creases 6 .int 3 LAY w [vR 54, vI b] (fun a w' => a = sm (rcT n w (if b = 0 then 1 else 2)) (4 * n * n) ∧ w' = w) := by
  obtain ⟨hn, ht0, hp, hcr, hfe, hfi, hic, hfo, hkn⟩ := id hm
  have hN := nn_le hn.1.2
  have hn1 := hn.2
  have hn6 := hn.1
  refine calI_intro (ls := [some (vR 54), some (vI b), none, none, none, none]) (by decide) (Nat.le_of_ble_eq_true rfl) rfl (fun κ ad X hR => ?_)
  refine j_aload_n X dX10_creases_0 rfl ?_
  refine j_iconst X dX10_creases_1 ?_
  refine j_putI X dX10_creases_2 fp_X10_94 rfl rfl ?_
  rw [thr0 ht0]
  refine j_iconst X dX10_creases_5 ?_
  refine s_2 X dX10_creases_6 rfl ?_
  refine j_iconst X dX10_creases_7 ?_
  refine s_3 X dX10_creases_8 rfl ?_
  have L_9 : ∀ (m : Nat) (k : Nat) (c : Int) (_ : c = sm (rcT n w (if b = 0 then 1 else 2)) k) (_ : k ≤ 4 * n * n) (_ : 4 * n * n - k < m), J κ LAY ad 0 0 9 [some (vR 54), some (vI b), some (vI c), some (vI (k : Int)), none, none] [] w := by
    intro m
    induction m with
    | zero => intros; exact absurd ‹_ < 0› (Nat.not_lt_zero _)
    | succ m ih9 =>
      intro k c hc h1 h2
      refine j_iload_n X dX10_creases_9 rfl ?_
      refine j_aload_n X dX10_creases_10 rfl ?_
      refine cV0i X mf_X10_facets mv_X10_facets ml_X10_97 (by decide) rfl rfl (Nat.le_of_ble_eq_true rfl) dX10_creases_11 (sp_X10_facets hn) (fun a_11 w_11 h_11 => ?_)
      obtain ⟨_, _⟩ := h_11
      subst a_11
      subst w_11
      refine j_icmp_ge (tgt := 91) X dX10_creases_14 (by decide) ⟨by omega, by omega⟩ ⟨by omega, by omega⟩ (fun h_14 => ?_) (fun h_14 => ?_)
      · refine j_iload_n X dX10_creases_91 rfl ?_
        exact j_ireturn X hR dX10_creases_92 ⟨by rw [hc, show k = 4 * n * n by omega], rfl⟩
      · refine j_iconst X dX10_creases_17 ?_
        refine s_4 X dX10_creases_18 rfl ?_
        have L_20 : ∀ (m : Nat) (e : Nat) (d : Int) (_ : d = c + sm (fun e => ib ((k : Int) < nb n k e ∧ w 60 (3 * k + e) = (if b = 0 then 1 else 2))) e) (_ : e ≤ 3) (_ : 3 - e < m), J κ LAY ad 0 0 20 [some (vR 54), some (vI b), some (vI d), some (vI (k : Int)), some (vI (e : Int)), none] [] w := by
          intro m
          induction m with
          | zero => intros; exact absurd ‹_ < 0› (Nat.not_lt_zero _)
          | succ m ih20 =>
            intro e d hd h3 h4
            refine j_iload X dX10_creases_20 rfl ?_
            refine j_iconst X dX10_creases_22 ?_
            refine j_icmp_ge (tgt := 85) X dX10_creases_23 (by decide) ⟨by omega, by omega⟩ ⟨by omega, by omega⟩ (fun h_23 => ?_) (fun h_23 => ?_)
            · refine inc_3 X dX10_creases_85 rfl ?_
              refine j_goto (tgt := 9) X dX10_creases_88 (by decide) ?_
              refine fg_4 ?_
              refine fg_5 ?_
              exact ih9 (k + 1) _ (by rw [hd, sm_s, hc, show e = 3 by omega]; rfl) (by omega) (by omega)
            · have hk : k < 4 * n * n := by omega
              have he : e < 3 := by omega
              have hnb := nb_b hn6 hk he
              refine j_aload_n X dX10_creases_26 rfl ?_
              refine j_iload_n X dX10_creases_27 rfl ?_
              refine j_iload X dX10_creases_28 rfl ?_
              refine cV2i X mf_X10_nextTo mv_X10_nextTo ml_X10_149 (by decide) rfl rfl (Nat.le_of_ble_eq_true rfl) dX10_creases_30 (sp_X10_nextTo hn hk he) (fun a_30 w_30 h_30 => ?_)
              obtain ⟨_, _⟩ := h_30
              subst a_30
              subst w_30
              refine s_5 X dX10_creases_33 rfl ?_
              refine j_iload_n X dX10_creases_35 rfl ?_
              refine j_iload X dX10_creases_36 rfl ?_
              refine j_ldc X dX10_creases_38 kc_X10_135 ?_
              refine j_icmp_eq (tgt := 76) X dX10_creases_40 (by decide) ⟨by omega, by omega⟩ ⟨by omega, by omega⟩ (fun h_40 => ?_) (fun h_40 => ?_)
              · refine j_iconst X dX10_creases_76 ?_
                refine j_iadd X dX10_creases_77 ?_
                refine s_2 X dX10_creases_78 rfl ?_
                refine inc_4 X dX10_creases_79 rfl ?_
                refine j_goto (tgt := 20) X dX10_creases_82 (by decide) ?_
                refine fg_5 ?_
                exact ih20 (e + 1) _ (acc_f hd (ib_f (fun q => by have := q.1; omega))) (by omega) (by omega)
              · refine j_iload_n X dX10_creases_43 rfl ?_
                refine j_iload X dX10_creases_44 rfl ?_
                refine j_icmp_ge (tgt := 76) X dX10_creases_46 (by decide) ⟨by omega, by omega⟩ ⟨by omega, by omega⟩ (fun h_46 => ?_) (fun h_46 => ?_)
                · refine j_iconst X dX10_creases_76 ?_
                  refine j_iadd X dX10_creases_77 ?_
                  refine s_2 X dX10_creases_78 rfl ?_
                  refine inc_4 X dX10_creases_79 rfl ?_
                  refine j_goto (tgt := 20) X dX10_creases_82 (by decide) ?_
                  refine fg_5 ?_
                  exact ih20 (e + 1) _ (acc_f hd (ib_f (fun q => by have := q.1; omega))) (by omega) (by omega)
                · refine j_aload_n X dX10_creases_49 rfl ?_
                  refine j_getR X dX10_creases_50 ff_X10_30 rfl rfl ?_
                  refine j_iconst X dX10_creases_53 ?_
                  refine j_iload_n X dX10_creases_54 rfl ?_
                  refine j_imul X dX10_creases_55 ?_
                  refine j_iload X dX10_creases_56 rfl ?_
                  refine j_iadd X dX10_creases_58 ?_
                  rw [c3]
                  refine j_ialdk X dX10_creases_59 rfl (by omega) (by decide) ?_
                  refine j_iload_n X dX10_creases_60 rfl ?_
                  have C_69 : J κ LAY ad 0 0 69 [some (vR 54), some (vI b), some (vI d), some (vI (k : Int)), some (vI (e : Int)), some (vI (nb n k e))] [vI (if b = 0 then 1 else 2), vI (w 60 (3 * k + e)), vI d] w := by
                    skip
                    have hKr : (1 : Int) ≤ (if b = 0 then (1 : Int) else 2) ∧ (if b = 0 then (1 : Int) else 2) ≤ 2 := by split <;> omega
                    have hc60 := hcr (3 * k + e) (by omega)
                    refine j_icmp_ne (tgt := 76) X dX10_creases_69 (by decide) ⟨by omega, by omega⟩ ⟨by omega, by omega⟩ (fun h_69 => ?_) (fun h_69 => ?_)
                    · refine j_iconst X dX10_creases_76 ?_
                      refine j_iadd X dX10_creases_77 ?_
                      refine s_2 X dX10_creases_78 rfl ?_
                      refine inc_4 X dX10_creases_79 rfl ?_
                      refine j_goto (tgt := 20) X dX10_creases_82 (by decide) ?_
                      refine fg_5 ?_
                      exact ih20 (e + 1) _ (acc_f hd (ib_f (fun q => by have := q.2; omega))) (by omega) (by omega)
                    · refine j_iconst X dX10_creases_72 ?_
                      refine j_goto (tgt := 77) X dX10_creases_73 (by decide) ?_
                      refine j_iadd X dX10_creases_77 ?_
                      refine s_2 X dX10_creases_78 rfl ?_
                      refine inc_4 X dX10_creases_79 rfl ?_
                      refine j_goto (tgt := 20) X dX10_creases_82 (by decide) ?_
                      refine fg_5 ?_
                      exact ih20 (e + 1) _ (acc_t hd (ib_t ⟨by omega, by omega⟩)) (by omega) (by omega)
                  refine j_if_eq (tgt := 68) X dX10_creases_61 (by decide) ⟨by omega, by omega⟩ (fun h_61 => ?_) (fun h_61 => ?_)
                  · refine j_iconst X dX10_creases_68 ?_
                    rw [if_pos (by omega)] at C_69
                    exact C_69
                  · refine j_iconst X dX10_creases_64 ?_
                    refine j_goto (tgt := 69) X dX10_creases_65 (by decide) ?_
                    rw [if_neg (by omega)] at C_69
                    exact C_69
        exact L_20 4 0 c (by rw [sm_0]; omega) (by omega) (by omega)
  exact L_9 (4 * n * n + 1) 0 0 rfl (by omega) (by omega)
set_option maxHeartbeats 4000000 in
set_option maxRecDepth 20000 in
theorem sp_X10_slant {n : Nat} {w : wd} (hn : nOk n w) {x y q : Int} (hx : -10 ≤ x ∧ x ≤ 10) (hy : -10 ≤ y ∧ y ≤ 10) (hq : 0 ≤ q ∧ q < 4) : CalI yX10_slant cX10_slant 4 .int 2 LAY w [vR 54, vI x, vI y, vI q] (fun a w' => a = gE w (slI n x y q) ∧ w' = w) := by
  have hN := nn_le hn.1.2
  have hn1 := hn.2
  have hn6 := hn.1
  refine calI_intro (ls := [some (vR 54), some (vI x), some (vI y), some (vI q)]) (by decide) (Nat.le_of_ble_eq_true rfl) rfl (fun κ ad X hR => ?_)
  refine j_iload_n X dX10_slant_0 rfl ?_
  refine j_i2l X dX10_slant_1 ⟨by omega, by omega⟩ ?_
  refine j_lconst X dX10_slant_2 ?_
  refine j_aload_n X dX10_slant_3 rfl ?_
  refine j_getI X dX10_slant_4 ff_X10_7 rfl rfl ?_
  refine j_iconst X dX10_slant_7 ?_
  refine j_isub X dX10_slant_8 ?_
  refine j_i2l X dX10_slant_9 ⟨by omega, by omega⟩ ?_
  refine cS3i X mf_X10_in ms_X10_in ml_X10_101 (by decide) (Nat.le_of_ble_eq_true rfl) dX10_slant_10 (sp_X10_in ⟨by omega, by omega⟩ ⟨by omega, by omega⟩ ⟨by omega, by omega⟩) (fun a_10 w_10 h_10 => ?_)
  obtain ⟨_, _⟩ := h_10
  subst a_10
  subst w_10
  refine jb_eq (tgt := 56) X dX10_slant_13 (by decide) (fun h_13 => ?_) (fun h_13 => ?_)
  · refine j_iconst X dX10_slant_56 ?_
    exact j_ireturn X hR dX10_slant_57 ⟨(gE_no (sl_no (by omega))).symm, rfl⟩
  · refine j_iload_n X dX10_slant_16 rfl ?_
    refine j_i2l X dX10_slant_17 ⟨by omega, by omega⟩ ?_
    refine j_lconst X dX10_slant_18 ?_
    refine j_aload_n X dX10_slant_19 rfl ?_
    refine j_getI X dX10_slant_20 ff_X10_7 rfl rfl ?_
    refine j_iconst X dX10_slant_23 ?_
    refine j_isub X dX10_slant_24 ?_
    refine j_i2l X dX10_slant_25 ⟨by omega, by omega⟩ ?_
    refine cS3i X mf_X10_in ms_X10_in ml_X10_101 (by decide) (Nat.le_of_ble_eq_true rfl) dX10_slant_26 (sp_X10_in ⟨by omega, by omega⟩ ⟨by omega, by omega⟩ ⟨by omega, by omega⟩) (fun a_26 w_26 h_26 => ?_)
    obtain ⟨_, _⟩ := h_26
    subst a_26
    subst w_26
    refine jb_eq (tgt := 56) X dX10_slant_29 (by decide) (fun h_29 => ?_) (fun h_29 => ?_)
    · refine j_iconst X dX10_slant_56 ?_
      exact j_ireturn X hR dX10_slant_57 ⟨(gE_no (sl_no (by omega))).symm, rfl⟩
    · obtain ⟨j, hj, hjN⟩ := mir_nat (n := n) (show 0 ≤ x ∧ x < (n : Int) by omega) (show 0 ≤ y ∧ y < (n : Int) by omega) hq
      refine j_aload_n X dX10_slant_32 rfl ?_
      refine j_getR X dX10_slant_33 ff_X10_30 rfl rfl ?_
      refine j_iconst X dX10_slant_36 ?_
      refine j_iconst X dX10_slant_37 ?_
      refine j_iload_n X dX10_slant_38 rfl ?_
      refine j_aload_n X dX10_slant_39 rfl ?_
      refine j_getI X dX10_slant_40 ff_X10_7 rfl rfl ?_
      refine j_imul X dX10_slant_43 ?_
      refine j_iload_n X dX10_slant_44 rfl ?_
      refine j_iadd X dX10_slant_45 ?_
      refine j_imul X dX10_slant_46 ?_
      refine j_iload_n X dX10_slant_47 rfl ?_
      refine j_iadd X dX10_slant_48 ?_
      refine j_imul X dX10_slant_49 ?_
      refine j_iconst X dX10_slant_50 ?_
      refine j_iadd X dX10_slant_51 ?_
      rw [hn1, hj, show (3 : Int) * (j : Int) + 1 = ((3 * j + 1 : Nat) : Int) by omega]
      refine j_ialdk X dX10_slant_52 rfl (by omega) (by decide) ?_
      refine j_goto (tgt := 57) X dX10_slant_53 (by decide) ?_
      exact j_ireturn X hR dX10_slant_57 ⟨(gE_yes ((sl_yes ⟨⟨by omega, by omega⟩, ⟨by omega, by omega⟩⟩).trans (by omega))).symm, rfl⟩
set_option maxHeartbeats 4000000 in
set_option maxRecDepth 20000 in
theorem sp_X10_outer {n : Nat} {w : wd} (hn : nOk n w) {x y q : Int} (hx : -10 ≤ x ∧ x ≤ 10) (hy : -10 ≤ y ∧ y ≤ 10) (hq : 0 ≤ q ∧ q < 4) : CalI yX10_outer cX10_outer 4 .int 3 LAY w [vR 54, vI x, vI y, vI q] (fun a w' => a = gE w (ouI n x y q) ∧ w' = w) := by
  have hN := nn_le hn.1.2
  have hn1 := hn.2
  have hn6 := hn.1
  refine calI_intro (ls := [some (vR 54), some (vI x), some (vI y), some (vI q)]) (by decide) (Nat.le_of_ble_eq_true rfl) rfl (fun κ ad X hR => ?_)
  refine j_iload_n X dX10_outer_0 rfl ?_
  refine j_i2l X dX10_outer_1 ⟨by omega, by omega⟩ ?_
  refine j_lconst X dX10_outer_2 ?_
  refine j_aload_n X dX10_outer_3 rfl ?_
  refine j_getI X dX10_outer_4 ff_X10_7 rfl rfl ?_
  refine j_iconst X dX10_outer_7 ?_
  refine j_isub X dX10_outer_8 ?_
  refine j_i2l X dX10_outer_9 ⟨by omega, by omega⟩ ?_
  refine cS3i X mf_X10_in ms_X10_in ml_X10_101 (by decide) (Nat.le_of_ble_eq_true rfl) dX10_outer_10 (sp_X10_in ⟨by omega, by omega⟩ ⟨by omega, by omega⟩ ⟨by omega, by omega⟩) (fun a_10 w_10 h_10 => ?_)
  obtain ⟨_, _⟩ := h_10
  subst a_10
  subst w_10
  refine jb_eq (tgt := 76) X dX10_outer_13 (by decide) (fun h_13 => ?_) (fun h_13 => ?_)
  · refine j_iconst X dX10_outer_76 ?_
    exact j_ireturn X hR dX10_outer_77 ⟨(gE_no (if_neg (fun z => absurd z.1.1 (by omega)))).symm, rfl⟩
  · refine j_iload_n X dX10_outer_16 rfl ?_
    refine j_i2l X dX10_outer_17 ⟨by omega, by omega⟩ ?_
    refine j_lconst X dX10_outer_18 ?_
    refine j_aload_n X dX10_outer_19 rfl ?_
    refine j_getI X dX10_outer_20 ff_X10_7 rfl rfl ?_
    refine j_iconst X dX10_outer_23 ?_
    refine j_isub X dX10_outer_24 ?_
    refine j_i2l X dX10_outer_25 ⟨by omega, by omega⟩ ?_
    refine cS3i X mf_X10_in ms_X10_in ml_X10_101 (by decide) (Nat.le_of_ble_eq_true rfl) dX10_outer_26 (sp_X10_in ⟨by omega, by omega⟩ ⟨by omega, by omega⟩ ⟨by omega, by omega⟩) (fun a_26 w_26 h_26 => ?_)
    obtain ⟨_, _⟩ := h_26
    subst a_26
    subst w_26
    refine jb_eq (tgt := 76) X dX10_outer_29 (by decide) (fun h_29 => ?_) (fun h_29 => ?_)
    · refine j_iconst X dX10_outer_76 ?_
      exact j_ireturn X hR dX10_outer_77 ⟨(gE_no (if_neg (fun z => absurd z.1.2 (by omega)))).symm, rfl⟩
    · have hxr : 0 ≤ x ∧ x < (n : Int) := by omega
      have hyr : 0 ≤ y ∧ y < (n : Int) := by omega
      obtain ⟨j, hj, hjN⟩ := mir_nat (n := n) hxr hyr hq
      have hnb := nb_b hn6 hjN (show 0 < 3 by decide)
      have hjt : (4 * (y * n + x) + q).toNat = j := by rw [hj]; rfl
      refine j_aload_n X dX10_outer_32 rfl ?_
      refine j_iconst X dX10_outer_33 ?_
      refine j_iload_n X dX10_outer_34 rfl ?_
      refine j_aload_n X dX10_outer_35 rfl ?_
      refine j_getI X dX10_outer_36 ff_X10_7 rfl rfl ?_
      refine j_imul X dX10_outer_39 ?_
      refine j_iload_n X dX10_outer_40 rfl ?_
      refine j_iadd X dX10_outer_41 ?_
      refine j_imul X dX10_outer_42 ?_
      refine j_iload_n X dX10_outer_43 rfl ?_
      refine j_iadd X dX10_outer_44 ?_
      refine j_iconst X dX10_outer_45 ?_
      rw [hn1, hj]
      refine cV2i X mf_X10_nextTo mv_X10_nextTo ml_X10_149 (by decide) rfl rfl (Nat.le_of_ble_eq_true rfl) dX10_outer_46 (sp_X10_nextTo (e := 0) hn hjN (by decide)) (fun a_46 w_46 h_46 => ?_)
      obtain ⟨_, _⟩ := h_46
      subst a_46
      subst w_46
      refine j_ldc X dX10_outer_49 kc_X10_135 ?_
      refine j_icmp_eq (tgt := 76) X dX10_outer_51 (by decide) ⟨by omega, by omega⟩ ⟨by omega, by omega⟩ (fun h_51 => ?_) (fun h_51 => ?_)
      · refine j_iconst X dX10_outer_76 ?_
        exact j_ireturn X hR dX10_outer_77 ⟨(gE_no (if_neg (fun z => z.2 (by rw [hjt]; omega)))).symm, rfl⟩
      · refine j_aload_n X dX10_outer_54 rfl ?_
        refine j_getR X dX10_outer_55 ff_X10_30 rfl rfl ?_
        refine j_iconst X dX10_outer_58 ?_
        refine j_iconst X dX10_outer_59 ?_
        refine j_iload_n X dX10_outer_60 rfl ?_
        refine j_aload_n X dX10_outer_61 rfl ?_
        refine j_getI X dX10_outer_62 ff_X10_7 rfl rfl ?_
        refine j_imul X dX10_outer_65 ?_
        refine j_iload_n X dX10_outer_66 rfl ?_
        refine j_iadd X dX10_outer_67 ?_
        refine j_imul X dX10_outer_68 ?_
        refine j_iload_n X dX10_outer_69 rfl ?_
        refine j_iadd X dX10_outer_70 ?_
        refine j_imul X dX10_outer_71 ?_
        rw [hn1, hj, show (3 : Int) * (j : Int) = ((3 * j : Nat) : Int) by omega]
        refine j_ialdk X dX10_outer_72 rfl (by omega) (by decide) ?_
        refine j_goto (tgt := 77) X dX10_outer_73 (by decide) ?_
        exact j_ireturn X hR dX10_outer_77 ⟨(gE_yes ((show ouI n x y q = 3 * (4 * (y * n + x) + q) from if_pos ⟨⟨hxr, hyr⟩, by rw [hjt]; omega⟩).trans (by omega))).symm, rfl⟩
set_option maxHeartbeats 4000000 in
set_option maxRecDepth 20000 in
theorem sp_X10_ends {n : Nat} {w : wd} (hn : nOk n w) {x y b : Int} {i : Nat} (hx : 0 ≤ x ∧ x ≤ 6) (hy : 0 ≤ y ∧ y ≤ 6) (hb : b = 0 ∨ b = 1) (hi : i < 8) : CalI yX10_ends cX10_ends 5 .int 4 LAY w [vR 54, vI x, vI y, vI b, vI (i : Int)] (fun a w' => a = gE w (enI n x y b i) ∧ w' = w) := by
  refine calI_intro (ls := [some (vR 54), some (vI x), some (vI y), some (vI b), some (vI (i : Int))]) (by decide) (Nat.le_of_ble_eq_true rfl) rfl (fun κ ad X hR => ?_)
  refine j_iload_n X dX10_ends_0 rfl ?_
  refine j_if_eq (tgt := 23) X dX10_ends_1 (by decide) ⟨by omega, by omega⟩ (fun h_1 => ?_) (fun h_1 => ?_)
  · have hb0 : ¬ b = 1 := by omega
    refine j_iload X dX10_ends_23 rfl ?_
    obtain ⟨ii, hii⟩ : ∃ ii : Int, ii = (i : Int) := ⟨_, rfl⟩
    rw [← hii]
    rcases (by omega : ii = 0 ∨ ii = 1 ∨ ii = 2 ∨ ii = 3 ∨ ii = 4 ∨ ii = 5 ∨ ii = 6 ∨ (ii < 0 ∨ 6 < ii)) with rfl | rfl | rfl | rfl | rfl | rfl | rfl | hsw
    · refine j_tabIn (off := 43) (tgt := 68) X dX10_ends_25 ⟨by decide, by decide⟩ (by decide) (by decide) rfl (by decide) ?_
      refine j_aload_n X dX10_ends_68 rfl ?_
      refine j_iload_n X dX10_ends_69 rfl ?_
      refine j_iload_n X dX10_ends_70 rfl ?_
      refine j_iconst X dX10_ends_71 ?_
      refine cV3i X mf_X10_slant mv_X10_slant ml_X10_170 (by decide) rfl rfl (Nat.le_of_ble_eq_true rfl) dX10_ends_72 (sp_X10_slant hn ⟨by omega, by omega⟩ ⟨by omega, by omega⟩ ⟨by omega, by omega⟩) (fun a_72 w_72 h_72 => ?_)
      obtain ⟨_, _⟩ := h_72
      subst a_72
      subst w_72
      exact j_ireturn X hR dX10_ends_75 ⟨by unfold enI; rw [if_neg hb0]; (first | rw [show i = 0 by omega] | rw [show i = 1 by omega] | rw [show i = 2 by omega] | rw [show i = 3 by omega] | rw [show i = 4 by omega] | rw [show i = 5 by omega] | rw [show i = 6 by omega] | rw [show i = 7 by omega]) <;> rfl, rfl⟩
    · refine j_tabIn (off := 51) (tgt := 76) X dX10_ends_25 ⟨by decide, by decide⟩ (by decide) (by decide) rfl (by decide) ?_
      refine j_aload_n X dX10_ends_76 rfl ?_
      refine j_iload_n X dX10_ends_77 rfl ?_
      refine j_iconst X dX10_ends_78 ?_
      refine j_isub X dX10_ends_79 ?_
      refine j_iload_n X dX10_ends_80 rfl ?_
      refine j_iconst X dX10_ends_81 ?_
      refine cV3i X mf_X10_slant mv_X10_slant ml_X10_170 (by decide) rfl rfl (Nat.le_of_ble_eq_true rfl) dX10_ends_82 (sp_X10_slant hn ⟨by omega, by omega⟩ ⟨by omega, by omega⟩ ⟨by omega, by omega⟩) (fun a_82 w_82 h_82 => ?_)
      obtain ⟨_, _⟩ := h_82
      subst a_82
      subst w_82
      exact j_ireturn X hR dX10_ends_85 ⟨by unfold enI; rw [if_neg hb0]; (first | rw [show i = 0 by omega] | rw [show i = 1 by omega] | rw [show i = 2 by omega] | rw [show i = 3 by omega] | rw [show i = 4 by omega] | rw [show i = 5 by omega] | rw [show i = 6 by omega] | rw [show i = 7 by omega]) <;> rfl, rfl⟩
    · refine j_tabIn (off := 61) (tgt := 86) X dX10_ends_25 ⟨by decide, by decide⟩ (by decide) (by decide) rfl (by decide) ?_
      refine j_aload_n X dX10_ends_86 rfl ?_
      refine j_iload_n X dX10_ends_87 rfl ?_
      refine j_iconst X dX10_ends_88 ?_
      refine j_isub X dX10_ends_89 ?_
      refine j_iload_n X dX10_ends_90 rfl ?_
      refine j_iconst X dX10_ends_91 ?_
      refine j_isub X dX10_ends_92 ?_
      refine j_iconst X dX10_ends_93 ?_
      refine cV3i X mf_X10_slant mv_X10_slant ml_X10_170 (by decide) rfl rfl (Nat.le_of_ble_eq_true rfl) dX10_ends_94 (sp_X10_slant hn ⟨by omega, by omega⟩ ⟨by omega, by omega⟩ ⟨by omega, by omega⟩) (fun a_94 w_94 h_94 => ?_)
      obtain ⟨_, _⟩ := h_94
      subst a_94
      subst w_94
      exact j_ireturn X hR dX10_ends_97 ⟨by unfold enI; rw [if_neg hb0]; (first | rw [show i = 0 by omega] | rw [show i = 1 by omega] | rw [show i = 2 by omega] | rw [show i = 3 by omega] | rw [show i = 4 by omega] | rw [show i = 5 by omega] | rw [show i = 6 by omega] | rw [show i = 7 by omega]) <;> rfl, rfl⟩
    · refine j_tabIn (off := 73) (tgt := 98) X dX10_ends_25 ⟨by decide, by decide⟩ (by decide) (by decide) rfl (by decide) ?_
      refine j_aload_n X dX10_ends_98 rfl ?_
      refine j_iload_n X dX10_ends_99 rfl ?_
      refine j_iload_n X dX10_ends_100 rfl ?_
      refine j_iconst X dX10_ends_101 ?_
      refine j_isub X dX10_ends_102 ?_
      refine j_iconst X dX10_ends_103 ?_
      refine cV3i X mf_X10_slant mv_X10_slant ml_X10_170 (by decide) rfl rfl (Nat.le_of_ble_eq_true rfl) dX10_ends_104 (sp_X10_slant hn ⟨by omega, by omega⟩ ⟨by omega, by omega⟩ ⟨by omega, by omega⟩) (fun a_104 w_104 h_104 => ?_)
      obtain ⟨_, _⟩ := h_104
      subst a_104
      subst w_104
      exact j_ireturn X hR dX10_ends_107 ⟨by unfold enI; rw [if_neg hb0]; (first | rw [show i = 0 by omega] | rw [show i = 1 by omega] | rw [show i = 2 by omega] | rw [show i = 3 by omega] | rw [show i = 4 by omega] | rw [show i = 5 by omega] | rw [show i = 6 by omega] | rw [show i = 7 by omega]) <;> rfl, rfl⟩
    · refine j_tabIn (off := 83) (tgt := 108) X dX10_ends_25 ⟨by decide, by decide⟩ (by decide) (by decide) rfl (by decide) ?_
      refine j_aload_n X dX10_ends_108 rfl ?_
      refine j_iload_n X dX10_ends_109 rfl ?_
      refine j_iload_n X dX10_ends_110 rfl ?_
      refine j_iconst X dX10_ends_111 ?_
      refine cV3i X mf_X10_outer mv_X10_outer ml_X10_173 (by decide) rfl rfl (Nat.le_of_ble_eq_true rfl) dX10_ends_112 (sp_X10_outer hn ⟨by omega, by omega⟩ ⟨by omega, by omega⟩ ⟨by omega, by omega⟩) (fun a_112 w_112 h_112 => ?_)
      obtain ⟨_, _⟩ := h_112
      subst a_112
      subst w_112
      exact j_ireturn X hR dX10_ends_115 ⟨by unfold enI; rw [if_neg hb0]; (first | rw [show i = 0 by omega] | rw [show i = 1 by omega] | rw [show i = 2 by omega] | rw [show i = 3 by omega] | rw [show i = 4 by omega] | rw [show i = 5 by omega] | rw [show i = 6 by omega] | rw [show i = 7 by omega]) <;> rfl, rfl⟩
    · refine j_tabIn (off := 91) (tgt := 116) X dX10_ends_25 ⟨by decide, by decide⟩ (by decide) (by decide) rfl (by decide) ?_
      refine j_aload_n X dX10_ends_116 rfl ?_
      refine j_iload_n X dX10_ends_117 rfl ?_
      refine j_iconst X dX10_ends_118 ?_
      refine j_isub X dX10_ends_119 ?_
      refine j_iload_n X dX10_ends_120 rfl ?_
      refine j_iconst X dX10_ends_121 ?_
      refine cV3i X mf_X10_outer mv_X10_outer ml_X10_173 (by decide) rfl rfl (Nat.le_of_ble_eq_true rfl) dX10_ends_122 (sp_X10_outer hn ⟨by omega, by omega⟩ ⟨by omega, by omega⟩ ⟨by omega, by omega⟩) (fun a_122 w_122 h_122 => ?_)
      obtain ⟨_, _⟩ := h_122
      subst a_122
      subst w_122
      exact j_ireturn X hR dX10_ends_125 ⟨by unfold enI; rw [if_neg hb0]; (first | rw [show i = 0 by omega] | rw [show i = 1 by omega] | rw [show i = 2 by omega] | rw [show i = 3 by omega] | rw [show i = 4 by omega] | rw [show i = 5 by omega] | rw [show i = 6 by omega] | rw [show i = 7 by omega]) <;> rfl, rfl⟩
    · refine j_tabIn (off := 101) (tgt := 126) X dX10_ends_25 ⟨by decide, by decide⟩ (by decide) (by decide) rfl (by decide) ?_
      refine j_aload_n X dX10_ends_126 rfl ?_
      refine j_iload_n X dX10_ends_127 rfl ?_
      refine j_iload_n X dX10_ends_128 rfl ?_
      refine j_iconst X dX10_ends_129 ?_
      refine cV3i X mf_X10_outer mv_X10_outer ml_X10_173 (by decide) rfl rfl (Nat.le_of_ble_eq_true rfl) dX10_ends_130 (sp_X10_outer hn ⟨by omega, by omega⟩ ⟨by omega, by omega⟩ ⟨by omega, by omega⟩) (fun a_130 w_130 h_130 => ?_)
      obtain ⟨_, _⟩ := h_130
      subst a_130
      subst w_130
      exact j_ireturn X hR dX10_ends_133 ⟨by unfold enI; rw [if_neg hb0]; (first | rw [show i = 0 by omega] | rw [show i = 1 by omega] | rw [show i = 2 by omega] | rw [show i = 3 by omega] | rw [show i = 4 by omega] | rw [show i = 5 by omega] | rw [show i = 6 by omega] | rw [show i = 7 by omega]) <;> rfl, rfl⟩
    · refine j_tabOut (tgt := 134) X dX10_ends_25 ⟨by omega, by omega⟩ hsw (by decide) ?_
      refine j_aload_n X dX10_ends_134 rfl ?_
      refine j_iload_n X dX10_ends_135 rfl ?_
      refine j_iload_n X dX10_ends_136 rfl ?_
      refine j_iconst X dX10_ends_137 ?_
      refine j_isub X dX10_ends_138 ?_
      refine j_iconst X dX10_ends_139 ?_
      refine cV3i X mf_X10_outer mv_X10_outer ml_X10_173 (by decide) rfl rfl (Nat.le_of_ble_eq_true rfl) dX10_ends_140 (sp_X10_outer hn ⟨by omega, by omega⟩ ⟨by omega, by omega⟩ ⟨by omega, by omega⟩) (fun a_140 w_140 h_140 => ?_)
      obtain ⟨_, _⟩ := h_140
      subst a_140
      subst w_140
      exact j_ireturn X hR dX10_ends_143 ⟨by unfold enI; rw [if_neg hb0]; (first | rw [show i = 0 by omega] | rw [show i = 1 by omega] | rw [show i = 2 by omega] | rw [show i = 3 by omega] | rw [show i = 4 by omega] | rw [show i = 5 by omega] | rw [show i = 6 by omega] | rw [show i = 7 by omega]) <;> rfl, rfl⟩
  · refine j_iload X dX10_ends_4 rfl ?_
    refine j_iconst X dX10_ends_6 ?_
    refine j_icmp_ge (tgt := 21) X dX10_ends_7 (by decide) ⟨by omega, by omega⟩ ⟨by omega, by omega⟩ (fun h_7 => ?_) (fun h_7 => ?_)
    · refine j_iconst X dX10_ends_21 ?_
      exact j_ireturn X hR dX10_ends_22 ⟨(gE_no (by unfold enI; rw [if_pos (by omega), if_neg (by omega)])).symm, rfl⟩
    · refine j_aload_n X dX10_ends_10 rfl ?_
      refine j_iload_n X dX10_ends_11 rfl ?_
      refine j_iload_n X dX10_ends_12 rfl ?_
      refine j_iload X dX10_ends_13 rfl ?_
      refine cV3i X mf_X10_slant mv_X10_slant ml_X10_170 (by decide) rfl rfl (Nat.le_of_ble_eq_true rfl) dX10_ends_15 (sp_X10_slant hn ⟨by omega, by omega⟩ ⟨by omega, by omega⟩ ⟨by omega, by omega⟩) (fun a_15 w_15 h_15 => ?_)
      obtain ⟨_, _⟩ := h_15
      subst a_15
      subst w_15
      refine j_goto (tgt := 22) X dX10_ends_18 (by decide) ?_
      exact j_ireturn X hR dX10_ends_22 ⟨by unfold enI; rw [if_pos (by omega), if_pos (by omega)], rfl⟩
set_option maxHeartbeats 4000000 in
set_option maxRecDepth 20000 in
theorem sp_X10_noPoint {n : Nat} {w : wd} (hn : nOk n w) {x y b : Int} (hx : rg x) (hy : rg y) (hb : b = 0 ∨ b = 1) : CalI yX10_noPoint cX10_noPoint 5 .boolean 2 LAY w [vR 54, vI x, vI y, vI b] (fun a w' => a = ib (¬ (0 ≤ x ∧ 0 ≤ y ∧ ((b = 1 ∧ x < n ∧ y < n) ∨ (b = 0 ∧ x ≤ n ∧ y ≤ n)))) ∧ w' = w) := by
  have hn1 := hn.2
  have hn6 := hn.1
  refine calI_intro (ls := [some (vR 54), some (vI x), some (vI y), some (vI b), none]) (by decide) (Nat.le_of_ble_eq_true rfl) rfl (fun κ ad X hR => ?_)
  refine j_iload_n X dX10_noPoint_0 rfl ?_
  have C_17 : ∀ t : Int, t = n - b → J κ LAY ad 0 0 17 [some (vR 54), some (vI x), some (vI y), some (vI b), none] [vI t] w := by
    intro t ht
    refine s_4 X dX10_noPoint_17 rfl ?_
    refine j_iload_n X dX10_noPoint_19 rfl ?_
    refine j_i2l X dX10_noPoint_20 ⟨by omega, by omega⟩ ?_
    refine j_lconst X dX10_noPoint_21 ?_
    refine j_iload X dX10_noPoint_22 rfl ?_
    refine j_i2l X dX10_noPoint_24 ⟨by omega, by omega⟩ ?_
    refine cS3i X mf_X10_in ms_X10_in ml_X10_101 (by decide) (Nat.le_of_ble_eq_true rfl) dX10_noPoint_25 (sp_X10_in ⟨by omega, by omega⟩ ⟨by omega, by omega⟩ ⟨by omega, by omega⟩) (fun a_25 w_25 h_25 => ?_)
    obtain ⟨_, _⟩ := h_25
    subst a_25
    subst w_25
    refine jb_eq (tgt := 43) X dX10_noPoint_28 (by decide) (fun h_28 => ?_) (fun h_28 => ?_)
    · refine j_iconst X dX10_noPoint_43 ?_
      refine j_goto (tgt := 48) X dX10_noPoint_44 (by decide) ?_
      exact j_zreturn X hR dX10_noPoint_48 (by first | exact Or.inl rfl | exact Or.inr rfl | exact ib_01) ⟨by rcases hb with hb | hb <;> subst hb <;> (first | exact (ib_t (by omega)).symm | exact (ib_f (by omega)).symm), rfl⟩
    · refine j_iload_n X dX10_noPoint_31 rfl ?_
      refine j_i2l X dX10_noPoint_32 ⟨by omega, by omega⟩ ?_
      refine j_lconst X dX10_noPoint_33 ?_
      refine j_iload X dX10_noPoint_34 rfl ?_
      refine j_i2l X dX10_noPoint_36 ⟨by omega, by omega⟩ ?_
      refine cS3i X mf_X10_in ms_X10_in ml_X10_101 (by decide) (Nat.le_of_ble_eq_true rfl) dX10_noPoint_37 (sp_X10_in ⟨by omega, by omega⟩ ⟨by omega, by omega⟩ ⟨by omega, by omega⟩) (fun a_37 w_37 h_37 => ?_)
      obtain ⟨_, _⟩ := h_37
      subst a_37
      subst w_37
      refine jb_ne (tgt := 47) X dX10_noPoint_40 (by decide) (fun h_40 => ?_) (fun h_40 => ?_)
      · refine j_iconst X dX10_noPoint_47 ?_
        exact j_zreturn X hR dX10_noPoint_48 (by first | exact Or.inl rfl | exact Or.inr rfl | exact ib_01) ⟨by rcases hb with hb | hb <;> subst hb <;> (first | exact (ib_t (by omega)).symm | exact (ib_f (by omega)).symm), rfl⟩
      · refine j_iconst X dX10_noPoint_43 ?_
        refine j_goto (tgt := 48) X dX10_noPoint_44 (by decide) ?_
        exact j_zreturn X hR dX10_noPoint_48 (by first | exact Or.inl rfl | exact Or.inr rfl | exact ib_01) ⟨by rcases hb with hb | hb <;> subst hb <;> (first | exact (ib_t (by omega)).symm | exact (ib_f (by omega)).symm), rfl⟩
  refine j_if_eq (tgt := 13) X dX10_noPoint_1 (by decide) ⟨by omega, by omega⟩ (fun h_1 => ?_) (fun h_1 => ?_)
  · refine j_aload_n X dX10_noPoint_13 rfl ?_
    refine j_getI X dX10_noPoint_14 ff_X10_7 rfl rfl ?_
    exact C_17 _ (by omega)
  · refine j_aload_n X dX10_noPoint_4 rfl ?_
    refine j_getI X dX10_noPoint_5 ff_X10_7 rfl rfl ?_
    refine j_iconst X dX10_noPoint_8 ?_
    refine j_isub X dX10_noPoint_9 ?_
    refine j_goto (tgt := 17) X dX10_noPoint_10 (by decide) ?_
    exact C_17 _ (by omega)
set_option maxHeartbeats 4000000 in
set_option maxRecDepth 20000 in
theorem sp_X10_balance {n : Nat} {w : wd} (hm : MI n w) {x y : Int} (hx : rg x) (hy : rg y) {b : Int} (hb : b = 0 ∨ b = 1) : CalI yX10_balance cX10_balance 7 .int 5 LAY w [vR 54, vI x, vI y, vI b] (fun a w' => a = (if (0 ≤ x ∧ 0 ≤ y ∧ ((b = 1 ∧ x < n ∧ y < n) ∨ (b = 0 ∧ x ≤ n ∧ y ≤ n))) then sm (fun i => ib (gE w (enI n x y b i) = 2)) 8 - sm (fun i => ib (gE w (enI n x y b i) = 1)) 8 else -2) ∧ w' = w) := by
  obtain ⟨hn, ht0, hp, hcr, hfe, hfi, hic, hfo, hkn⟩ := id hm
  have hN := nn_le hn.1.2
  have hn1 := hn.2
  have hn6 := hn.1
  refine calI_intro (ls := [some (vR 54), some (vI x), some (vI y), some (vI b), none, none, none]) (by decide) (Nat.le_of_ble_eq_true rfl) rfl (fun κ ad X hR => ?_)
  refine j_aload_n X dX10_balance_0 rfl ?_
  refine j_iconst X dX10_balance_1 ?_
  refine j_putI X dX10_balance_2 fp_X10_94 rfl rfl ?_
  rw [thr0 ht0]
  refine j_aload_n X dX10_balance_5 rfl ?_
  refine j_iload_n X dX10_balance_6 rfl ?_
  refine j_iload_n X dX10_balance_7 rfl ?_
  refine j_iload_n X dX10_balance_8 rfl ?_
  refine cV3i X mf_X10_noPoint mv_X10_noPoint ml_X10_176 (by decide) rfl rfl (Nat.le_of_ble_eq_true rfl) dX10_balance_9 (sp_X10_noPoint hn hx hy hb) (fun a_9 w_9 h_9 => ?_)
  obtain ⟨_, _⟩ := h_9
  subst a_9
  subst w_9
  refine jb_eq (tgt := 18) X dX10_balance_12 (by decide) (fun h_12 => ?_) (fun h_12 => ?_)
  · have hok : (0 ≤ x ∧ 0 ≤ y ∧ ((b = 1 ∧ x < n ∧ y < n) ∨ (b = 0 ∧ x ≤ n ∧ y ≤ n))) := Decidable.not_not.mp h_12
    have hx6 : 0 ≤ x ∧ x ≤ 6 := by omega
    have hy6 : 0 ≤ y ∧ y ≤ 6 := by omega
    have hokp : okPt n x y b := hok
    clear hok
    refine j_iconst X dX10_balance_18 ?_
    refine s_4 X dX10_balance_19 rfl ?_
    refine j_iconst X dX10_balance_21 ?_
    refine s_5 X dX10_balance_22 rfl ?_
    have L_24 : ∀ (m : Nat) (i : Nat) (d : Int) (_ : d = sm (fun i => ib (gE w (enI n x y b i) = 2)) i - sm (fun i => ib (gE w (enI n x y b i) = 1)) i) (_ : i ≤ 8) (_ : 8 - i < m), J κ LAY ad 0 0 24 [some (vR 54), some (vI x), some (vI y), some (vI b), some (vI d), some (vI (i : Int)), none] [] w := by
      intro m
      induction m with
      | zero => intros; exact absurd ‹_ < 0› (Nat.not_lt_zero _)
      | succ m ih24 =>
        intro i d hd h1 h2
        refine j_iload X dX10_balance_24 rfl ?_
        refine j_bipush X dX10_balance_26 (by decide +kernel) ?_
        refine j_icmp_ge (tgt := 74) X dX10_balance_28 (by decide) ⟨by omega, by omega⟩ ⟨by omega, by omega⟩ (fun h_28 => ?_) (fun h_28 => ?_)
        · refine j_iload X dX10_balance_74 rfl ?_
          exact j_ireturn X hR dX10_balance_76 ⟨by rw [if_pos (show 0 ≤ x ∧ 0 ≤ y ∧ ((b = 1 ∧ x < n ∧ y < n) ∨ (b = 0 ∧ x ≤ n ∧ y ≤ n)) from hokp), hd, show i = 8 by omega], rfl⟩
        · have hge := gE_rg (w := w) hcr (en_bd (n := n) (x := x) (y := y) (b := b) (i := i) (by omega) hn6.2)
          refine j_aload_n X dX10_balance_31 rfl ?_
          refine j_iload_n X dX10_balance_32 rfl ?_
          refine j_iload_n X dX10_balance_33 rfl ?_
          refine j_iload_n X dX10_balance_34 rfl ?_
          refine j_iload X dX10_balance_35 rfl ?_
          refine cV4i X mf_X10_ends mv_X10_ends ml_X10_180 (by decide) rfl rfl (Nat.le_of_ble_eq_true rfl) dX10_balance_37 (sp_X10_ends hn hx6 hy6 hb (by omega)) (fun a_37 w_37 h_37 => ?_)
          obtain ⟨_, _⟩ := h_37
          subst a_37
          subst w_37
          refine s_6 X dX10_balance_40 rfl ?_
          refine j_iload X dX10_balance_42 rfl ?_
          refine j_iload X dX10_balance_44 rfl ?_
          refine j_iconst X dX10_balance_46 ?_
          refine j_icmp_ne (tgt := 54) X dX10_balance_47 (by decide) ⟨by omega, by omega⟩ ⟨by omega, by omega⟩ (fun h_47 => ?_) (fun h_47 => ?_)
          · refine j_iload X dX10_balance_54 rfl ?_
            refine j_iconst X dX10_balance_56 ?_
            refine j_icmp_ne (tgt := 64) X dX10_balance_57 (by decide) ⟨by omega, by omega⟩ ⟨by omega, by omega⟩ (fun h_57 => ?_) (fun h_57 => ?_)
            · refine j_iconst X dX10_balance_64 ?_
              refine j_iadd X dX10_balance_65 ?_
              refine s_4 X dX10_balance_66 rfl ?_
              refine inc_5 X dX10_balance_68 rfl ?_
              refine j_goto (tgt := 24) X dX10_balance_71 (by decide) ?_
              refine fg_6 ?_
              exact ih24 (i + 1) _ (bal_s hd (by show (0 : Int) = ib _ - ib _; rw [ib_f (by omega), ib_f (by omega)]; rfl)) (by omega) (by omega)
            · refine j_iconst X dX10_balance_60 ?_
              refine j_goto (tgt := 65) X dX10_balance_61 (by decide) ?_
              refine j_iadd X dX10_balance_65 ?_
              refine s_4 X dX10_balance_66 rfl ?_
              refine inc_5 X dX10_balance_68 rfl ?_
              refine j_goto (tgt := 24) X dX10_balance_71 (by decide) ?_
              refine fg_6 ?_
              exact ih24 (i + 1) _ (bal_s hd (by show (-1 : Int) = ib _ - ib _; rw [ib_f (by omega), ib_t (by omega)]; rfl)) (by omega) (by omega)
          · refine j_iconst X dX10_balance_50 ?_
            refine j_goto (tgt := 65) X dX10_balance_51 (by decide) ?_
            refine j_iadd X dX10_balance_65 ?_
            refine s_4 X dX10_balance_66 rfl ?_
            refine inc_5 X dX10_balance_68 rfl ?_
            refine j_goto (tgt := 24) X dX10_balance_71 (by decide) ?_
            refine fg_6 ?_
            exact ih24 (i + 1) _ (bal_s hd (by show (1 : Int) = ib _ - ib _; rw [ib_t (by omega), ib_f (by omega)]; rfl)) (by omega) (by omega)
    exact L_24 9 0 0 rfl (by omega) (by omega)
  · refine j_bipush X dX10_balance_15 (by decide +kernel) ?_
    exact j_ireturn X hR dX10_balance_17 ⟨by rw [if_neg h_12], rfl⟩
set_option maxHeartbeats 4000000 in
set_option maxRecDepth 20000 in
theorem sp_X10_degree {n : Nat} {w : wd} (hm : MI n w) {x y : Int} (hx : rg x) (hy : rg y) {b : Int} (hb : b = 0 ∨ b = 1) : CalI yX10_degree cX10_degree 6 .int 5 LAY w [vR 54, vI x, vI y, vI b] (fun a w' => a = (if (0 ≤ x ∧ 0 ≤ y ∧ ((b = 1 ∧ x < n ∧ y < n) ∨ (b = 0 ∧ x ≤ n ∧ y ≤ n))) then sm (fun i => ib (gE w (enI n x y b i) = 2)) 8 + sm (fun i => ib (gE w (enI n x y b i) = 1)) 8 else -2) ∧ w' = w) := by
  obtain ⟨hn, ht0, hp, hcr, hfe, hfi, hic, hfo, hkn⟩ := id hm
  have hN := nn_le hn.1.2
  have hn1 := hn.2
  have hn6 := hn.1
  refine calI_intro (ls := [some (vR 54), some (vI x), some (vI y), some (vI b), none, none]) (by decide) (Nat.le_of_ble_eq_true rfl) rfl (fun κ ad X hR => ?_)
  refine j_aload_n X dX10_degree_0 rfl ?_
  refine j_iconst X dX10_degree_1 ?_
  refine j_putI X dX10_degree_2 fp_X10_94 rfl rfl ?_
  rw [thr0 ht0]
  refine j_aload_n X dX10_degree_5 rfl ?_
  refine j_iload_n X dX10_degree_6 rfl ?_
  refine j_iload_n X dX10_degree_7 rfl ?_
  refine j_iload_n X dX10_degree_8 rfl ?_
  refine cV3i X mf_X10_noPoint mv_X10_noPoint ml_X10_176 (by decide) rfl rfl (Nat.le_of_ble_eq_true rfl) dX10_degree_9 (sp_X10_noPoint hn hx hy hb) (fun a_9 w_9 h_9 => ?_)
  obtain ⟨_, _⟩ := h_9
  subst a_9
  subst w_9
  refine jb_eq (tgt := 18) X dX10_degree_12 (by decide) (fun h_12 => ?_) (fun h_12 => ?_)
  · have hok : (0 ≤ x ∧ 0 ≤ y ∧ ((b = 1 ∧ x < n ∧ y < n) ∨ (b = 0 ∧ x ≤ n ∧ y ≤ n))) := Decidable.not_not.mp h_12
    have hx6 : 0 ≤ x ∧ x ≤ 6 := by omega
    have hy6 : 0 ≤ y ∧ y ≤ 6 := by omega
    have hokp : okPt n x y b := hok
    clear hok
    refine j_iconst X dX10_degree_18 ?_
    refine s_4 X dX10_degree_19 rfl ?_
    refine j_iconst X dX10_degree_21 ?_
    refine s_5 X dX10_degree_22 rfl ?_
    have L_24 : ∀ (m : Nat) (i : Nat) (d : Int) (_ : d = sm (fun i => ib (gE w (enI n x y b i) = 2)) i + sm (fun i => ib (gE w (enI n x y b i) = 1)) i) (_ : i ≤ 8) (_ : 8 - i < m), J κ LAY ad 0 0 24 [some (vR 54), some (vI x), some (vI y), some (vI b), some (vI d), some (vI (i : Int))] [] w := by
      intro m
      induction m with
      | zero => intros; exact absurd ‹_ < 0› (Nat.not_lt_zero _)
      | succ m ih24 =>
        intro i d hd h1 h2
        refine j_iload X dX10_degree_24 rfl ?_
        refine j_bipush X dX10_degree_26 (by decide +kernel) ?_
        refine j_icmp_ge (tgt := 59) X dX10_degree_28 (by decide) ⟨by omega, by omega⟩ ⟨by omega, by omega⟩ (fun h_28 => ?_) (fun h_28 => ?_)
        · refine j_iload X dX10_degree_59 rfl ?_
          exact j_ireturn X hR dX10_degree_61 ⟨by rw [if_pos (show 0 ≤ x ∧ 0 ≤ y ∧ ((b = 1 ∧ x < n ∧ y < n) ∨ (b = 0 ∧ x ≤ n ∧ y ≤ n)) from hokp), hd, show i = 8 by omega], rfl⟩
        · have hge := gE_rg (w := w) hcr (en_bd (n := n) (x := x) (y := y) (b := b) (i := i) (by omega) hn6.2)
          refine j_iload X dX10_degree_31 rfl ?_
          refine j_aload_n X dX10_degree_33 rfl ?_
          refine j_iload_n X dX10_degree_34 rfl ?_
          refine j_iload_n X dX10_degree_35 rfl ?_
          refine j_iload_n X dX10_degree_36 rfl ?_
          refine j_iload X dX10_degree_37 rfl ?_
          refine cV4i X mf_X10_ends mv_X10_ends ml_X10_180 (by decide) rfl rfl (Nat.le_of_ble_eq_true rfl) dX10_degree_39 (sp_X10_ends hn hx6 hy6 hb (by omega)) (fun a_39 w_39 h_39 => ?_)
          obtain ⟨_, _⟩ := h_39
          subst a_39
          subst w_39
          refine j_if_ne (tgt := 49) X dX10_degree_42 (by decide) ⟨by omega, by omega⟩ (fun h_42 => ?_) (fun h_42 => ?_)
          · refine j_iconst X dX10_degree_49 ?_
            refine j_iadd X dX10_degree_50 ?_
            refine s_4 X dX10_degree_51 rfl ?_
            refine inc_5 X dX10_degree_53 rfl ?_
            refine j_goto (tgt := 24) X dX10_degree_56 (by decide) ?_
            exact ih24 (i + 1) _ (deg_s hd (by rcases (by omega : gE w (enI n x y b i) = 1 ∨ gE w (enI n x y b i) = 2) with z | z <;> (show (1 : Int) = ib _ + ib _) <;> rw [z] <;> decide)) (by omega) (by omega)
          · refine j_iconst X dX10_degree_45 ?_
            refine j_goto (tgt := 50) X dX10_degree_46 (by decide) ?_
            refine j_iadd X dX10_degree_50 ?_
            refine s_4 X dX10_degree_51 rfl ?_
            refine inc_5 X dX10_degree_53 rfl ?_
            refine j_goto (tgt := 24) X dX10_degree_56 (by decide) ?_
            exact ih24 (i + 1) _ (deg_s hd (by show (0 : Int) = ib _ + ib _; rw [ib_f (by omega), ib_f (by omega)]; rfl)) (by omega) (by omega)
    exact L_24 9 0 0 rfl (by omega) (by omega)
  · refine j_bipush X dX10_degree_15 (by decide +kernel) ?_
    exact j_ireturn X hR dX10_degree_17 ⟨by rw [if_neg h_12], rfl⟩
set_option maxHeartbeats 4000000 in
set_option maxRecDepth 20000 in
theorem sp_X10_touches {k : Nat} {w : wd} (hk : k < 144) (h : PlM w k) {sort l : Int} (hs : 0 ≤ sort ∧ sort ≤ 3) (hl : -1000 ≤ l ∧ l ≤ 1000) : CalI yX10_touches cX10_touches 5 .boolean 1 LAY w [vR 54, vI (k : Int), vI sort, vI l] (fun a w' => a = ib (rto sort l w k) ∧ w' = w) := by
  obtain ⟨p1, p2, p3, p4, p5⟩ := h
  refine calI_intro (ls := [some (vR 54), some (vI (k : Int)), some (vI sort), some (vI l), none]) (by decide) (Nat.le_of_ble_eq_true rfl) rfl (fun κ ad X hR => ?_)
  refine j_aload_n X dX10_touches_0 rfl ?_
  refine j_getR X dX10_touches_1 ff_X10_20 rfl rfl ?_
  refine j_iload_n X dX10_touches_4 rfl ?_
  refine j_ialdk X dX10_touches_5 rfl (by omega) (by decide) ?_
  refine s_4 X dX10_touches_6 rfl ?_
  refine j_iload_n X dX10_touches_8 rfl ?_
  rcases (by omega : sort = 0 ∨ sort = 1 ∨ sort = 2 ∨ (sort < 0 ∨ 2 < sort)) with rfl | rfl | rfl | hsw
  · refine j_tabIn (off := 27) (tgt := 36) X dX10_touches_9 ⟨by decide, by decide⟩ (by decide) (by decide) rfl (by decide) ?_
    refine j_iload X dX10_touches_36 rfl ?_
    refine j_iconst X dX10_touches_38 ?_
    refine j_icmp_ne (tgt := 54) X dX10_touches_39 (by decide) ⟨by omega, by omega⟩ ⟨by omega, by omega⟩ (fun h_39 => ?_) (fun h_39 => ?_)
    · refine j_iload X dX10_touches_54 rfl ?_
      refine j_iconst X dX10_touches_56 ?_
      refine j_icmp_ne (tgt := 74) X dX10_touches_57 (by decide) ⟨by omega, by omega⟩ ⟨by omega, by omega⟩ (fun h_57 => ?_) (fun h_57 => ?_)
      · refine j_iconst X dX10_touches_74 ?_
        exact j_zreturn X hR dX10_touches_75 (by first | exact Or.inl rfl | exact Or.inr rfl | exact ib_01) ⟨by first | exact (ib_t (by omega)).symm | exact (ib_f (by omega)).symm, rfl⟩
      · refine j_iload_n X dX10_touches_60 rfl ?_
        refine j_aload_n X dX10_touches_61 rfl ?_
        refine j_getR X dX10_touches_62 ff_X10_13 rfl rfl ?_
        refine j_iload_n X dX10_touches_65 rfl ?_
        refine j_ialdk X dX10_touches_66 rfl (by omega) (by decide) ?_
        refine j_icmp_ne (tgt := 74) X dX10_touches_67 (by decide) ⟨by omega, by omega⟩ ⟨by omega, by omega⟩ (fun h_67 => ?_) (fun h_67 => ?_)
        · refine j_iconst X dX10_touches_74 ?_
          exact j_zreturn X hR dX10_touches_75 (by first | exact Or.inl rfl | exact Or.inr rfl | exact ib_01) ⟨by first | exact (ib_t (by omega)).symm | exact (ib_f (by omega)).symm, rfl⟩
        · refine j_iconst X dX10_touches_70 ?_
          refine j_goto (tgt := 75) X dX10_touches_71 (by decide) ?_
          exact j_zreturn X hR dX10_touches_75 (by first | exact Or.inl rfl | exact Or.inr rfl | exact ib_01) ⟨by first | exact (ib_t (by omega)).symm | exact (ib_f (by omega)).symm, rfl⟩
    · refine j_iload_n X dX10_touches_42 rfl ?_
      refine j_aload_n X dX10_touches_43 rfl ?_
      refine j_getR X dX10_touches_44 ff_X10_13 rfl rfl ?_
      refine j_iload_n X dX10_touches_47 rfl ?_
      refine j_ialdk X dX10_touches_48 rfl (by omega) (by decide) ?_
      refine j_iconst X dX10_touches_49 ?_
      refine j_iadd X dX10_touches_50 ?_
      refine j_icmp_eq (tgt := 70) X dX10_touches_51 (by decide) ⟨by omega, by omega⟩ ⟨by omega, by omega⟩ (fun h_51 => ?_) (fun h_51 => ?_)
      · refine j_iconst X dX10_touches_70 ?_
        refine j_goto (tgt := 75) X dX10_touches_71 (by decide) ?_
        exact j_zreturn X hR dX10_touches_75 (by first | exact Or.inl rfl | exact Or.inr rfl | exact ib_01) ⟨by first | exact (ib_t (by omega)).symm | exact (ib_f (by omega)).symm, rfl⟩
      · refine j_iload X dX10_touches_54 rfl ?_
        refine j_iconst X dX10_touches_56 ?_
        refine j_icmp_ne (tgt := 74) X dX10_touches_57 (by decide) ⟨by omega, by omega⟩ ⟨by omega, by omega⟩ (fun h_57 => ?_) (fun h_57 => ?_)
        · refine j_iconst X dX10_touches_74 ?_
          exact j_zreturn X hR dX10_touches_75 (by first | exact Or.inl rfl | exact Or.inr rfl | exact ib_01) ⟨by first | exact (ib_t (by omega)).symm | exact (ib_f (by omega)).symm, rfl⟩
        · refine j_iload_n X dX10_touches_60 rfl ?_
          refine j_aload_n X dX10_touches_61 rfl ?_
          refine j_getR X dX10_touches_62 ff_X10_13 rfl rfl ?_
          refine j_iload_n X dX10_touches_65 rfl ?_
          refine j_ialdk X dX10_touches_66 rfl (by omega) (by decide) ?_
          refine j_icmp_ne (tgt := 74) X dX10_touches_67 (by decide) ⟨by omega, by omega⟩ ⟨by omega, by omega⟩ (fun h_67 => ?_) (fun h_67 => ?_)
          · refine j_iconst X dX10_touches_74 ?_
            exact j_zreturn X hR dX10_touches_75 (by first | exact Or.inl rfl | exact Or.inr rfl | exact ib_01) ⟨by first | exact (ib_t (by omega)).symm | exact (ib_f (by omega)).symm, rfl⟩
          · refine j_iconst X dX10_touches_70 ?_
            refine j_goto (tgt := 75) X dX10_touches_71 (by decide) ?_
            exact j_zreturn X hR dX10_touches_75 (by first | exact Or.inl rfl | exact Or.inr rfl | exact ib_01) ⟨by first | exact (ib_t (by omega)).symm | exact (ib_f (by omega)).symm, rfl⟩
  · refine j_tabIn (off := 67) (tgt := 76) X dX10_touches_9 ⟨by decide, by decide⟩ (by decide) (by decide) rfl (by decide) ?_
    refine j_iload X dX10_touches_76 rfl ?_
    refine j_if_ne (tgt := 91) X dX10_touches_78 (by decide) ⟨by omega, by omega⟩ (fun h_78 => ?_) (fun h_78 => ?_)
    · refine j_iload X dX10_touches_91 rfl ?_
      refine j_iconst X dX10_touches_93 ?_
      refine j_icmp_ne (tgt := 113) X dX10_touches_94 (by decide) ⟨by omega, by omega⟩ ⟨by omega, by omega⟩ (fun h_94 => ?_) (fun h_94 => ?_)
      · refine j_iconst X dX10_touches_113 ?_
        exact j_zreturn X hR dX10_touches_114 (by first | exact Or.inl rfl | exact Or.inr rfl | exact ib_01) ⟨by first | exact (ib_t (by omega)).symm | exact (ib_f (by omega)).symm, rfl⟩
      · refine j_iload_n X dX10_touches_97 rfl ?_
        refine j_aload_n X dX10_touches_98 rfl ?_
        refine j_getR X dX10_touches_99 ff_X10_17 rfl rfl ?_
        refine j_iload_n X dX10_touches_102 rfl ?_
        refine j_ialdk X dX10_touches_103 rfl (by omega) (by decide) ?_
        refine j_iconst X dX10_touches_104 ?_
        refine j_iadd X dX10_touches_105 ?_
        refine j_icmp_ne (tgt := 113) X dX10_touches_106 (by decide) ⟨by omega, by omega⟩ ⟨by omega, by omega⟩ (fun h_106 => ?_) (fun h_106 => ?_)
        · refine j_iconst X dX10_touches_113 ?_
          exact j_zreturn X hR dX10_touches_114 (by first | exact Or.inl rfl | exact Or.inr rfl | exact ib_01) ⟨by first | exact (ib_t (by omega)).symm | exact (ib_f (by omega)).symm, rfl⟩
        · refine j_iconst X dX10_touches_109 ?_
          refine j_goto (tgt := 114) X dX10_touches_110 (by decide) ?_
          exact j_zreturn X hR dX10_touches_114 (by first | exact Or.inl rfl | exact Or.inr rfl | exact ib_01) ⟨by first | exact (ib_t (by omega)).symm | exact (ib_f (by omega)).symm, rfl⟩
    · refine j_iload_n X dX10_touches_81 rfl ?_
      refine j_aload_n X dX10_touches_82 rfl ?_
      refine j_getR X dX10_touches_83 ff_X10_17 rfl rfl ?_
      refine j_iload_n X dX10_touches_86 rfl ?_
      refine j_ialdk X dX10_touches_87 rfl (by omega) (by decide) ?_
      refine j_icmp_eq (tgt := 109) X dX10_touches_88 (by decide) ⟨by omega, by omega⟩ ⟨by omega, by omega⟩ (fun h_88 => ?_) (fun h_88 => ?_)
      · refine j_iconst X dX10_touches_109 ?_
        refine j_goto (tgt := 114) X dX10_touches_110 (by decide) ?_
        exact j_zreturn X hR dX10_touches_114 (by first | exact Or.inl rfl | exact Or.inr rfl | exact ib_01) ⟨by first | exact (ib_t (by omega)).symm | exact (ib_f (by omega)).symm, rfl⟩
      · refine j_iload X dX10_touches_91 rfl ?_
        refine j_iconst X dX10_touches_93 ?_
        refine j_icmp_ne (tgt := 113) X dX10_touches_94 (by decide) ⟨by omega, by omega⟩ ⟨by omega, by omega⟩ (fun h_94 => ?_) (fun h_94 => ?_)
        · refine j_iconst X dX10_touches_113 ?_
          exact j_zreturn X hR dX10_touches_114 (by first | exact Or.inl rfl | exact Or.inr rfl | exact ib_01) ⟨by first | exact (ib_t (by omega)).symm | exact (ib_f (by omega)).symm, rfl⟩
        · refine j_iload_n X dX10_touches_97 rfl ?_
          refine j_aload_n X dX10_touches_98 rfl ?_
          refine j_getR X dX10_touches_99 ff_X10_17 rfl rfl ?_
          refine j_iload_n X dX10_touches_102 rfl ?_
          refine j_ialdk X dX10_touches_103 rfl (by omega) (by decide) ?_
          refine j_iconst X dX10_touches_104 ?_
          refine j_iadd X dX10_touches_105 ?_
          refine j_icmp_ne (tgt := 113) X dX10_touches_106 (by decide) ⟨by omega, by omega⟩ ⟨by omega, by omega⟩ (fun h_106 => ?_) (fun h_106 => ?_)
          · refine j_iconst X dX10_touches_113 ?_
            exact j_zreturn X hR dX10_touches_114 (by first | exact Or.inl rfl | exact Or.inr rfl | exact ib_01) ⟨by first | exact (ib_t (by omega)).symm | exact (ib_f (by omega)).symm, rfl⟩
          · refine j_iconst X dX10_touches_109 ?_
            refine j_goto (tgt := 114) X dX10_touches_110 (by decide) ?_
            exact j_zreturn X hR dX10_touches_114 (by first | exact Or.inl rfl | exact Or.inr rfl | exact ib_01) ⟨by first | exact (ib_t (by omega)).symm | exact (ib_f (by omega)).symm, rfl⟩
  · refine j_tabIn (off := 106) (tgt := 115) X dX10_touches_9 ⟨by decide, by decide⟩ (by decide) (by decide) rfl (by decide) ?_
    refine j_iload_n X dX10_touches_115 rfl ?_
    refine j_aload_n X dX10_touches_116 rfl ?_
    refine j_getR X dX10_touches_117 ff_X10_13 rfl rfl ?_
    refine j_iload_n X dX10_touches_120 rfl ?_
    refine j_ialdk X dX10_touches_121 rfl (by omega) (by decide) ?_
    refine j_aload_n X dX10_touches_122 rfl ?_
    refine j_getR X dX10_touches_123 ff_X10_17 rfl rfl ?_
    refine j_iload_n X dX10_touches_126 rfl ?_
    refine j_ialdk X dX10_touches_127 rfl (by omega) (by decide) ?_
    refine j_isub X dX10_touches_128 ?_
    refine j_icmp_ne (tgt := 136) X dX10_touches_129 (by decide) ⟨by omega, by omega⟩ ⟨by omega, by omega⟩ (fun h_129 => ?_) (fun h_129 => ?_)
    · refine j_iconst X dX10_touches_136 ?_
      exact j_zreturn X hR dX10_touches_137 (by first | exact Or.inl rfl | exact Or.inr rfl | exact ib_01) ⟨by first | exact (ib_t (by omega)).symm | exact (ib_f (by omega)).symm, rfl⟩
    · refine j_iconst X dX10_touches_132 ?_
      refine j_goto (tgt := 137) X dX10_touches_133 (by decide) ?_
      exact j_zreturn X hR dX10_touches_137 (by first | exact Or.inl rfl | exact Or.inr rfl | exact ib_01) ⟨by first | exact (ib_t (by omega)).symm | exact (ib_f (by omega)).symm, rfl⟩
  · refine j_tabOut (tgt := 138) X dX10_touches_9 ⟨by omega, by omega⟩ hsw (by decide) ?_
    refine j_iload_n X dX10_touches_138 rfl ?_
    refine j_aload_n X dX10_touches_139 rfl ?_
    refine j_getR X dX10_touches_140 ff_X10_13 rfl rfl ?_
    refine j_iload_n X dX10_touches_143 rfl ?_
    refine j_ialdk X dX10_touches_144 rfl (by omega) (by decide) ?_
    refine j_aload_n X dX10_touches_145 rfl ?_
    refine j_getR X dX10_touches_146 ff_X10_17 rfl rfl ?_
    refine j_iload_n X dX10_touches_149 rfl ?_
    refine j_ialdk X dX10_touches_150 rfl (by omega) (by decide) ?_
    refine j_iadd X dX10_touches_151 ?_
    refine j_iconst X dX10_touches_152 ?_
    refine j_iadd X dX10_touches_153 ?_
    refine j_icmp_ne (tgt := 161) X dX10_touches_154 (by decide) ⟨by omega, by omega⟩ ⟨by omega, by omega⟩ (fun h_154 => ?_) (fun h_154 => ?_)
    · refine j_iconst X dX10_touches_161 ?_
      exact j_zreturn X hR dX10_touches_162 (by first | exact Or.inl rfl | exact Or.inr rfl | exact ib_01) ⟨by first | exact (ib_t (by omega)).symm | exact (ib_f (by omega)).symm, rfl⟩
    · refine j_iconst X dX10_touches_157 ?_
      refine j_goto (tgt := 162) X dX10_touches_158 (by decide) ?_
      exact j_zreturn X hR dX10_touches_162 (by first | exact Or.inl rfl | exact Or.inr rfl | exact ib_01) ⟨by first | exact (ib_t (by omega)).symm | exact (ib_f (by omega)).symm, rfl⟩
set_option maxHeartbeats 4000000 in
set_option maxRecDepth 20000 in
theorem sp_X10_thickOf {n : Nat} {w : wd} (hn : nOk n w) (hp : ∀ k, k < 4 * n * n → PlM w k) {sort l : Int} (hs : 0 ≤ sort ∧ sort ≤ 3) (hl : -1000 ≤ l ∧ l ≤ 1000) : CalI yX10_thickOf cX10_thickOf 5 .int 2 LAY w [vR 54, vI sort, vI l] (fun a w' => a = mxf (fun k => if rto sort l w k then w 58 k + 1 else 0) (4 * n * n) ∧ w' = w) := by
  have hN := nn_le hn.1.2
  refine calI_intro (ls := [some (vR 54), some (vI sort), some (vI l), none, none]) (by decide) (Nat.le_of_ble_eq_true rfl) rfl (fun κ ad X hR => ?_)
  refine j_iconst X dX10_thickOf_0 ?_
  refine s_3 X dX10_thickOf_1 rfl ?_
  refine j_iconst X dX10_thickOf_2 ?_
  refine s_4 X dX10_thickOf_3 rfl ?_
  have L_5 : ∀ (m : Nat) (k : Nat) (c : Int) (_ : c = mxf (fun k => if rto sort l w k then w 58 k + 1 else 0) k) (_ : 0 ≤ c ∧ c ≤ 1001) (_ : k ≤ 4 * n * n) (_ : 4 * n * n - k < m), J κ LAY ad 0 0 5 [some (vR 54), some (vI sort), some (vI l), some (vI c), some (vI (k : Int))] [] w := by
    intro m
    induction m with
    | zero => intros; exact absurd ‹_ < 0› (Nat.not_lt_zero _)
    | succ m ih5 =>
      intro k c hc hcb h1 h2
      refine j_iload X dX10_thickOf_5 rfl ?_
      refine j_aload_n X dX10_thickOf_7 rfl ?_
      refine cV0i X mf_X10_facets mv_X10_facets ml_X10_97 (by decide) rfl rfl (Nat.le_of_ble_eq_true rfl) dX10_thickOf_8 (sp_X10_facets hn) (fun a_8 w_8 h_8 => ?_)
      obtain ⟨_, _⟩ := h_8
      subst a_8
      subst w_8
      refine j_icmp_ge (tgt := 58) X dX10_thickOf_11 (by decide) ⟨by omega, by omega⟩ ⟨by omega, by omega⟩ (fun h_11 => ?_) (fun h_11 => ?_)
      · refine j_iload_n X dX10_thickOf_58 rfl ?_
        exact j_ireturn X hR dX10_thickOf_59 ⟨by rw [hc, show k = 4 * n * n by omega], rfl⟩
      · have hpk := hp k (by omega)
        refine j_aload_n X dX10_thickOf_14 rfl ?_
        refine j_iload X dX10_thickOf_15 rfl ?_
        refine j_iload_n X dX10_thickOf_17 rfl ?_
        refine j_iload_n X dX10_thickOf_18 rfl ?_
        refine cV3i X mf_X10_touches mv_X10_touches ml_X10_186 (by decide) rfl rfl (Nat.le_of_ble_eq_true rfl) dX10_thickOf_19 (sp_X10_touches (by omega) hpk hs hl) (fun a_19 w_19 h_19 => ?_)
        obtain ⟨_, _⟩ := h_19
        subst a_19
        subst w_19
        refine jb_eq (tgt := 50) X dX10_thickOf_22 (by decide) (fun h_22 => ?_) (fun h_22 => ?_)
        · refine j_iload_n X dX10_thickOf_50 rfl ?_
          refine s_3 X dX10_thickOf_51 rfl ?_
          refine inc_4 X dX10_thickOf_52 rfl ?_
          refine j_goto (tgt := 5) X dX10_thickOf_55 (by decide) ?_
          exact ih5 (k + 1) _ (by rw [mxf_s, ← hc, if_neg h_22]; omega) (by omega) (by omega) (by omega)
        · have hp4 := hpk.2.2.2.1
          refine j_aload_n X dX10_thickOf_25 rfl ?_
          refine j_getR X dX10_thickOf_26 ff_X10_23 rfl rfl ?_
          refine j_iload X dX10_thickOf_29 rfl ?_
          refine j_ialdk X dX10_thickOf_31 rfl (by omega) (by decide) ?_
          refine j_iconst X dX10_thickOf_32 ?_
          refine j_iadd X dX10_thickOf_33 ?_
          refine j_iload_n X dX10_thickOf_34 rfl ?_
          refine j_icmp_le (tgt := 50) X dX10_thickOf_35 (by decide) ⟨by omega, by omega⟩ ⟨by omega, by omega⟩ (fun h_35 => ?_) (fun h_35 => ?_)
          · refine j_iload_n X dX10_thickOf_50 rfl ?_
            refine s_3 X dX10_thickOf_51 rfl ?_
            refine inc_4 X dX10_thickOf_52 rfl ?_
            refine j_goto (tgt := 5) X dX10_thickOf_55 (by decide) ?_
            exact ih5 (k + 1) _ (by rw [mxf_s, ← hc, if_pos h_22]; omega) (by omega) (by omega) (by omega)
          · refine j_aload_n X dX10_thickOf_38 rfl ?_
            refine j_getR X dX10_thickOf_39 ff_X10_23 rfl rfl ?_
            refine j_iload X dX10_thickOf_42 rfl ?_
            refine j_ialdk X dX10_thickOf_44 rfl (by omega) (by decide) ?_
            refine j_iconst X dX10_thickOf_45 ?_
            refine j_iadd X dX10_thickOf_46 ?_
            refine j_goto (tgt := 51) X dX10_thickOf_47 (by decide) ?_
            refine s_3 X dX10_thickOf_51 rfl ?_
            refine inc_4 X dX10_thickOf_52 rfl ?_
            refine j_goto (tgt := 5) X dX10_thickOf_55 (by decide) ?_
            exact ih5 (k + 1) _ (by rw [mxf_s, ← hc, if_pos h_22]; omega) (by omega) (by omega) (by omega)
  exact L_5 (4 * n * n + 1) 0 0 rfl (by omega) (by omega) (by omega)
set_option maxHeartbeats 4000000 in
set_option maxRecDepth 20000 in
theorem sp_X10_thickness {n : Nat} {w : wd} (hm : MI n w) {sort l : Int} (hsr : rg sort) (hlr : rg l) : CalI yX10_thickness cX10_thickness 3 .int 3 LAY w [vR 54, vI sort, vI l] (fun a w' => a = (if isLine sort l then mxf (fun k => if rto sort l w k then w 58 k + 1 else 0) (4 * n * n) else -2) ∧ w' = w) := by
  obtain ⟨hn, ht0, hp, hcr, hfe, hfi, hic, hfo, hkn⟩ := id hm
  have hN := nn_le hn.1.2
  have hn1 := hn.2
  have hn6 := hn.1
  refine calI_intro (ls := [some (vR 54), some (vI sort), some (vI l)]) (by decide) (Nat.le_of_ble_eq_true rfl) rfl (fun κ ad X hR => ?_)
  refine j_aload_n X dX10_thickness_0 rfl ?_
  refine j_iconst X dX10_thickness_1 ?_
  refine j_putI X dX10_thickness_2 fp_X10_94 rfl rfl ?_
  rw [thr0 ht0]
  refine j_iload_n X dX10_thickness_5 rfl ?_
  refine j_iload_n X dX10_thickness_6 rfl ?_
  refine cS2i X mf_X10_noLine ms_X10_noLine ml_X10_138 (by decide) (Nat.le_of_ble_eq_true rfl) dX10_thickness_7 (sp_X10_noLine hsr hlr) (fun a_7 w_7 h_7 => ?_)
  obtain ⟨_, _⟩ := h_7
  subst a_7
  subst w_7
  refine jb_eq (tgt := 18) X dX10_thickness_10 (by decide) (fun h_10 => ?_) (fun h_10 => ?_)
  · have hln : isLine sort l := Decidable.not_not.mp h_10
    refine j_aload_n X dX10_thickness_18 rfl ?_
    refine j_iload_n X dX10_thickness_19 rfl ?_
    refine j_iload_n X dX10_thickness_20 rfl ?_
    refine cV2i X mf_X10_thickOf mv_X10_thickOf ml_X10_190 (by decide) rfl rfl (Nat.le_of_ble_eq_true rfl) dX10_thickness_21 (sp_X10_thickOf hn hp hln.1 ⟨by omega, by omega⟩) (fun a_21 w_21 h_21 => ?_)
    obtain ⟨_, _⟩ := h_21
    subst a_21
    subst w_21
    exact j_ireturn X hR dX10_thickness_24 ⟨by rw [if_pos hln], rfl⟩
  · refine j_bipush X dX10_thickness_13 (by decide +kernel) ?_
    refine j_goto (tgt := 24) X dX10_thickness_15 (by decide) ?_
    exact j_ireturn X hR dX10_thickness_24 ⟨by rw [if_neg h_10], rfl⟩
theorem ib_on {s k d : Int} (hd : d = 0 ∨ d = 1) : ib (k ≤ s) = d ↔ isOn s k d := by
  by_cases z : k ≤ s
  · rw [ib_t z]; simp only [isOn]; omega
  · rw [ib_f z]; simp only [isOn]; omega
set_option maxHeartbeats 4000000 in
set_option maxRecDepth 20000 in
theorem sp_X10_fallsOf {n : Nat} {w : wd} (hn : nOk n w) (hp : ∀ k, k < 4 * n * n → PlM w k) {sort l : Int} (hs : 0 ≤ sort ∧ sort ≤ 3) (hl : -1000 ≤ l ∧ l ≤ 1000) {side : Int} (hd : side = 0 ∨ side = 1) : CalI yX10_fallsOf cX10_fallsOf 6 .int 3 LAY w [vR 54, vI sort, vI l, vI side] (fun a w' => a = sm (fun k => ib (ron sort l side w k)) (4 * n * n) ∧ w' = w) := by
  have hN := nn_le hn.1.2
  refine calI_intro (ls := [some (vR 54), some (vI sort), some (vI l), some (vI side), none, none]) (by decide) (Nat.le_of_ble_eq_true rfl) rfl (fun κ ad X hR => ?_)
  refine j_iconst X dX10_fallsOf_0 ?_
  refine s_4 X dX10_fallsOf_1 rfl ?_
  refine j_iconst X dX10_fallsOf_3 ?_
  refine s_5 X dX10_fallsOf_4 rfl ?_
  have L_6 : ∀ (m : Nat) (k : Nat) (c : Int) (_ : c = sm (fun k => ib (ron sort l side w k)) k) (_ : k ≤ 4 * n * n) (_ : 4 * n * n - k < m), J κ LAY ad 0 0 6 [some (vR 54), some (vI sort), some (vI l), some (vI side), some (vI c), some (vI (k : Int))] [] w := by
    intro m
    induction m with
    | zero => intros; exact absurd ‹_ < 0› (Nat.not_lt_zero _)
    | succ m ih6 =>
      intro k c hc h1 h2
      refine j_iload X dX10_fallsOf_6 rfl ?_
      refine j_aload_n X dX10_fallsOf_8 rfl ?_
      refine cV0i X mf_X10_facets mv_X10_facets ml_X10_97 (by decide) rfl rfl (Nat.le_of_ble_eq_true rfl) dX10_fallsOf_9 (sp_X10_facets hn) (fun a_9 w_9 h_9 => ?_)
      obtain ⟨_, _⟩ := h_9
      subst a_9
      subst w_9
      refine j_icmp_ge (tgt := 61) X dX10_fallsOf_12 (by decide) ⟨by omega, by omega⟩ ⟨by omega, by omega⟩ (fun h_12 => ?_) (fun h_12 => ?_)
      · refine j_iload X dX10_fallsOf_61 rfl ?_
        exact j_ireturn X hR dX10_fallsOf_63 ⟨by rw [hc, show k = 4 * n * n by omega], rfl⟩
      · obtain ⟨p1, p2, p3, p4, p5⟩ := hp k (by omega)
        refine j_iload X dX10_fallsOf_15 rfl ?_
        refine j_iload_n X dX10_fallsOf_17 rfl ?_
        refine j_iload_n X dX10_fallsOf_18 rfl ?_
        refine j_aload_n X dX10_fallsOf_19 rfl ?_
        refine j_getR X dX10_fallsOf_20 ff_X10_13 rfl rfl ?_
        refine j_iload X dX10_fallsOf_23 rfl ?_
        refine j_ialdk X dX10_fallsOf_25 rfl (by omega) (by decide) ?_
        refine j_aload_n X dX10_fallsOf_26 rfl ?_
        refine j_getR X dX10_fallsOf_27 ff_X10_17 rfl rfl ?_
        refine j_iload X dX10_fallsOf_30 rfl ?_
        refine j_ialdk X dX10_fallsOf_32 rfl (by omega) (by decide) ?_
        refine j_aload_n X dX10_fallsOf_33 rfl ?_
        refine j_getR X dX10_fallsOf_34 ff_X10_20 rfl rfl ?_
        refine j_iload X dX10_fallsOf_37 rfl ?_
        refine j_ialdk X dX10_fallsOf_39 rfl (by omega) (by decide) ?_
        refine cS5i X mf_X10_sideOf ms_X10_sideOf ml_X10_142 (by decide) (Nat.le_of_ble_eq_true rfl) dX10_fallsOf_40 (sp_X10_sideOf ⟨by omega, by omega⟩ ⟨by omega, by omega⟩ ⟨by omega, by omega⟩ ⟨by omega, by omega⟩ ⟨by omega, by omega⟩) (fun a_40 w_40 h_40 => ?_)
        obtain ⟨_, _⟩ := h_40
        subst a_40
        subst w_40
        refine j_iload_n X dX10_fallsOf_43 rfl ?_
        refine j_icmp_ne (tgt := 51) X dX10_fallsOf_44 (by decide) ib_rg ⟨by omega, by omega⟩ (fun h_44 => ?_) (fun h_44 => ?_)
        · refine j_iconst X dX10_fallsOf_51 ?_
          refine j_iadd X dX10_fallsOf_52 ?_
          refine s_4 X dX10_fallsOf_53 rfl ?_
          refine inc_5 X dX10_fallsOf_55 rfl ?_
          refine j_goto (tgt := 6) X dX10_fallsOf_58 (by decide) ?_
          exact ih6 (k + 1) _ (ac0_f hc (ib_f (fun z => h_44 ((ib_on hd).mpr z)))) (by omega) (by omega)
        · refine j_iconst X dX10_fallsOf_47 ?_
          refine j_goto (tgt := 52) X dX10_fallsOf_48 (by decide) ?_
          refine j_iadd X dX10_fallsOf_52 ?_
          refine s_4 X dX10_fallsOf_53 rfl ?_
          refine inc_5 X dX10_fallsOf_55 rfl ?_
          refine j_goto (tgt := 6) X dX10_fallsOf_58 (by decide) ?_
          exact ih6 (k + 1) _ (ac0_t hc (ib_t ((ib_on hd).mp h_44))) (by omega) (by omega)
  exact L_6 (4 * n * n + 1) 0 0 rfl (by omega) (by omega)
set_option maxHeartbeats 4000000 in
set_option maxRecDepth 20000 in
theorem sp_X10_would {n : Nat} {w : wd} (hm : MI n w) {sort l : Int} (hsr : rg sort) (hlr : rg l) {side : Int} (hdr : rg side) : CalI yX10_would cX10_would 4 .int 4 LAY w [vR 54, vI sort, vI l, vI side] (fun a w' => a = (if isLine sort l ∧ isSide side then sm (fun k => ib (ron sort l side w k)) (4 * n * n) else -2) ∧ w' = w) := by
  obtain ⟨hn, ht0, hp, hcr, hfe, hfi, hic, hfo, hkn⟩ := id hm
  have hN := nn_le hn.1.2
  have hn1 := hn.2
  have hn6 := hn.1
  refine calI_intro (ls := [some (vR 54), some (vI sort), some (vI l), some (vI side)]) (by decide) (Nat.le_of_ble_eq_true rfl) rfl (fun κ ad X hR => ?_)
  refine j_aload_n X dX10_would_0 rfl ?_
  refine j_iconst X dX10_would_1 ?_
  refine j_putI X dX10_would_2 fp_X10_94 rfl rfl ?_
  rw [thr0 ht0]
  refine j_iload_n X dX10_would_5 rfl ?_
  refine j_iload_n X dX10_would_6 rfl ?_
  refine cS2i X mf_X10_noLine ms_X10_noLine ml_X10_138 (by decide) (Nat.le_of_ble_eq_true rfl) dX10_would_7 (sp_X10_noLine hsr hlr) (fun a_7 w_7 h_7 => ?_)
  obtain ⟨_, _⟩ := h_7
  subst a_7
  subst w_7
  refine jb_ne (tgt := 23) X dX10_would_10 (by decide) (fun h_10 => ?_) (fun h_10 => ?_)
  · refine j_bipush X dX10_would_23 (by decide +kernel) ?_
    refine j_goto (tgt := 35) X dX10_would_25 (by decide) ?_
    exact j_ireturn X hR dX10_would_35 ⟨by rw [if_neg (fun z => h_10 z.1)], rfl⟩
  · have hln : isLine sort l := Decidable.not_not.mp h_10
    refine j_iload_n X dX10_would_13 rfl ?_
    refine j_i2l X dX10_would_14 ⟨by omega, by omega⟩ ?_
    refine j_lconst X dX10_would_15 ?_
    refine j_lconst X dX10_would_16 ?_
    refine cS3i X mf_X10_in ms_X10_in ml_X10_101 (by decide) (Nat.le_of_ble_eq_true rfl) dX10_would_17 (sp_X10_in ⟨by omega, by omega⟩ ⟨by omega, by omega⟩ ⟨by omega, by omega⟩) (fun a_17 w_17 h_17 => ?_)
    obtain ⟨_, _⟩ := h_17
    subst a_17
    subst w_17
    refine jb_ne (tgt := 28) X dX10_would_20 (by decide) (fun h_20 => ?_) (fun h_20 => ?_)
    · have hsd : isSide side := by simp only [isSide]; omega
      refine j_aload_n X dX10_would_28 rfl ?_
      refine j_iload_n X dX10_would_29 rfl ?_
      refine j_iload_n X dX10_would_30 rfl ?_
      refine j_iload_n X dX10_would_31 rfl ?_
      refine cV3i X mf_X10_fallsOf mv_X10_fallsOf ml_X10_193 (by decide) rfl rfl (Nat.le_of_ble_eq_true rfl) dX10_would_32 (sp_X10_fallsOf hn hp hln.1 ⟨by omega, by omega⟩ hsd) (fun a_32 w_32 h_32 => ?_)
      obtain ⟨_, _⟩ := h_32
      subst a_32
      subst w_32
      exact j_ireturn X hR dX10_would_35 ⟨by rw [if_pos ⟨hln, hsd⟩], rfl⟩
    · refine j_bipush X dX10_would_23 (by decide +kernel) ?_
      refine j_goto (tgt := 35) X dX10_would_25 (by decide) ?_
      exact j_ireturn X hR dX10_would_35 ⟨by rw [if_neg (fun z => by have := z.2; simp only [isSide] at this; omega)], rfl⟩
