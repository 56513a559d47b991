/-! ===== the reference: figure, mirrors, worlds of sheet, cut, keep, unfold ===== -/
def mkC (w : wd) (j : Nat) (b : Int) (m : Nat) : wd := fun o i => if o = 69 ∧ j ≤ i ∧ i < j + m then b else w o i
def tkF (w : wd) (m : Nat) : wd := fun o i => if o = 69 ∧ i < m then w 68 i else w o i
def ctM (s l d : Int) (w : wd) (m : Nat) : wd := fun o i => if o = 68 ∧ i < m then ib (ron s l d w i) else if o = 54 ∧ i = 17 then 1 else w o i
def begM (n : Nat) (w : wd) (a c : Nat) : wd := fun o i => if ((55 ≤ o ∧ o ≤ 59) ∨ o = 68 ∨ o = 69) ∧ i < a then (if o = 55 then lx n i else if o = 56 then ly n i else if o = 57 then lq i else if o = 59 then 1 else 0) else if o = 60 ∧ i < c then 0 else w o i
def kepM (w : wd) (m a c : Nat) : wd := fun o i => if (61 ≤ o ∧ o ≤ 65) ∧ 144 * m ≤ i ∧ i < 144 * m + a then w (o - 6) (i - 144 * m) else if o = 66 ∧ 432 * m ≤ i ∧ i < 432 * m + c then w 60 (i - 432 * m) else w o i
def unfM (w : wd) (m a c : Nat) : wd := fun o i => if (55 ≤ o ∧ o ≤ 59) ∧ i < a then w (o + 6) (144 * m + i) else if o = 60 ∧ i < c then w 66 (432 * m + i) else w o i
def begR (n : Nat) (w : wd) : wd := wst (wst (begM n (wst w 54 1 n) (4 * n * n) (3 * (4 * n * n))) 54 8 0) 54 17 0
theorem mkC_0 (w : wd) (j : Nat) (b : Int) : mkC w j b 0 = w := by
  funext o i; unfold mkC; rw [if_neg (by omega)]
theorem mkC_s (w : wd) (j : Nat) (b : Int) (m : Nat) : wst (mkC w j b m) 69 (j + m) b = mkC w j b (m + 1) := by
  funext o i
  by_cases ho : o = 69
  · subst ho
    by_cases hi : i = j + m
    · subst hi
      have e : j ≤ j + m ∧ j + m < j + (m + 1) := by omega
      simp [wst, w1, mkC, e]
    · simp only [wst, w1, mkC, if_true, hi, if_false]
      have : (j ≤ i ∧ i < j + m) ↔ (j ≤ i ∧ i < j + (m + 1)) := by omega
      simp only [this]
  · simp [wst, mkC, ho]
theorem tkF_0 (w : wd) : tkF w 0 = w := by
  funext o i; unfold tkF; rw [if_neg (by omega)]
theorem tkF_s (w : wd) (m : Nat) : wst (tkF w m) 69 m (w 68 m) = tkF w (m + 1) := by
  funext o i
  by_cases ho : o = 69
  · subst ho
    by_cases hi : i = m
    · subst hi; simp [wst, w1, tkF]
    · have : i < m ↔ i < m + 1 := by omega
      simp [wst, w1, tkF, hi, this]
  · simp [wst, tkF, ho]
theorem ctM_0 (s l d : Int) (w : wd) : wst w 54 17 1 = ctM s l d w 0 := by
  funext o i
  by_cases ho : o = 54
  · subst ho
    by_cases hi : i = 17
    · subst hi; simp [wst, w1, ctM]
    · simp [wst, w1, ctM, hi]
  · simp [wst, ctM, ho]
theorem ctM_s (s l d : Int) (w : wd) (m : Nat) : wst (ctM s l d w m) 68 m (ib (ron s l d w m)) = ctM s l d w (m + 1) := by
  funext o i
  by_cases ho : o = 68
  · subst ho
    by_cases hi : i = m
    · subst hi; simp [wst, w1, ctM]
    · have : i < m ↔ i < m + 1 := by omega
      simp [wst, w1, ctM, hi, this]
  · simp [wst, ctM, ho]
theorem begM_0 (n : Nat) (w : wd) : begM n w 0 0 = w := by
  funext o i; unfold begM; rw [if_neg (by omega), if_neg (by omega)]
theorem begM_c (n : Nat) (w : wd) (a c : Nat) : wst (begM n w a c) 60 c 0 = begM n w a (c + 1) := by
  funext o i
  by_cases ho : o = 60
  · subst ho
    by_cases hi : i = c
    · subst hi; simp [wst, w1, begM]
    · have : i < c ↔ i < c + 1 := by omega
      simp [wst, w1, begM, hi, this]
  · simp [wst, begM, ho]
theorem begM_a (n : Nat) (w : wd) (a c : Nat) : wst (wst (wst (wst (wst (wst (wst (begM n w a c) 55 a (lx n a)) 56 a (ly n a)) 57 a (lq a)) 58 a 0) 59 a 1) 68 a 0) 69 a 0 = begM n w (a + 1) c := by
  funext o i
  by_cases h : (55 ≤ o ∧ o ≤ 59) ∨ o = 68 ∨ o = 69
  · by_cases hi : i = a
    · subst hi
      rcases (by omega : o = 55 ∨ o = 56 ∨ o = 57 ∨ o = 58 ∨ o = 59 ∨ o = 68 ∨ o = 69) with rfl | rfl | rfl | rfl | rfl | rfl | rfl <;> simp [wst, w1, begM]
    · have hm : i < a ↔ i < a + 1 := by omega
      rcases (by omega : o = 55 ∨ o = 56 ∨ o = 57 ∨ o = 58 ∨ o = 59 ∨ o = 68 ∨ o = 69) with rfl | rfl | rfl | rfl | rfl | rfl | rfl <;> simp [wst, w1, begM, hi, hm]
  · have a1 : ¬ o = 55 := by omega
    have a2 : ¬ o = 56 := by omega
    have a3 : ¬ o = 57 := by omega
    have a4 : ¬ o = 58 := by omega
    have a5 : ¬ o = 59 := by omega
    have a6 : ¬ o = 68 := by omega
    have a7 : ¬ o = 69 := by omega
    have h2 : ¬ (55 ≤ o ∧ o ≤ 59) := by omega
    simp only [wst, begM, a1, a2, a3, a4, a5, a6, a7, if_false, or_false, h2, false_and]
theorem kepM_0 (w : wd) (m : Nat) : kepM w m 0 0 = w := by
  funext o i; unfold kepM; rw [if_neg (by omega), if_neg (by omega)]
theorem kepM_c (w : wd) (m a c : Nat) : wst (kepM w m a c) 66 (432 * m + c) (w 60 c) = kepM w m a (c + 1) := by
  funext o i
  by_cases ho : o = 66
  · subst ho
    by_cases hi : i = 432 * m + c
    · subst hi
      have e : 432 * m + c - 432 * m = c := by omega
      simp [wst, w1, kepM, e]
    · have : (432 * m ≤ i ∧ i < 432 * m + c) ↔ (432 * m ≤ i ∧ i < 432 * m + (c + 1)) := by omega
      simp [wst, w1, kepM, hi, this]
  · simp [wst, kepM, ho]
theorem kepM_a (w : wd) (m a c : Nat) : wst (wst (wst (wst (wst (kepM w m a c) 61 (144 * m + a) (w 55 a)) 62 (144 * m + a) (w 56 a)) 63 (144 * m + a) (w 57 a)) 64 (144 * m + a) (w 58 a)) 65 (144 * m + a) (w 59 a) = kepM w m (a + 1) c := by
  funext o i
  by_cases h : 61 ≤ o ∧ o ≤ 65
  · by_cases hi : i = 144 * m + a
    · subst hi
      have e : 144 * m + a - 144 * m = a := by omega
      rcases (by omega : o = 61 ∨ o = 62 ∨ o = 63 ∨ o = 64 ∨ o = 65) with rfl | rfl | rfl | rfl | rfl <;> simp [wst, w1, kepM, e] <;> omega
    · have hm : (144 * m ≤ i ∧ i < 144 * m + a) ↔ (144 * m ≤ i ∧ i < 144 * m + (a + 1)) := by omega
      rcases (by omega : o = 61 ∨ o = 62 ∨ o = 63 ∨ o = 64 ∨ o = 65) with rfl | rfl | rfl | rfl | rfl <;> simp [wst, w1, kepM, hi, hm]
  · have a1 : ¬ o = 61 := by omega
    have a2 : ¬ o = 62 := by omega
    have a3 : ¬ o = 63 := by omega
    have a4 : ¬ o = 64 := by omega
    have a5 : ¬ o = 65 := by omega
    have h2 : ¬ (61 ≤ o ∧ o ≤ 65) := h
    simp only [wst, kepM, a1, a2, a3, a4, a5, if_false, h2, false_and]
theorem unfM_0 (w : wd) (m : Nat) : unfM w m 0 0 = w := by
  funext o i; unfold unfM; rw [if_neg (by omega), if_neg (by omega)]
theorem unfM_c (w : wd) (m a c : Nat) : wst (unfM w m a c) 60 c (w 66 (432 * m + c)) = unfM w m a (c + 1) := by
  funext o i
  by_cases ho : o = 60
  · subst ho
    by_cases hi : i = c
    · subst hi; simp [wst, w1, unfM]
    · have : i < c ↔ i < c + 1 := by omega
      simp [wst, w1, unfM, hi, this]
  · simp [wst, unfM, ho]
theorem unfM_a (w : wd) (m a c : Nat) : wst (wst (wst (wst (wst (unfM w m a c) 55 a (w 61 (144 * m + a))) 56 a (w 62 (144 * m + a))) 57 a (w 63 (144 * m + a))) 58 a (w 64 (144 * m + a))) 59 a (w 65 (144 * m + a)) = unfM w m (a + 1) c := by
  funext o i
  by_cases h : 55 ≤ o ∧ o ≤ 59
  · by_cases hi : i = a
    · subst hi
      rcases (by omega : o = 55 ∨ o = 56 ∨ o = 57 ∨ o = 58 ∨ o = 59) with rfl | rfl | rfl | rfl | rfl <;> simp [wst, w1, unfM]
    · have hm : i < a ↔ i < a + 1 := by omega
      rcases (by omega : o = 55 ∨ o = 56 ∨ o = 57 ∨ o = 58 ∨ o = 59) with rfl | rfl | rfl | rfl | rfl <;> simp [wst, w1, unfM, hi, hm]
  · have a1 : ¬ o = 55 := by omega
    have a2 : ¬ o = 56 := by omega
    have a3 : ¬ o = 57 := by omega
    have a4 : ¬ o = 58 := by omega
    have a5 : ¬ o = 59 := by omega
    have h2 : ¬ (55 ≤ o ∧ o ≤ 59) := h
    simp only [wst, unfM, a1, a2, a3, a4, a5, if_false, h2, false_and]
def sc3 (w u : wd) : Prop := (∀ o, o ≠ 54 → u o = w o) ∧ ∀ i, (i ≠ 32 ∧ i ≠ 33 ∧ i ≠ 34) → u 54 i = w 54 i
theorem sc3.refl (w : wd) : sc3 w w := ⟨fun _ _ => rfl, fun _ _ => rfl⟩
theorem sc3.trn {w u : wd} (h : sc3 w u) (s k x y q : Int) : sc3 w (trnM u s k x y q) := ⟨fun o ho => (trnM_o ho).trans (h.1 o ho), fun i hi => (trnM_i hi).trans (h.2 i hi)⟩
theorem sc3.trans {w u v : wd} (h : sc3 w u) (h2 : sc3 u v) : sc3 w v := ⟨fun o ho => (h2.1 o ho).trans (h.1 o ho), fun i hi => (h2.2 i hi).trans (h.2 i hi)⟩
theorem trnM_x {w : wd} {s k x y q : Int} : trnM w s k x y q 54 32 = mirX s k x y := by simp [trnM, wst, w1]
theorem trnM_y {w : wd} {s k x y q : Int} : trnM w s k x y q 54 33 = mirY s k x y := by simp [trnM, wst, w1]
theorem trnM_q {w : wd} {s k x y q : Int} : trnM w s k x y q 54 34 = mirQ s q := by simp [trnM, wst, w1]
abbrev mrOk (n : Nat) (w : wd) (sort l : Int) (k : Nat) : Prop := (0 ≤ mirX sort l (lx n k) (ly n k) ∧ mirX sort l (lx n k) (ly n k) < n ∧ 0 ≤ mirY sort l (lx n k) (ly n k) ∧ mirY sort l (lx n k) (ly n k) < n) ∧ w 69 (4 * (mirY sort l (lx n k) (ly n k) * n + mirX sort l (lx n k) (ly n k)) + mirQ sort (lq k)).toNat = w 69 k
theorem ba_s {P : Nat → Prop} {k : Nat} (h : ∀ j, j < k → P j) (hk : P k) : ∀ j, j < k + 1 → P j := fun j hj => by
  rcases Nat.lt_succ_iff_lt_or_eq.mp hj with q | q
  · exact h j q
  · subst q; exact hk
theorem all_s {P : Nat → Prop} [DecidablePred P] {k : Nat} {c v : Int} (h : c = ib (∀ j, j < k → P j)) (hc : c = 1) (hv : v = ib (P k)) : v = ib (∀ j, j < k + 1 → P j) := by
  have h2 : ∀ j, j < k → P j := by
    by_cases z : ∀ j, j < k → P j
    · exact z
    · rw [ib_f z] at h; omega
  rw [hv]
  by_cases z : P k
  · rw [ib_t z, ib_t (ba_s h2 z)]
  · rw [ib_f z, ib_f (fun q => z (q k (by omega)))]
theorem all_e {P : Nat → Prop} [DecidablePred P] {k N : Nat} {c : Int} (h : c = ib (∀ j, j < k → P j)) (hk : k ≤ N) (hc : c = 0 ∨ k = N) : c = ib (∀ j, j < N → P j) := by
  rcases hc with z | z
  · have h2 : ¬ ∀ j, j < k → P j := by
      intro q; rw [ib_t q] at h; omega
    rw [z, ib_f (fun q => h2 (fun j hj => q j (by omega)))]
  · rw [← z]; exact h
set_option maxHeartbeats 4000000 in
set_option maxRecDepth 20000 in
theorem sp_X10_marked {n : Nat} {w : wd} (hn : nOk n w) (hfi : ∀ k, k < 144 → w 69 k = 0 ∨ w 69 k = 1) : CalI yX10_marked cX10_marked 3 .int 2 LAY w [vR 54] (fun a w' => a = sm (fun k => ib (w 69 k = 1)) (4 * n * n) ∧ w' = w) := by
  have hN := nn_le hn.1.2
  refine calI_intro (ls := [some (vR 54), none, none]) (by decide) (Nat.le_of_ble_eq_true rfl) rfl (fun κ ad X hR => ?_)
  refine j_iconst X dX10_marked_0 ?_
  refine s_1 X dX10_marked_1 rfl ?_
  refine j_iconst X dX10_marked_2 ?_
  refine s_2 X dX10_marked_3 rfl ?_
  have L_4 : ∀ (m : Nat) (k : Nat) (c : Int) (_ : c = sm (fun k => ib (w 69 k = 1)) k) (_ : k ≤ 4 * n * n) (_ : 4 * n * n - k < m), J κ LAY ad 0 0 4 [some (vR 54), some (vI c), some (vI (k : Int))] [] w := by
    intro m
    induction m with
    | zero => intros; exact absurd ‹_ < 0› (Nat.not_lt_zero _)
    | succ m ih4 =>
      intro k c hc h1 h2
      have h69 := hfi k
      refine j_iload_n X dX10_marked_4 rfl ?_
      refine j_aload_n X dX10_marked_5 rfl ?_
      refine cV0i X mf_X10_facets mv_X10_facets ml_X10_97 (by decide) rfl rfl (Nat.le_of_ble_eq_true rfl) dX10_marked_6 (sp_X10_facets hn) (fun a_6 w_6 h_6 => ?_)
      obtain ⟨_, _⟩ := h_6
      subst a_6
      subst w_6
      refine j_icmp_ge (tgt := 35) X dX10_marked_9 (by decide) ⟨by omega, by omega⟩ ⟨by omega, by omega⟩ (fun h_9 => ?_) (fun h_9 => ?_)
      · refine j_iload_n X dX10_marked_35 rfl ?_
        exact j_ireturn X hR dX10_marked_36 ⟨by rw [hc, show k = 4 * n * n by omega], rfl⟩
      · refine j_iload_n X dX10_marked_12 rfl ?_
        refine j_aload_n X dX10_marked_13 rfl ?_
        refine j_getR X dX10_marked_14 ff_X10_60 rfl rfl ?_
        refine j_iload_n X dX10_marked_17 rfl ?_
        refine j_zaldk X dX10_marked_18 rfl (by omega) (by decide) ?_
        refine j_if_eq (tgt := 26) X dX10_marked_19 (by decide) ⟨by omega, by omega⟩ (fun h_19 => ?_) (fun h_19 => ?_)
        · refine j_iconst X dX10_marked_26 ?_
          refine j_iadd X dX10_marked_27 ?_
          refine s_1 X dX10_marked_28 rfl ?_
          refine inc_2 X dX10_marked_29 rfl ?_
          refine j_goto (tgt := 4) X dX10_marked_32 (by decide) ?_
          exact ih4 (k + 1) _ (ac0_f hc (ib_f (by omega))) (by omega) (by omega)
        · refine j_iconst X dX10_marked_22 ?_
          refine j_goto (tgt := 27) X dX10_marked_23 (by decide) ?_
          refine j_iadd X dX10_marked_27 ?_
          refine s_1 X dX10_marked_28 rfl ?_
          refine inc_2 X dX10_marked_29 rfl ?_
          refine j_goto (tgt := 4) X dX10_marked_32 (by decide) ?_
          exact ih4 (k + 1) _ (ac0_t hc (ib_t (by omega))) (by omega) (by omega)
  exact L_4 (4 * n * n + 1) 0 0 rfl (by omega) (by omega)
set_option maxHeartbeats 4000000 in
set_option maxRecDepth 20000 in
theorem sp_X10_mark {n : Nat} {w : wd} (hm : MI n w) {k : Int} (hk : rg k) {b : Int} (hb : b = 0 ∨ b = 1) : CalI yX10_mark cX10_mark 4 .int 3 LAY w [vR 54, vI k, vI b] (fun a w' => if 0 ≤ k ∧ k < ((4 * n * n : Nat) : Int) then a = ib (w 69 k.toNat = 1) ∧ w' = wst w 69 k.toNat b else a = -1 ∧ w' = w) := by
  obtain ⟨hn, ht0, hp, hcr, hfe, hfi, hic, hfo, hkn⟩ := id hm
  have hN := nn_le hn.1.2
  have hn1 := hn.2
  have hn6 := hn.1
  refine calI_intro (ls := [some (vR 54), some (vI k), some (vI b), none]) (by decide) (Nat.le_of_ble_eq_true rfl) rfl (fun κ ad X hR => ?_)
  refine j_aload_n X dX10_mark_0 rfl ?_
  refine j_iconst X dX10_mark_1 ?_
  refine j_putI X dX10_mark_2 fp_X10_94 rfl rfl ?_
  rw [thr0 ht0]
  refine j_aload_n X dX10_mark_5 rfl ?_
  refine j_iload_n X dX10_mark_6 rfl ?_
  refine cV1i X mf_X10_noFacet mv_X10_noFacet ml_X10_160 (by decide) rfl rfl (Nat.le_of_ble_eq_true rfl) dX10_mark_7 (sp_X10_noFacet hn hk) (fun a_7 w_7 h_7 => ?_)
  obtain ⟨_, _⟩ := h_7
  subst a_7
  subst w_7
  refine jb_eq (tgt := 15) X dX10_mark_10 (by decide) (fun h_10 => ?_) (fun h_10 => ?_)
  · obtain ⟨j, rfl⟩ := Int.eq_ofNat_of_zero_le (show (0 : Int) ≤ k by omega)
    have hj : j < 4 * n * n := by omega
    have hin : 0 ≤ (j : Int) ∧ (j : Int) < ((4 * n * n : Nat) : Int) := by omega
    refine j_aload_n X dX10_mark_15 rfl ?_
    refine j_getR X dX10_mark_16 ff_X10_60 rfl rfl ?_
    refine j_iload_n X dX10_mark_19 rfl ?_
    have h69 := hfi j (by omega)
    refine j_zaldk X dX10_mark_20 rfl (by omega) (by decide) ?_
    refine j_if_eq (tgt := 28) X dX10_mark_21 (by decide) ⟨by omega, by omega⟩ (fun h_21 => ?_) (fun h_21 => ?_)
    · refine j_iconst X dX10_mark_28 ?_
      refine s_3 X dX10_mark_29 rfl ?_
      refine j_aload_n X dX10_mark_30 rfl ?_
      refine j_getR X dX10_mark_31 ff_X10_60 rfl rfl ?_
      refine j_iload_n X dX10_mark_34 rfl ?_
      refine j_iload_n X dX10_mark_35 rfl ?_
      refine j_zastk X dX10_mark_36 rfl (by omega) (by decide) (by first | exact Or.inl rfl | exact Or.inr rfl | assumption | omega) ?_
      refine j_iload_n X dX10_mark_37 rfl ?_
      exact j_ireturn X hR dX10_mark_38 (by rw [if_pos hin]; exact ⟨by show _ = ib (w 69 j = 1); first | exact (ib_t (by omega)).symm | exact (ib_f (by omega)).symm, rfl⟩)
    · refine j_iconst X dX10_mark_24 ?_
      refine j_goto (tgt := 29) X dX10_mark_25 (by decide) ?_
      refine s_3 X dX10_mark_29 rfl ?_
      refine j_aload_n X dX10_mark_30 rfl ?_
      refine j_getR X dX10_mark_31 ff_X10_60 rfl rfl ?_
      refine j_iload_n X dX10_mark_34 rfl ?_
      refine j_iload_n X dX10_mark_35 rfl ?_
      refine j_zastk X dX10_mark_36 rfl (by omega) (by decide) (by first | exact Or.inl rfl | exact Or.inr rfl | assumption | omega) ?_
      refine j_iload_n X dX10_mark_37 rfl ?_
      exact j_ireturn X hR dX10_mark_38 (by rw [if_pos hin]; exact ⟨by show _ = ib (w 69 j = 1); first | exact (ib_t (by omega)).symm | exact (ib_f (by omega)).symm, rfl⟩)
  · refine j_iconst X dX10_mark_13 ?_
    exact j_ireturn X hR dX10_mark_14 (by rw [if_neg (by omega)]; exact ⟨rfl, rfl⟩)
set_option maxHeartbeats 4000000 in
set_option maxRecDepth 20000 in
theorem sp_X10_markCell {n : Nat} {w : wd} (hm : MI n w) {x y : Int} (hx : rg x) (hy0 : rg y) {b : Int} (hb : b = 0 ∨ b = 1) : CalI yX10_markCell cX10_markCell 5 .int 3 LAY w [vR 54, vI x, vI y, vI b] (fun a w' => if 0 ≤ x ∧ x < n ∧ 0 ≤ y ∧ y < n then w' = mkC w (4 * (y.toNat * n + x.toNat)) b 4 ∧ a = sm (fun k => ib (w' 69 k = 1)) (4 * n * n) else a = -2 ∧ w' = w) := by
  obtain ⟨hn, ht0, hp, hcr, hfe, hfi, hic, hfo, hkn⟩ := id hm
  have hN := nn_le hn.1.2
  have hn1 := hn.2
  have hn6 := hn.1
  refine calI_intro (ls := [some (vR 54), some (vI x), some (vI y), some (vI b), none]) (by decide) (Nat.le_of_ble_eq_true rfl) rfl (fun κ ad X hR => ?_)
  refine j_aload_n X dX10_markCell_0 rfl ?_
  refine j_iconst X dX10_markCell_1 ?_
  refine j_putI X dX10_markCell_2 fp_X10_94 rfl rfl ?_
  rw [thr0 ht0]
  refine j_iload_n X dX10_markCell_5 rfl ?_
  refine j_i2l X dX10_markCell_6 ⟨by omega, by omega⟩ ?_
  refine j_lconst X dX10_markCell_7 ?_
  refine j_aload_n X dX10_markCell_8 rfl ?_
  refine j_getI X dX10_markCell_9 ff_X10_7 rfl rfl ?_
  refine j_iconst X dX10_markCell_12 ?_
  refine j_isub X dX10_markCell_13 ?_
  refine j_i2l X dX10_markCell_14 ⟨by omega, by omega⟩ ?_
  refine cS3i X mf_X10_in ms_X10_in ml_X10_101 (by decide) (Nat.le_of_ble_eq_true rfl) dX10_markCell_15 (sp_X10_in ⟨by omega, by omega⟩ ⟨by omega, by omega⟩ ⟨by omega, by omega⟩) (fun a_15 w_15 h_15 => ?_)
  obtain ⟨_, _⟩ := h_15
  subst a_15
  subst w_15
  refine jb_eq (tgt := 37) X dX10_markCell_18 (by decide) (fun h_18 => ?_) (fun h_18 => ?_)
  · refine j_bipush X dX10_markCell_37 (by decide +kernel) ?_
    exact j_ireturn X hR dX10_markCell_39 (by rw [if_neg (by omega)]; exact ⟨rfl, rfl⟩)
  · refine j_iload_n X dX10_markCell_21 rfl ?_
    refine j_i2l X dX10_markCell_22 ⟨by omega, by omega⟩ ?_
    refine j_lconst X dX10_markCell_23 ?_
    refine j_aload_n X dX10_markCell_24 rfl ?_
    refine j_getI X dX10_markCell_25 ff_X10_7 rfl rfl ?_
    refine j_iconst X dX10_markCell_28 ?_
    refine j_isub X dX10_markCell_29 ?_
    refine j_i2l X dX10_markCell_30 ⟨by omega, by omega⟩ ?_
    refine cS3i X mf_X10_in ms_X10_in ml_X10_101 (by decide) (Nat.le_of_ble_eq_true rfl) dX10_markCell_31 (sp_X10_in ⟨by omega, by omega⟩ ⟨by omega, by omega⟩ ⟨by omega, by omega⟩) (fun a_31 w_31 h_31 => ?_)
    obtain ⟨_, _⟩ := h_31
    subst a_31
    subst w_31
    refine jb_ne (tgt := 40) X dX10_markCell_34 (by decide) (fun h_34 => ?_) (fun h_34 => ?_)
    · have hxr : 0 ≤ x ∧ x < (n : Int) := by omega
      have hyr : 0 ≤ y ∧ y < (n : Int) := by omega
      refine j_iconst X dX10_markCell_40 ?_
      refine s_4 X dX10_markCell_41 rfl ?_
      have L_43 : ∀ (m : Nat) (q : Nat) (_ : q ≤ 4) (_ : 4 - q < m), J κ LAY ad 0 0 43 [some (vR 54), some (vI x), some (vI y), some (vI b), some (vI (q : Int))] [] (mkC w (4 * (y.toNat * n + x.toNat)) b q) := by
        intro m
        induction m with
        | zero => intros; exact absurd ‹_ < 0› (Nat.not_lt_zero _)
        | succ m ih43 =>
          intro q h1 h2
          refine j_iload X dX10_markCell_43 rfl ?_
          refine j_iconst X dX10_markCell_45 ?_
          refine j_icmp_ge (tgt := 74) X dX10_markCell_46 (by decide) ⟨by omega, by omega⟩ ⟨by omega, by omega⟩ (fun h_46 => ?_) (fun h_46 => ?_)
          · refine j_aload_n X dX10_markCell_74 rfl ?_
            refine cV0i X mf_X10_marked mv_X10_marked ml_X10_199 (by decide) rfl rfl (Nat.le_of_ble_eq_true rfl) dX10_markCell_75 (sp_X10_marked (n := n) ⟨hn.1, hn1⟩ (fun k hk => by unfold mkC; split; exact hb; exact hfi k hk)) (fun a_75 w_75 h_75 => ?_)
            obtain ⟨_, _⟩ := h_75
            subst a_75
            subst w_75
            exact j_ireturn X hR dX10_markCell_78 (by rw [if_pos (by omega), show q = 4 by omega]; exact ⟨rfl, rfl⟩)
          · have hqn : (0 : Int) ≤ (q : Int) ∧ (q : Int) < 4 := by omega
            have hcn : mkC w (4 * (y.toNat * n + x.toNat)) b q 54 1 = n := hn1
            have hjq : 4 * (y * (n : Int) + x) + (q : Int) = ((4 * (y.toNat * n + x.toNat) + q : Nat) : Int) := by
              rw [Int.natCast_add, Int.natCast_mul, Int.natCast_add, Int.natCast_mul, Int.toNat_of_nonneg hxr.1, Int.toNat_of_nonneg hyr.1]; rfl
            have hjN : 4 * (y.toNat * n + x.toNat) + q < 4 * n * n := idx_lt (by omega) (by omega) (by omega)
            refine j_aload_n X dX10_markCell_49 rfl ?_
            refine j_getR X dX10_markCell_50 ff_X10_60 rfl rfl ?_
            refine j_iconst X dX10_markCell_53 ?_
            refine j_iload_n X dX10_markCell_54 rfl ?_
            refine j_aload_n X dX10_markCell_55 rfl ?_
            refine j_getI X dX10_markCell_56 ff_X10_7 rfl rfl ?_
            refine j_imul X dX10_markCell_59 ?_
            refine j_iload_n X dX10_markCell_60 rfl ?_
            refine j_iadd X dX10_markCell_61 ?_
            refine j_imul X dX10_markCell_62 ?_
            refine j_iload X dX10_markCell_63 rfl ?_
            refine j_iadd X dX10_markCell_65 ?_
            rw [hcn, hjq]
            refine j_iload_n X dX10_markCell_66 rfl ?_
            refine j_zastk X dX10_markCell_67 rfl (by omega) (by decide) (by first | exact Or.inl rfl | exact Or.inr rfl | assumption | omega) ?_
            refine inc_4 X dX10_markCell_68 rfl ?_
            refine j_goto (tgt := 43) X dX10_markCell_71 (by decide) ?_
            rw [mkC_s]
            exact ih43 (q + 1) (by omega) (by omega)
      have h9 := L_43 5 0 (by omega) (by omega)
      rw [mkC_0] at h9
      exact h9
    · refine j_bipush X dX10_markCell_37 (by decide +kernel) ?_
      exact j_ireturn X hR dX10_markCell_39 (by rw [if_neg (by omega)]; exact ⟨rfl, rfl⟩)
set_option maxHeartbeats 4000000 in
set_option maxRecDepth 20000 in
theorem sp_X10_take {n : Nat} {w : wd} (hm : MI n w) : CalI yX10_take cX10_take 2 .int 3 LAY w [vR 54] (fun a w' => if w 54 17 = 0 then a = -3 ∧ w' = w else w' = tkF w (4 * n * n) ∧ a = sm (fun k => ib (w' 69 k = 1)) (4 * n * n)) := by
  obtain ⟨hn, ht0, hp, hcr, hfe, hfi, hic, hfo, hkn⟩ := id hm
  have hN := nn_le hn.1.2
  have hn1 := hn.2
  have hn6 := hn.1
  refine calI_intro (ls := [some (vR 54), none]) (by decide) (Nat.le_of_ble_eq_true rfl) rfl (fun κ ad X hR => ?_)
  refine j_aload_n X dX10_take_0 rfl ?_
  refine j_iconst X dX10_take_1 ?_
  refine j_putI X dX10_take_2 fp_X10_94 rfl rfl ?_
  rw [thr0 ht0]
  refine j_aload_n X dX10_take_5 rfl ?_
  refine j_getI X dX10_take_6 ff_X10_114 rfl rfl ?_
  refine j_if_ne (tgt := 15) X dX10_take_9 (by decide) ⟨by omega, by omega⟩ (fun h_9 => ?_) (fun h_9 => ?_)
  · refine j_iconst X dX10_take_15 ?_
    refine s_1 X dX10_take_16 rfl ?_
    have L_17 : ∀ (m : Nat) (k : Nat) (_ : k ≤ 4 * n * n) (_ : 4 * n * n - k < m), J κ LAY ad 0 0 17 [some (vR 54), some (vI (k : Int))] [] (tkF w k) := by
      intro m
      induction m with
      | zero => intros; exact absurd ‹_ < 0› (Nat.not_lt_zero _)
      | succ m ih17 =>
        intro k h1 h2
        refine j_iload_n X dX10_take_17 rfl ?_
        have hnk : nOk n (tkF w k) := ⟨hn.1, hn1⟩
        refine j_aload_n X dX10_take_18 rfl ?_
        refine cV0i X mf_X10_facets mv_X10_facets ml_X10_97 (by decide) rfl rfl (Nat.le_of_ble_eq_true rfl) dX10_take_19 (sp_X10_facets hnk) (fun a_19 w_19 h_19 => ?_)
        obtain ⟨_, _⟩ := h_19
        subst a_19
        subst w_19
        refine j_icmp_ge (tgt := 43) X dX10_take_22 (by decide) ⟨by omega, by omega⟩ ⟨by omega, by omega⟩ (fun h_22 => ?_) (fun h_22 => ?_)
        · refine j_aload_n X dX10_take_43 rfl ?_
          have hnk : nOk n (tkF w k) := ⟨hn.1, hn1⟩
          refine cV0i X mf_X10_marked mv_X10_marked ml_X10_199 (by decide) rfl rfl (Nat.le_of_ble_eq_true rfl) dX10_take_44 (sp_X10_marked hnk (fun j hj => by unfold tkF; split; exact hfe j hj; exact hfi j hj)) (fun a_44 w_44 h_44 => ?_)
          obtain ⟨_, _⟩ := h_44
          subst a_44
          subst w_44
          exact j_ireturn X hR dX10_take_47 (by rw [if_neg (by omega), show k = 4 * n * n by omega]; exact ⟨rfl, rfl⟩)
        · have h68 : (tkF w k) 68 k = w 68 k := rfl
          have h68b := hfe k (by omega)
          refine j_aload_n X dX10_take_25 rfl ?_
          refine j_getR X dX10_take_26 ff_X10_60 rfl rfl ?_
          refine j_iload_n X dX10_take_29 rfl ?_
          refine j_aload_n X dX10_take_30 rfl ?_
          refine j_getR X dX10_take_31 ff_X10_57 rfl rfl ?_
          refine j_iload_n X dX10_take_34 rfl ?_
          refine j_zaldk X dX10_take_35 rfl (by omega) (by decide) ?_
          rw [h68]
          refine j_zastk X dX10_take_36 rfl (by omega) (by decide) (by first | exact Or.inl rfl | exact Or.inr rfl | assumption | omega) ?_
          refine inc_1 X dX10_take_37 rfl ?_
          refine j_goto (tgt := 17) X dX10_take_40 (by decide) ?_
          rw [tkF_s]
          exact ih17 (k + 1) (by omega) (by omega)
    have h9 := L_17 (4 * n * n + 1) 0 (by omega) (by omega)
    rw [tkF_0] at h9
    exact h9
  · refine j_bipush X dX10_take_12 (by decide +kernel) ?_
    exact j_ireturn X hR dX10_take_14 (by rw [if_pos (by omega)]; exact ⟨rfl, rfl⟩)
set_option maxHeartbeats 4000000 in
set_option maxRecDepth 20000 in
theorem sp_X10_same {n : Nat} {w : wd} (hm : MI n w) : CalI yX10_same cX10_same 3 .int 2 LAY w [vR 54] (fun a w' => a = ib (∀ k, k < 4 * n * n → w 69 k = w 68 k) ∧ w' = w) := by
  obtain ⟨hn, ht0, hp, hcr, hfe, hfi, hic, hfo, hkn⟩ := id hm
  have hN := nn_le hn.1.2
  have hn1 := hn.2
  have hn6 := hn.1
  refine calI_intro (ls := [some (vR 54), none, none]) (by decide) (Nat.le_of_ble_eq_true rfl) rfl (fun κ ad X hR => ?_)
  refine j_aload_n X dX10_same_0 rfl ?_
  refine j_iconst X dX10_same_1 ?_
  refine j_putI X dX10_same_2 fp_X10_94 rfl rfl ?_
  rw [thr0 ht0]
  refine j_iconst X dX10_same_5 ?_
  refine s_1 X dX10_same_6 rfl ?_
  refine j_iconst X dX10_same_7 ?_
  refine s_2 X dX10_same_8 rfl ?_
  have L_9 : ∀ (m : Nat) (k : Nat) (c : Int) (_ : c = ib (∀ j, j < k → w 69 j = w 68 j)) (_ : k ≤ 4 * n * n) (_ : 4 * n * n - k < m), J κ LAY ad 0 0 9 [some (vR 54), some (vI c), some (vI (k : Int))] [] w := by
    intro m
    induction m with
    | zero => intros; exact absurd ‹_ < 0› (Nat.not_lt_zero _)
    | succ m ih9 =>
      intro k c hc h1 h2
      have hcb : c = 0 ∨ c = 1 := by rw [hc]; exact ib_01
      refine j_iload_n X dX10_same_9 rfl ?_
      refine j_aload_n X dX10_same_10 rfl ?_
      refine cV0i X mf_X10_facets mv_X10_facets ml_X10_97 (by decide) rfl rfl (Nat.le_of_ble_eq_true rfl) dX10_same_11 (sp_X10_facets hn) (fun a_11 w_11 h_11 => ?_)
      obtain ⟨_, _⟩ := h_11
      subst a_11
      subst w_11
      refine j_icmp_ge (tgt := 48) X dX10_same_14 (by decide) ⟨by omega, by omega⟩ ⟨by omega, by omega⟩ (fun h_14 => ?_) (fun h_14 => ?_)
      · refine j_iload_n X dX10_same_48 rfl ?_
        refine j_if_eq (tgt := 56) X dX10_same_49 (by decide) ⟨by omega, by omega⟩ (fun h_49 => ?_) (fun h_49 => ?_)
        · refine j_iconst X dX10_same_56 ?_
          exact j_ireturn X hR dX10_same_57 ⟨by rw [show k = 4 * n * n by omega] at hc; omega, rfl⟩
        · refine j_iconst X dX10_same_52 ?_
          refine j_goto (tgt := 57) X dX10_same_53 (by decide) ?_
          exact j_ireturn X hR dX10_same_57 ⟨by rw [show k = 4 * n * n by omega] at hc; omega, rfl⟩
      · refine j_iload_n X dX10_same_17 rfl ?_
        refine j_if_eq (tgt := 40) X dX10_same_18 (by decide) ⟨by omega, by omega⟩ (fun h_18 => ?_) (fun h_18 => ?_)
        · refine j_iconst X dX10_same_40 ?_
          refine s_1 X dX10_same_41 rfl ?_
          refine inc_2 X dX10_same_42 rfl ?_
          refine j_goto (tgt := 9) X dX10_same_45 (by decide) ?_
          exact ih9 (k + 1) _ (by rw [ib_f (fun q => absurd (hc.trans (ib_t (fun j hj => q j (by omega)))) (by omega))]) (by omega) (by omega)
        · have h68 := hfe k (by omega)
          have h69 := hfi k (by omega)
          refine j_aload_n X dX10_same_21 rfl ?_
          refine j_getR X dX10_same_22 ff_X10_60 rfl rfl ?_
          refine j_iload_n X dX10_same_25 rfl ?_
          refine j_zaldk X dX10_same_26 rfl (by omega) (by decide) ?_
          refine j_aload_n X dX10_same_27 rfl ?_
          refine j_getR X dX10_same_28 ff_X10_57 rfl rfl ?_
          refine j_iload_n X dX10_same_31 rfl ?_
          refine j_zaldk X dX10_same_32 rfl (by omega) (by decide) ?_
          refine j_icmp_ne (tgt := 40) X dX10_same_33 (by decide) ⟨by omega, by omega⟩ ⟨by omega, by omega⟩ (fun h_33 => ?_) (fun h_33 => ?_)
          · refine j_iconst X dX10_same_40 ?_
            refine s_1 X dX10_same_41 rfl ?_
            refine inc_2 X dX10_same_42 rfl ?_
            refine j_goto (tgt := 9) X dX10_same_45 (by decide) ?_
            exact ih9 (k + 1) _ (all_s hc (by omega) (ib_f (by omega)).symm) (by omega) (by omega)
          · refine j_iconst X dX10_same_36 ?_
            refine j_goto (tgt := 41) X dX10_same_37 (by decide) ?_
            refine s_1 X dX10_same_41 rfl ?_
            refine inc_2 X dX10_same_42 rfl ?_
            refine j_goto (tgt := 9) X dX10_same_45 (by decide) ?_
            exact ih9 (k + 1) _ (all_s hc (by omega) (ib_t (by omega)).symm) (by omega) (by omega)
  exact L_9 (4 * n * n + 1) 0 1 (ib_t (fun j hj => absurd hj (Nat.not_lt_zero _))).symm (by omega) (by omega)
set_option maxHeartbeats 4000000 in
set_option maxRecDepth 20000 in
theorem sp_X10_isMirror {n : Nat} {w : wd} (hn : nOk n w) (hfi : ∀ k, k < 144 → w 69 k = 0 ∨ w 69 k = 1) {sort l : Int} (hs : 0 ≤ sort ∧ sort ≤ 3) (hl : -24 ≤ l ∧ l ≤ 48) : CalI yX10_isMirror cX10_isMirror 5 .boolean 2 LAY w [vR 54, vI sort, vI l] (fun a w' => a = ib (∀ k, k < 4 * n * n → mrOk n w sort l k) ∧ sc3 w w') := by
  have hN := nn_le hn.1.2
  have hn1 := hn.2
  have hn6 := hn.1
  refine calI_intro (ls := [some (vR 54), some (vI sort), some (vI l), none, none]) (by decide) (Nat.le_of_ble_eq_true rfl) rfl (fun κ ad X hR => ?_)
  refine j_iconst X dX10_isMirror_0 ?_
  refine s_3 X dX10_isMirror_1 rfl ?_
  refine j_iconst X dX10_isMirror_2 ?_
  refine s_4 X dX10_isMirror_3 rfl ?_
  have L_5 : ∀ (m : Nat) (k : Nat) (c : Int) (u : wd) (_ : c = ib (∀ j, j < k → mrOk n w sort l j)) (_ : sc3 w u) (_ : k ≤ 4 * n * n) (_ : 4 * n * n - k < m), J κ LAY ad 0 0 5 [some (vR 54), some (vI sort), some (vI l), some (vI c), some (vI (k : Int))] [] u := by
    intro m
    induction m with
    | zero => intros; exact absurd ‹_ < 0› (Nat.not_lt_zero _)
    | succ m ih5 =>
      intro k c u hc hu h1 h2
      have hcb : c = 0 ∨ c = 1 := by rw [hc]; exact ib_01
      have hnu : nOk n u := ⟨hn.1, (hu.2 1 (by decide)).trans hn1⟩
      have hu1 := hnu.2
      refine j_iload X dX10_isMirror_5 rfl ?_
      refine j_aload_n X dX10_isMirror_7 rfl ?_
      refine cV0i X mf_X10_facets mv_X10_facets ml_X10_97 (by decide) rfl rfl (Nat.le_of_ble_eq_true rfl) dX10_isMirror_8 (sp_X10_facets hnu) (fun a_8 w_8 h_8 => ?_)
      obtain ⟨_, _⟩ := h_8
      subst a_8
      subst w_8
      refine j_icmp_ge (tgt := 132) X dX10_isMirror_11 (by decide) ⟨by omega, by omega⟩ ⟨by omega, by omega⟩ (fun h_11 => ?_) (fun h_11 => ?_)
      · refine j_iload_n X dX10_isMirror_132 rfl ?_
        exact j_zreturn X hR dX10_isMirror_133 (by first | exact Or.inl rfl | exact Or.inr rfl | exact hcb) ⟨all_e hc (by omega) (by omega), hu⟩
      · refine j_iload_n X dX10_isMirror_14 rfl ?_
        refine j_if_eq (tgt := 132) X dX10_isMirror_15 (by decide) ⟨by omega, by omega⟩ (fun h_15 => ?_) (fun h_15 => ?_)
        · refine j_iload_n X dX10_isMirror_132 rfl ?_
          exact j_zreturn X hR dX10_isMirror_133 (by first | exact Or.inl rfl | exact Or.inr rfl | exact hcb) ⟨all_e hc (by omega) (by omega), hu⟩
        · have hk : k < 4 * n * n := by omega
          have hxy := lxy_rg hn6 hk
          have hmr := mirXY_rg (sort := sort) (l := l) (x := lx n k) (y := ly n k) hl (by omega) (by omega)
          have hmq := mirQ_rg (sort := sort) (q := lq k) (by omega)
          refine j_aload_n X dX10_isMirror_18 rfl ?_
          refine j_iload_n X dX10_isMirror_19 rfl ?_
          refine j_iload_n X dX10_isMirror_20 rfl ?_
          refine j_iload X dX10_isMirror_21 rfl ?_
          refine j_iconst X dX10_isMirror_23 ?_
          refine j_idiv X dX10_isMirror_24 (by omega) (by omega) (by omega) (by omega) ?_
          refine j_aload_n X dX10_isMirror_25 rfl ?_
          refine j_getI X dX10_isMirror_26 ff_X10_7 rfl rfl ?_
          refine j_irem X dX10_isMirror_29 (by omega) (by omega) (by omega) (by omega) ?_
          rw [hu1, show (k : Int) / 4 % (n : Int) = lx n k from rfl]
          refine j_iload X dX10_isMirror_30 rfl ?_
          refine j_iconst X dX10_isMirror_32 ?_
          refine j_idiv X dX10_isMirror_33 (by omega) (by omega) (by omega) (by omega) ?_
          refine j_aload_n X dX10_isMirror_34 rfl ?_
          refine j_getI X dX10_isMirror_35 ff_X10_7 rfl rfl ?_
          refine j_idiv X dX10_isMirror_38 (by omega) (by omega) (by omega) (by omega) ?_
          rw [hu1, show (k : Int) / 4 / (n : Int) = ly n k from rfl]
          refine j_iload X dX10_isMirror_39 rfl ?_
          refine j_iconst X dX10_isMirror_41 ?_
          refine j_irem X dX10_isMirror_42 (by omega) (by omega) (by omega) (by omega) ?_
          rw [show (k : Int) % 4 = lq k from rfl]
          refine cV5v X mf_X10_turn mv_X10_turn ml_X10_153 (by decide) rfl rfl (Nat.le_of_ble_eq_true rfl) dX10_isMirror_43 (sp_X10_turn hs ⟨by omega, by omega⟩) (fun w_43 h_43 => ?_)
          change _ = _ at h_43
          subst w_43
          have ht1 : trnM u sort l (lx n k) (ly n k) (lq k) 54 1 = n := (trnM_i (by decide)).trans hu1
          have ht69 : trnM u sort l (lx n k) (ly n k) (lq k) 69 = w 69 := (trnM_o (by decide)).trans (hu.1 69 (by decide))
          refine j_aload_n X dX10_isMirror_46 rfl ?_
          refine j_getI X dX10_isMirror_47 ff_X10_122 rfl rfl ?_
          rw [trnM_x]
          refine j_i2l X dX10_isMirror_50 ⟨by omega, by omega⟩ ?_
          refine j_lconst X dX10_isMirror_51 ?_
          refine j_aload_n X dX10_isMirror_52 rfl ?_
          refine j_getI X dX10_isMirror_53 ff_X10_7 rfl rfl ?_
          refine j_iconst X dX10_isMirror_56 ?_
          refine j_isub X dX10_isMirror_57 ?_
          refine j_i2l X dX10_isMirror_58 ⟨by omega, by omega⟩ ?_
          refine cS3i X mf_X10_in ms_X10_in ml_X10_101 (by decide) (Nat.le_of_ble_eq_true rfl) dX10_isMirror_59 (sp_X10_in ⟨by omega, by omega⟩ ⟨by omega, by omega⟩ ⟨by omega, by omega⟩) (fun a_59 w_59 h_59 => ?_)
          obtain ⟨_, _⟩ := h_59
          subst a_59
          subst w_59
          refine jb_eq (tgt := 124) X dX10_isMirror_62 (by decide) (fun h_62 => ?_) (fun h_62 => ?_)
          · refine j_iconst X dX10_isMirror_124 ?_
            refine s_3 X dX10_isMirror_125 rfl ?_
            refine inc_4 X dX10_isMirror_126 rfl ?_
            refine j_goto (tgt := 5) X dX10_isMirror_129 (by decide) ?_
            exact ih5 (k + 1) _ _ (all_s hc (by omega) (ib_f (fun z => h_62 ⟨z.1.1, by have := z.1.2.1; omega⟩)).symm) (hu.trn _ _ _ _ _) (by omega) (by omega)
          · refine j_aload_n X dX10_isMirror_65 rfl ?_
            refine j_getI X dX10_isMirror_66 ff_X10_125 rfl rfl ?_
            rw [trnM_y]
            refine j_i2l X dX10_isMirror_69 ⟨by omega, by omega⟩ ?_
            refine j_lconst X dX10_isMirror_70 ?_
            refine j_aload_n X dX10_isMirror_71 rfl ?_
            refine j_getI X dX10_isMirror_72 ff_X10_7 rfl rfl ?_
            refine j_iconst X dX10_isMirror_75 ?_
            refine j_isub X dX10_isMirror_76 ?_
            refine j_i2l X dX10_isMirror_77 ⟨by omega, by omega⟩ ?_
            refine cS3i X mf_X10_in ms_X10_in ml_X10_101 (by decide) (Nat.le_of_ble_eq_true rfl) dX10_isMirror_78 (sp_X10_in ⟨by omega, by omega⟩ ⟨by omega, by omega⟩ ⟨by omega, by omega⟩) (fun a_78 w_78 h_78 => ?_)
            obtain ⟨_, _⟩ := h_78
            subst a_78
            subst w_78
            refine jb_eq (tgt := 124) X dX10_isMirror_81 (by decide) (fun h_81 => ?_) (fun h_81 => ?_)
            · refine j_iconst X dX10_isMirror_124 ?_
              refine s_3 X dX10_isMirror_125 rfl ?_
              refine inc_4 X dX10_isMirror_126 rfl ?_
              refine j_goto (tgt := 5) X dX10_isMirror_129 (by decide) ?_
              exact ih5 (k + 1) _ _ (all_s hc (by omega) (ib_f (fun z => h_81 ⟨z.1.2.2.1, by have := z.1.2.2.2; omega⟩)).symm) (hu.trn _ _ _ _ _) (by omega) (by omega)
            · have hx : 0 ≤ mirX sort l (lx n k) (ly n k) ∧ mirX sort l (lx n k) (ly n k) < (n : Int) := by omega
              have hy : 0 ≤ mirY sort l (lx n k) (ly n k) ∧ mirY sort l (lx n k) (ly n k) < (n : Int) := by omega
              obtain ⟨j, hj, hjN⟩ := mir_nat hx hy hmq
              have hjt : (4 * (mirY sort l (lx n k) (ly n k) * n + mirX sort l (lx n k) (ly n k)) + mirQ sort (lq k)).toNat = j := by rw [hj]; rfl
              have hfj := hfi j (by omega)
              have hfk := hfi k (by omega)
              refine j_aload_n X dX10_isMirror_84 rfl ?_
              refine j_getR X dX10_isMirror_85 ff_X10_60 rfl rfl ?_
              refine j_iconst X dX10_isMirror_88 ?_
              refine j_aload_n X dX10_isMirror_89 rfl ?_
              refine j_getI X dX10_isMirror_90 ff_X10_125 rfl rfl ?_
              refine j_aload_n X dX10_isMirror_93 rfl ?_
              refine j_getI X dX10_isMirror_94 ff_X10_7 rfl rfl ?_
              refine j_imul X dX10_isMirror_97 ?_
              refine j_aload_n X dX10_isMirror_98 rfl ?_
              refine j_getI X dX10_isMirror_99 ff_X10_122 rfl rfl ?_
              refine j_iadd X dX10_isMirror_102 ?_
              refine j_imul X dX10_isMirror_103 ?_
              refine j_aload_n X dX10_isMirror_104 rfl ?_
              refine j_getI X dX10_isMirror_105 ff_X10_128 rfl rfl ?_
              refine j_iadd X dX10_isMirror_108 ?_
              rw [trnM_y, trnM_x, trnM_q, ht1, hj]
              refine j_zaldk X dX10_isMirror_109 rfl (by omega) (by decide) ?_
              refine j_aload_n X dX10_isMirror_110 rfl ?_
              refine j_getR X dX10_isMirror_111 ff_X10_60 rfl rfl ?_
              refine j_iload X dX10_isMirror_114 rfl ?_
              refine j_zaldk X dX10_isMirror_116 rfl (by omega) (by decide) ?_
              rw [ht69]
              refine j_icmp_ne (tgt := 124) X dX10_isMirror_117 (by decide) ⟨by omega, by omega⟩ ⟨by omega, by omega⟩ (fun h_117 => ?_) (fun h_117 => ?_)
              · refine j_iconst X dX10_isMirror_124 ?_
                refine s_3 X dX10_isMirror_125 rfl ?_
                refine inc_4 X dX10_isMirror_126 rfl ?_
                refine j_goto (tgt := 5) X dX10_isMirror_129 (by decide) ?_
                exact ih5 (k + 1) _ _ (all_s hc (by omega) (ib_f (fun z => h_117 (by rw [← hjt]; exact z.2))).symm) (hu.trn _ _ _ _ _) (by omega) (by omega)
              · refine j_iconst X dX10_isMirror_120 ?_
                refine j_goto (tgt := 125) X dX10_isMirror_121 (by decide) ?_
                refine s_3 X dX10_isMirror_125 rfl ?_
                refine inc_4 X dX10_isMirror_126 rfl ?_
                refine j_goto (tgt := 5) X dX10_isMirror_129 (by decide) ?_
                exact ih5 (k + 1) _ _ (all_s hc (by omega) (ib_t ⟨⟨hx.1, hx.2, hy.1, hy.2⟩, by rw [hjt]; exact h_117⟩).symm) (hu.trn _ _ _ _ _) (by omega) (by omega)
  exact L_5 (4 * n * n + 1) 0 1 w (ib_t (fun j hj => absurd hj (Nat.not_lt_zero _))).symm (sc3.refl w) (by omega) (by omega)
set_option maxHeartbeats 4000000 in
set_option maxRecDepth 20000 in
theorem sp_X10_mirror {n : Nat} {w : wd} (hm : MI n w) {sort l : Int} (hsr : rg sort) (hlr : rg l) : CalI yX10_mirror cX10_mirror 3 .int 3 LAY w [vR 54, vI sort, vI l] (fun a w' => a = (if isLine sort l then ib (∀ k, k < 4 * n * n → mrOk n w sort l k) else -2) ∧ sc3 w w') := by
  obtain ⟨hn, ht0, hp, hcr, hfe, hfi, hic, hfo, hkn⟩ := id hm
  have hN := nn_le hn.1.2
  have hn1 := hn.2
  have hn6 := hn.1
  refine calI_intro (ls := [some (vR 54), some (vI sort), some (vI l)]) (by decide) (Nat.le_of_ble_eq_true rfl) rfl (fun κ ad X hR => ?_)
  refine j_aload_n X dX10_mirror_0 rfl ?_
  refine j_iconst X dX10_mirror_1 ?_
  refine j_putI X dX10_mirror_2 fp_X10_94 rfl rfl ?_
  rw [thr0 ht0]
  refine j_iload_n X dX10_mirror_5 rfl ?_
  refine j_iload_n X dX10_mirror_6 rfl ?_
  refine cS2i X mf_X10_noLine ms_X10_noLine ml_X10_138 (by decide) (Nat.le_of_ble_eq_true rfl) dX10_mirror_7 (sp_X10_noLine hsr hlr) (fun a_7 w_7 h_7 => ?_)
  obtain ⟨_, _⟩ := h_7
  subst a_7
  subst w_7
  refine jb_eq (tgt := 18) X dX10_mirror_10 (by decide) (fun h_10 => ?_) (fun h_10 => ?_)
  · have hln : isLine sort l := Decidable.not_not.mp h_10
    refine j_aload_n X dX10_mirror_18 rfl ?_
    refine j_iload_n X dX10_mirror_19 rfl ?_
    refine j_iload_n X dX10_mirror_20 rfl ?_
    refine cV2i X mf_X10_isMirror mv_X10_isMirror ml_X10_202 (by decide) rfl rfl (Nat.le_of_ble_eq_true rfl) dX10_mirror_21 (sp_X10_isMirror hn hfi hln.1 hln.2) (fun a_21 w_21 h_21 => ?_)
    obtain ⟨_, hu⟩ := h_21
    subst a_21
    refine jb_eq (tgt := 31) X dX10_mirror_24 (by decide) (fun h_24 => ?_) (fun h_24 => ?_)
    · refine j_iconst X dX10_mirror_31 ?_
      exact j_ireturn X hR dX10_mirror_32 ⟨by rw [if_pos hln, ib_f h_24], hu⟩
    · refine j_iconst X dX10_mirror_27 ?_
      refine j_goto (tgt := 32) X dX10_mirror_28 (by decide) ?_
      exact j_ireturn X hR dX10_mirror_32 ⟨by rw [if_pos hln, ib_t h_24], hu⟩
  · refine j_bipush X dX10_mirror_13 (by decide +kernel) ?_
    refine j_goto (tgt := 32) X dX10_mirror_15 (by decide) ?_
    exact j_ireturn X hR dX10_mirror_32 ⟨by rw [if_neg h_10], sc3.refl w⟩
set_option maxHeartbeats 4000000 in
set_option maxRecDepth 20000 in
theorem sp_X10_mirrors {n : Nat} {w : wd} (hm : MI n w) : CalI yX10_mirrors cX10_mirrors 4 .int 3 LAY w [vR 54] (fun a w' => a = sm (fun s => sm (fun kk => ib (∀ k, k < 4 * n * n → mrOk n w (s : Int) ((kk : Int) - 24) k)) 73) 4 ∧ sc3 w w') := by
  obtain ⟨hn, ht0, hp, hcr, hfe, hfi, hic, hfo, hkn⟩ := id hm
  have hN := nn_le hn.1.2
  have hn1 := hn.2
  have hn6 := hn.1
  refine calI_intro (ls := [some (vR 54), none, none, none]) (by decide) (Nat.le_of_ble_eq_true rfl) rfl (fun κ ad X hR => ?_)
  refine j_aload_n X dX10_mirrors_0 rfl ?_
  refine j_iconst X dX10_mirrors_1 ?_
  refine j_putI X dX10_mirrors_2 fp_X10_94 rfl rfl ?_
  rw [thr0 ht0]
  refine j_iconst X dX10_mirrors_5 ?_
  refine s_1 X dX10_mirrors_6 rfl ?_
  refine j_iconst X dX10_mirrors_7 ?_
  refine s_2 X dX10_mirrors_8 rfl ?_
  have L_9 : ∀ (m : Nat) (s : Nat) (c : Int) (u : wd) (_ : sc3 w u) (_ : c = sm (fun s => sm (fun kk => ib (∀ k, k < 4 * n * n → mrOk n w (s : Int) ((kk : Int) - 24) k)) 73) s) (_ : s ≤ 4) (_ : 4 - s < m), J κ LAY ad 0 0 9 [some (vR 54), some (vI c), some (vI (s : Int)), none] [] u := by
    intro m
    induction m with
    | zero => intros; exact absurd ‹_ < 0› (Nat.not_lt_zero _)
    | succ m ih9 =>
      intro s c u hu hc h1 h2
      refine j_iload_n X dX10_mirrors_9 rfl ?_
      refine j_iconst X dX10_mirrors_10 ?_
      refine j_icmp_ge (tgt := 52) X dX10_mirrors_11 (by decide) ⟨by omega, by omega⟩ ⟨by omega, by omega⟩ (fun h_11 => ?_) (fun h_11 => ?_)
      · refine j_iload_n X dX10_mirrors_52 rfl ?_
        exact j_ireturn X hR dX10_mirrors_53 ⟨by rw [hc, show s = 4 by omega], hu⟩
      · refine j_bipush X dX10_mirrors_14 (by decide +kernel) ?_
        refine s_3 X dX10_mirrors_16 rfl ?_
        have L_17 : ∀ (m : Nat) (kk : Nat) (d l : Int) (u : wd) (_ : sc3 w u) (_ : d = c + sm (fun kk => ib (∀ k, k < 4 * n * n → mrOk n w (s : Int) ((kk : Int) - 24) k)) kk) (_ : l = (kk : Int) - 24) (_ : kk ≤ 73) (_ : 73 - kk < m), J κ LAY ad 0 0 17 [some (vR 54), some (vI d), some (vI (s : Int)), some (vI l)] [] u := by
          intro m
          induction m with
          | zero => intros; exact absurd ‹_ < 0› (Nat.not_lt_zero _)
          | succ m ih17 =>
            intro kk d l u hu hd hkl h3 h4
            subst hkl
            refine j_iload_n X dX10_mirrors_17 rfl ?_
            refine j_bipush X dX10_mirrors_18 (by decide +kernel) ?_
            refine j_icmp_gt (tgt := 46) X dX10_mirrors_20 (by decide) ⟨by omega, by omega⟩ ⟨by omega, by omega⟩ (fun h_20 => ?_) (fun h_20 => ?_)
            · refine inc_2 X dX10_mirrors_46 rfl ?_
              refine j_goto (tgt := 9) X dX10_mirrors_49 (by decide) ?_
              refine fg_3 ?_
              exact ih9 (s + 1) _ _ hu (by rw [sm_s, hd, hc, show kk = 73 by omega]) (by omega) (by omega)
            · refine j_iload_n X dX10_mirrors_23 rfl ?_
              refine j_aload_n X dX10_mirrors_24 rfl ?_
              refine j_iload_n X dX10_mirrors_25 rfl ?_
              refine j_iload_n X dX10_mirrors_26 rfl ?_
              refine cV2i X mf_X10_isMirror mv_X10_isMirror ml_X10_202 (by decide) rfl rfl (Nat.le_of_ble_eq_true rfl) dX10_mirrors_27 (sp_X10_isMirror ⟨hn.1, (hu.2 1 (by decide)).trans hn1⟩ (fun k hk => by rw [hu.1 69 (by decide)]; exact hfi k hk) ⟨by omega, by omega⟩ ⟨by omega, by omega⟩) (fun a_27 w_27 h_27 => ?_)
              obtain ⟨h27, hu2⟩ := h_27
              subst a_27
              simp only [mrOk, hu.1 69 (by decide)]
              refine jb_eq (tgt := 37) X dX10_mirrors_30 (by decide) (fun h_30 => ?_) (fun h_30 => ?_)
              · refine j_iconst X dX10_mirrors_37 ?_
                refine j_iadd X dX10_mirrors_38 ?_
                refine s_1 X dX10_mirrors_39 rfl ?_
                refine inc_3 X dX10_mirrors_40 rfl ?_
                refine j_goto (tgt := 17) X dX10_mirrors_43 (by decide) ?_
                exact ih17 (kk + 1) _ _ _ (hu.trans hu2) (acc_f hd (ib_f h_30)) (by omega) (by omega) (by omega)
              · refine j_iconst X dX10_mirrors_33 ?_
                refine j_goto (tgt := 38) X dX10_mirrors_34 (by decide) ?_
                refine j_iadd X dX10_mirrors_38 ?_
                refine s_1 X dX10_mirrors_39 rfl ?_
                refine inc_3 X dX10_mirrors_40 rfl ?_
                refine j_goto (tgt := 17) X dX10_mirrors_43 (by decide) ?_
                exact ih17 (kk + 1) _ _ _ (hu.trans hu2) (acc_t hd (ib_t h_30)) (by omega) (by omega) (by omega)
        exact L_17 74 0 c _ u hu (by rw [sm_0]; omega) (by omega) (by omega) (by omega)
  exact L_9 5 0 0 w (sc3.refl w) rfl (by omega) (by omega)
set_option maxHeartbeats 4000000 in
set_option maxRecDepth 20000 in
theorem sp_X9_mirrors {n : Nat} {w : wd} (hc : CI n w) : CalI yX9_mirrors cX9_mirrors 4 .int 4 LAY w [vR 0] (fun a w' => a = sm (fun s => sm (fun kk => ib (∀ k, k < 4 * n * n → mirOk n w (s : Int) ((kk : Int) - 24) k)) 73) 4 ∧ w' = w) := by
  obtain ⟨hs, hp, hy, hh, hg, hf, hL, hm, hmd, hkn⟩ := id hc
  have h144 := nn_le hs.1.2
  refine calI_intro (ls := [some (vR 0), none, none, none]) (by decide) (Nat.le_of_ble_eq_true rfl) rfl (fun κ ad X hR => ?_)
  refine j_iconst X dX9_mirrors_0 ?_
  refine s_1 X dX9_mirrors_1 rfl ?_
  refine j_iconst X dX9_mirrors_2 ?_
  refine s_2 X dX9_mirrors_3 rfl ?_
  have L_4 : ∀ (m : Nat) (s : Nat) (c : Int) (_ : c = sm (fun s => sm (fun kk => ib (∀ k, k < 4 * n * n → mirOk n w (s : Int) ((kk : Int) - 24) k)) 73) s) (_ : s ≤ 4) (_ : 4 - s < m), J κ LAY ad 0 0 4 [some (vR 0), some (vI c), some (vI (s : Int)), none] [] w := by
    intro m
    induction m with
    | zero => intros; exact absurd ‹_ < 0› (Nat.not_lt_zero _)
    | succ m ih4 =>
      intro s c hc h1 h2
      refine j_iload_n X dX9_mirrors_4 rfl ?_
      refine j_iconst X dX9_mirrors_5 ?_
      refine j_icmp_ge (tgt := 45) X dX9_mirrors_6 (by decide) ⟨by omega, by omega⟩ ⟨by omega, by omega⟩ (fun h_6 => ?_) (fun h_6 => ?_)
      · refine j_iload_n X dX9_mirrors_45 rfl ?_
        exact j_ireturn X hR dX9_mirrors_46 ⟨by rw [hc, show s = 4 by omega], rfl⟩
      · refine j_bipush X dX9_mirrors_9 (by decide +kernel) ?_
        refine s_3 X dX9_mirrors_11 rfl ?_
        have L_12 : ∀ (m : Nat) (kk : Nat) (d l : Int) (_ : d = c + sm (fun kk => ib (∀ k, k < 4 * n * n → mirOk n w (s : Int) ((kk : Int) - 24) k)) kk) (_ : l = (kk : Int) - 24) (_ : kk ≤ 73) (_ : 73 - kk < m), J κ LAY ad 0 0 12 [some (vR 0), some (vI d), some (vI (s : Int)), some (vI l)] [] w := by
          intro m
          induction m with
          | zero => intros; exact absurd ‹_ < 0› (Nat.not_lt_zero _)
          | succ m ih12 =>
            intro kk d l hd hkl h3 h4
            subst hkl
            refine j_iload_n X dX9_mirrors_12 rfl ?_
            refine j_bipush X dX9_mirrors_13 (by decide +kernel) ?_
            refine j_icmp_gt (tgt := 39) X dX9_mirrors_15 (by decide) ⟨by omega, by omega⟩ ⟨by omega, by omega⟩ (fun h_15 => ?_) (fun h_15 => ?_)
            · refine inc_2 X dX9_mirrors_39 rfl ?_
              refine j_goto (tgt := 4) X dX9_mirrors_42 (by decide) ?_
              refine fg_3 ?_
              exact ih4 (s + 1) _ (by rw [sm_s, hd, hc, show kk = 73 by omega]) (by omega) (by omega)
            · refine j_iload_n X dX9_mirrors_18 rfl ?_
              refine j_aload_n X dX9_mirrors_19 rfl ?_
              refine j_getR X dX9_mirrors_20 ff_X9_44 rfl rfl ?_
              refine j_iload_n X dX9_mirrors_23 rfl ?_
              refine j_iload_n X dX9_mirrors_24 rfl ?_
              refine cV2i X mf_X1_isMirror mv_X1_isMirror ml_X9_208 (by decide) rfl rfl (Nat.le_of_ble_eq_true rfl) dX9_mirrors_25 (sp_X1_isMirror hs hg ⟨by omega, by omega⟩ ⟨by omega, by omega⟩) (fun a_25 w_25 h_25 => ?_)
              obtain ⟨_, _⟩ := h_25
              subst a_25
              subst w_25
              refine cS1i X mf_X9_yes ms_X9_yes ml_X9_117 (by decide) (Nat.le_of_ble_eq_true rfl) dX9_mirrors_28 (sp_X9_yes ib_01) (fun a_28 w_28 h_28 => ?_)
              obtain ⟨_, _⟩ := h_28
              subst a_28
              subst w_28
              refine j_iadd X dX9_mirrors_31 ?_
              refine s_1 X dX9_mirrors_32 rfl ?_
              refine inc_3 X dX9_mirrors_33 rfl ?_
              refine j_goto (tgt := 12) X dX9_mirrors_36 (by decide) ?_
              exact ih12 (kk + 1) _ _ (by rw [sm_s, hd]; omega) (by omega) (by omega) (by omega)
        exact L_12 74 0 c _ (by rw [sm_0]; omega) (by omega) (by omega) (by omega)
  exact L_4 5 0 0 rfl (by omega) (by omega)
set_option maxHeartbeats 4000000 in
set_option maxRecDepth 20000 in
theorem sp_X10_count {n : Nat} {w : wd} (hm : MI n w) {t : Int} (ht : rg t) : CalI yX10_count cX10_count 5 .int 3 LAY w [vR 54, vI t] (fun a w' => a = (if t = 0 then ((4 * n * n : Nat) : Int) else if t = 1 then sm (fun k => ib (w 68 k = 1)) (4 * n * n) else if t = 2 then sm (fun k => ib (w 69 k = 1)) (4 * n * n) else if t = 3 then sm (fun k => ib (¬ w 59 k = 1)) (4 * n * n) else if t = 4 then (n : Int) else -2) ∧ w' = w) := by
  obtain ⟨hn, ht0, hp, hcr, hfe, hfi, hic, hfo, hkn⟩ := id hm
  have hN := nn_le hn.1.2
  have hn1 := hn.2
  have hn6 := hn.1
  refine calI_intro (ls := [some (vR 54), some (vI t), none, none, none]) (by decide) (Nat.le_of_ble_eq_true rfl) rfl (fun κ ad X hR => ?_)
  refine j_aload_n X dX10_count_0 rfl ?_
  refine j_iconst X dX10_count_1 ?_
  refine j_putI X dX10_count_2 fp_X10_94 rfl rfl ?_
  rw [thr0 ht0]
  refine j_iconst X dX10_count_5 ?_
  refine s_2 X dX10_count_6 rfl ?_
  refine j_iconst X dX10_count_7 ?_
  refine s_3 X dX10_count_8 rfl ?_
  refine j_iconst X dX10_count_9 ?_
  refine s_4 X dX10_count_10 rfl ?_
  have L_12 : ∀ (m : Nat) (k : Nat) (c d : Int) (_ : c = sm (fun k => ib (w 68 k = 1)) k) (_ : d = sm (fun k => ib (¬ w 59 k = 1)) k) (_ : k ≤ 4 * n * n) (_ : 4 * n * n - k < m), J κ LAY ad 0 0 12 [some (vR 54), some (vI t), some (vI c), some (vI d), some (vI (k : Int))] [] w := by
    intro m
    induction m with
    | zero => intros; exact absurd ‹_ < 0› (Nat.not_lt_zero _)
    | succ m ih12 =>
      intro k c d hc hd h1 h2
      refine j_iload X dX10_count_12 rfl ?_
      refine j_aload_n X dX10_count_14 rfl ?_
      refine cV0i X mf_X10_facets mv_X10_facets ml_X10_97 (by decide) rfl rfl (Nat.le_of_ble_eq_true rfl) dX10_count_15 (sp_X10_facets hn) (fun a_15 w_15 h_15 => ?_)
      obtain ⟨_, _⟩ := h_15
      subst a_15
      subst w_15
      refine j_icmp_ge (tgt := 63) X dX10_count_18 (by decide) ⟨by omega, by omega⟩ ⟨by omega, by omega⟩ (fun h_18 => ?_) (fun h_18 => ?_)
      · refine j_iload_n X dX10_count_63 rfl ?_
        refine j_if_ne (tgt := 74) X dX10_count_64 (by decide) ⟨by omega, by omega⟩ (fun h_64 => ?_) (fun h_64 => ?_)
        · refine j_iload_n X dX10_count_74 rfl ?_
          refine j_iconst X dX10_count_75 ?_
          refine j_icmp_ne (tgt := 83) X dX10_count_76 (by decide) ⟨by omega, by omega⟩ ⟨by omega, by omega⟩ (fun h_76 => ?_) (fun h_76 => ?_)
          · refine j_iload_n X dX10_count_83 rfl ?_
            refine j_iconst X dX10_count_84 ?_
            refine j_icmp_ne (tgt := 95) X dX10_count_85 (by decide) ⟨by omega, by omega⟩ ⟨by omega, by omega⟩ (fun h_85 => ?_) (fun h_85 => ?_)
            · refine j_iload_n X dX10_count_95 rfl ?_
              refine j_iconst X dX10_count_96 ?_
              refine j_icmp_ne (tgt := 104) X dX10_count_97 (by decide) ⟨by omega, by omega⟩ ⟨by omega, by omega⟩ (fun h_97 => ?_) (fun h_97 => ?_)
              · refine j_iload_n X dX10_count_104 rfl ?_
                refine j_iconst X dX10_count_105 ?_
                refine j_icmp_ne (tgt := 116) X dX10_count_106 (by decide) ⟨by omega, by omega⟩ ⟨by omega, by omega⟩ (fun h_106 => ?_) (fun h_106 => ?_)
                · refine j_bipush X dX10_count_116 (by decide +kernel) ?_
                  exact j_ireturn X hR dX10_count_118 ⟨by rw [if_neg (by omega), if_neg (by omega), if_neg (by omega), if_neg (by omega), if_neg (by omega)], rfl⟩
                · refine j_aload_n X dX10_count_109 rfl ?_
                  refine j_getI X dX10_count_110 ff_X10_7 rfl rfl ?_
                  refine j_goto (tgt := 118) X dX10_count_113 (by decide) ?_
                  exact j_ireturn X hR dX10_count_118 ⟨by rw [if_neg (by omega), if_neg (by omega), if_neg (by omega), if_neg (by omega), if_pos (by omega)]; exact hn1, rfl⟩
              · refine j_iload_n X dX10_count_100 rfl ?_
                refine j_goto (tgt := 118) X dX10_count_101 (by decide) ?_
                exact j_ireturn X hR dX10_count_118 ⟨by rw [if_neg (by omega), if_neg (by omega), if_neg (by omega), if_pos (by omega), hd, show k = 4 * n * n by omega], rfl⟩
            · refine j_aload_n X dX10_count_88 rfl ?_
              refine cV0i X mf_X10_marked mv_X10_marked ml_X10_199 (by decide) rfl rfl (Nat.le_of_ble_eq_true rfl) dX10_count_89 (sp_X10_marked hn hfi) (fun a_89 w_89 h_89 => ?_)
              obtain ⟨_, _⟩ := h_89
              subst a_89
              subst w_89
              refine j_goto (tgt := 118) X dX10_count_92 (by decide) ?_
              exact j_ireturn X hR dX10_count_118 ⟨by rw [if_neg (by omega), if_neg (by omega), if_pos (by omega)], rfl⟩
          · refine j_iload_n X dX10_count_79 rfl ?_
            refine j_goto (tgt := 118) X dX10_count_80 (by decide) ?_
            exact j_ireturn X hR dX10_count_118 ⟨by rw [if_neg (by omega), if_pos (by omega), hc, show k = 4 * n * n by omega], rfl⟩
        · refine j_aload_n X dX10_count_67 rfl ?_
          refine cV0i X mf_X10_facets mv_X10_facets ml_X10_97 (by decide) rfl rfl (Nat.le_of_ble_eq_true rfl) dX10_count_68 (sp_X10_facets hn) (fun a_68 w_68 h_68 => ?_)
          obtain ⟨_, _⟩ := h_68
          subst a_68
          subst w_68
          refine j_goto (tgt := 118) X dX10_count_71 (by decide) ?_
          exact j_ireturn X hR dX10_count_118 ⟨by rw [if_pos (by omega)], rfl⟩
      · have h68 := hfe k (by omega)
        have h59 := (hp k (by omega)).2.2.2.2
        refine j_iload_n X dX10_count_21 rfl ?_
        refine j_aload_n X dX10_count_22 rfl ?_
        refine j_getR X dX10_count_23 ff_X10_57 rfl rfl ?_
        refine j_iload X dX10_count_26 rfl ?_
        refine j_zaldk X dX10_count_28 rfl (by omega) (by decide) ?_
        refine j_if_eq (tgt := 36) X dX10_count_29 (by decide) ⟨by omega, by omega⟩ (fun h_29 => ?_) (fun h_29 => ?_)
        · refine j_iconst X dX10_count_36 ?_
          refine j_iadd X dX10_count_37 ?_
          refine s_2 X dX10_count_38 rfl ?_
          refine j_iload_n X dX10_count_39 rfl ?_
          refine j_aload_n X dX10_count_40 rfl ?_
          refine j_getR X dX10_count_41 ff_X10_26 rfl rfl ?_
          refine j_iload X dX10_count_44 rfl ?_
          refine j_zaldk X dX10_count_46 rfl (by omega) (by decide) ?_
          refine j_if_eq (tgt := 54) X dX10_count_47 (by decide) ⟨by omega, by omega⟩ (fun h_47 => ?_) (fun h_47 => ?_)
          · refine j_iconst X dX10_count_54 ?_
            refine j_iadd X dX10_count_55 ?_
            refine s_3 X dX10_count_56 rfl ?_
            refine inc_4 X dX10_count_57 rfl ?_
            refine j_goto (tgt := 12) X dX10_count_60 (by decide) ?_
            exact ih12 (k + 1) _ _ (ac0_f hc (ib_f (by omega))) (ac0_t hd (ib_t (by omega))) (by omega) (by omega)
          · refine j_iconst X dX10_count_50 ?_
            refine j_goto (tgt := 55) X dX10_count_51 (by decide) ?_
            refine j_iadd X dX10_count_55 ?_
            refine s_3 X dX10_count_56 rfl ?_
            refine inc_4 X dX10_count_57 rfl ?_
            refine j_goto (tgt := 12) X dX10_count_60 (by decide) ?_
            exact ih12 (k + 1) _ _ (ac0_f hc (ib_f (by omega))) (ac0_f hd (ib_f (by omega))) (by omega) (by omega)
        · refine j_iconst X dX10_count_32 ?_
          refine j_goto (tgt := 37) X dX10_count_33 (by decide) ?_
          refine j_iadd X dX10_count_37 ?_
          refine s_2 X dX10_count_38 rfl ?_
          refine j_iload_n X dX10_count_39 rfl ?_
          refine j_aload_n X dX10_count_40 rfl ?_
          refine j_getR X dX10_count_41 ff_X10_26 rfl rfl ?_
          refine j_iload X dX10_count_44 rfl ?_
          refine j_zaldk X dX10_count_46 rfl (by omega) (by decide) ?_
          refine j_if_eq (tgt := 54) X dX10_count_47 (by decide) ⟨by omega, by omega⟩ (fun h_47 => ?_) (fun h_47 => ?_)
          · refine j_iconst X dX10_count_54 ?_
            refine j_iadd X dX10_count_55 ?_
            refine s_3 X dX10_count_56 rfl ?_
            refine inc_4 X dX10_count_57 rfl ?_
            refine j_goto (tgt := 12) X dX10_count_60 (by decide) ?_
            exact ih12 (k + 1) _ _ (ac0_t hc (ib_t (by omega))) (ac0_t hd (ib_t (by omega))) (by omega) (by omega)
          · refine j_iconst X dX10_count_50 ?_
            refine j_goto (tgt := 55) X dX10_count_51 (by decide) ?_
            refine j_iadd X dX10_count_55 ?_
            refine s_3 X dX10_count_56 rfl ?_
            refine inc_4 X dX10_count_57 rfl ?_
            refine j_goto (tgt := 12) X dX10_count_60 (by decide) ?_
            exact ih12 (k + 1) _ _ (ac0_t hc (ib_t (by omega))) (ac0_f hd (ib_f (by omega))) (by omega) (by omega)
  exact L_12 (4 * n * n + 1) 0 0 0 rfl rfl (by omega) (by omega)
