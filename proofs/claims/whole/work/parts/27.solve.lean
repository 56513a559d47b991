def SL (n : Nat) (w u : wd) (t : Nat) : Prop := (∀ o, ¬ srC o → u o = w o) ∧ LQA u ∧ u 23 11 = (t : Int) ∧ t ≤ 4 ∧ RpD 0 u (4 * n * n) (flF n (w 22)) (S0 n) ∧ SrS n (flF n (w 22)) t u
theorem SL_next {n t : Nat} {w u v : wd} (h : SL n w u t) (h9 : u 23 9 = -99999) (h10 : u 23 10 = -99999) (ht : t ≤ 3) (hn : noneS n (flF n (w 22)) t) (hv : FRM 0 (wst (wst u 23 5 (t : Int)) 23 6 0) (wst (wst (wst v 23 6 0) 23 9 (u 23 9)) 23 10 (u 23 10))) (hq : LQS 0 v) (hT : TrQ n (flF n (w 22)) t v) : SL n w (wst v 23 11 (v 23 11 + 1)) (t + 1) := by
  obtain ⟨h1, h2, h3, h4, h5, h6⟩ := h
  obtain ⟨f1, f2, f3⟩ := hv
  have e11 := f2 11 (by decide) (by decide)
  simp only [w23] at e11
  simp at e11
  have eo : ∀ o, ¬ ownC 0 o → o ≠ 52 → o ≠ 53 → o ≠ 23 → v o = u o := fun o ho a1 a2 a3 => by
    have := f1 o ho a1 a2 a3
    rw [wo a3, wo a3, wo a3, wo a3, wo a3] at this
    exact this
  refine ⟨fun o ho => ?_, ⟨?_, hq.cong (fun o ho => wo (by omega))⟩, ?_, by omega, ?_, (SrS_next hn hT).cong (fun i hi => by simp only [w23]; rw [if_neg hi]) (wo (by decide))⟩
  · rw [wo (by omega), eo o (by omega) (by omega) (by omega) (by omega), h1 o ho]
  · exact h2.1.cong (by rw [wo (by decide), eo 24 (by decide) (by decide) (by decide) (by decide)]) (fun j hj => by rw [wo (by omega), eo _ (by omega) (by omega) (by omega) (by omega)])
  · simp only [w23]
    rw [if_pos trivial, e11, h3]
    omega
  · exact h5.cong (by rw [wo (by decide), eo 24 (by decide) (by decide) (by decide) (by decide)]) (fun j hj => by rw [wo (by omega), eo _ (by omega) (by omega) (by omega) (by omega)])
theorem SL_I {n t : Nat} {w u : wd} (h : SL n w u t) : SrI n u := by
  obtain ⟨h1, h2, h3, h4, h5, h6⟩ := h
  have e : u 22 = w 22 := h1 22 (by decide)
  exact ⟨h2, t, h3, h4, by rw [e]; exact fun _ => h5, by rw [e]; exact h6⟩
theorem SL_r {n t : Nat} {w u : wd} (h : SL n w u t) (hp : 0 ≤ u 23 9) : RcA (u 23 9).toNat u (acS n (flF n (w 22)) (u 23 9).toNat) ∧ u 23 9 ≤ 3 := by
  obtain ⟨h1, h2, h3, h4, h5, h6⟩ := h
  rcases h6 with ⟨q1, q2, q3, q4, q5⟩ | ⟨j, q1, q2, q3, q4, q5, q6, q7⟩ | ⟨j, q1, q2, q3, q4, q5⟩
  · omega
  · rw [q5]
    exact ⟨q7, by omega⟩
  · omega
theorem SrS_rg {n t : Nat} {F : Nat → Int} {w : wd} (h : SrS n F t w) (ht : t ≤ 4) : rg (w 23 9) ∧ rg (w 23 10) := by
  rcases h with ⟨q1, q2, q3, q4, q5⟩ | ⟨j, q1, q2, q3, q4, q5, q6, q7⟩ | ⟨j, q1, q2, q3, q4, q5⟩ <;> omega
theorem SL_0 {n us sp : Nat} {w u : wd} (hi : SrI n w) (h0 : w 23 11 = 0) (hL : LR u 24 46 us sp) (hA : EA u 24 46 us sp (4 * n * n) (w 22) (S0 n)) (hB : EB u 24 46 us sp (4 * n * n) (w 22) (S0 n)) (hf : ∀ o, o ≠ 24 → (o < 46 ∨ 51 < o) → u o = w o) : SL n w u 0 := by
  obtain ⟨h1, t, h2, h3, h4, h5⟩ := hi
  have ht : t = 0 := by omega
  subst ht
  have e23 := hf 23 (by decide) (by decide)
  have hFF : ∀ f, f < 4 * n * n → w 22 f = flF n (w 22) f := fun f hf => (if_pos hf).symm
  exact ⟨fun o ho => hf o (by omega) (by omega), ⟨hL.lq, h1.2.cong (fun o ho => hf o (by omega) (by omega))⟩, by rw [e23]; exact h2, by decide, ⟨us, sp, hL, (EAB_F hFF).1 hA, (EAB_F hFF).2 hB⟩, h5.cong (fun i _ => by rw [e23]) (hf 53 (by decide) (by decide))⟩
theorem SL_1 {n : Nat} {w : wd} (hi : SrI n w) (h0 : w 23 11 ≠ 0) : ∃ t, SL n w w t := by
  obtain ⟨h1, t, h2, h3, h4, h5⟩ := hi
  exact ⟨t, fun _ _ => rfl, h1, h2, h3, h4 (by omega), h5⟩
set_option maxHeartbeats 4000000 in
set_option maxRecDepth 20000 in
theorem sp_X6_solve {n f : Nat} {w : wd} (hs : ShO n w) (hg : FgO w) (ht : -1000 ≤ w 21 2 ∧ w 21 2 ≤ 1000) (hf3 : f ≤ 3) (hi : SrI n w) : CalI yX6_solve cX6_solve 2 .int 11 LAY w [vR 23, vI (f : Int)] (fun a w' => (∀ o, ¬ srC o → w' o = w o) ∧ SrI n w' ∧ a = lkS n (flF n (w 22)) (f + 1) ∧ (0 ≤ a → RcA a.toNat w' (acS n (flF n (w 22)) a.toNat) ∧ a ≤ 3)) := by
  have hN := nn_le hs.1.2
  have hF : ∀ k, k < 4 * n * n → flF n (w 22) k = 0 ∨ flF n (w 22) k = 1 := fun k hk => by
    unfold flF
    rw [if_pos hk]
    exact hg k (by omega)
  have hi11 : rg (w 23 11) := by obtain ⟨_, t, h2, h3, _⟩ := hi; omega
  obtain ⟨us, sp, hu, hus, hK⟩ := hi.1.1
  refine calI_intro (ls := [some (vR 23), some (vI (f : Int))]) (by decide) (Nat.le_of_ble_eq_true rfl) rfl (fun κ ad X hR => ?_)
  have C_69 : ∀ (u : wd) (t : Nat), SL n w u t → (f < t ∨ u 23 9 ≠ -99999 ∨ u 23 10 ≠ -99999) → J κ LAY ad 0 0 69 [some (vR 23), some (vI (f : Int))] [] u := by
    intro u t hL hx
    have hans := SrS_ans (f := f) hL.2.2.2.2.2 hx
    have hrg := SrS_rg hL.2.2.2.2.2 hL.2.2.2.1
    refine j_aload_n X dX6_solve_69 rfl ?_
    refine j_getI X dX6_solve_70 ff_X6_49 rfl rfl ?_
    refine j_ldc X dX6_solve_73 kc_X6_45 ?_
    refine j_icmp_eq (tgt := 89) X dX6_solve_75 (by decide) ⟨by omega, by omega⟩ ⟨by omega, by omega⟩ (fun h_75 => ?_) (fun h_75 => ?_)
    · refine j_aload_n X dX6_solve_89 rfl ?_
      refine j_getI X dX6_solve_90 ff_X6_46 rfl rfl ?_
      refine j_iload_n X dX6_solve_93 rfl ?_
      refine j_icmp_gt (tgt := 104) X dX6_solve_94 (by decide) ⟨by omega, by omega⟩ ⟨by omega, by omega⟩ (fun h_94 => ?_) (fun h_94 => ?_)
      · refine j_ldc X dX6_solve_104 kc_X6_45 ?_
        exact j_ireturn X hR dX6_solve_106 ⟨hL.1, SL_I hL, by rw [hans, if_neg (by omega), if_neg (by omega)], fun z => absurd z (by decide)⟩
      · refine j_aload_n X dX6_solve_97 rfl ?_
        refine j_getI X dX6_solve_98 ff_X6_46 rfl rfl ?_
        refine j_goto (tgt := 106) X dX6_solve_101 (by decide) ?_
        exact j_ireturn X hR dX6_solve_106 ⟨hL.1, SL_I hL, by rw [hans, if_neg (by omega), if_pos (by omega)], fun z => SL_r hL z⟩
    · refine j_aload_n X dX6_solve_78 rfl ?_
      refine j_getI X dX6_solve_79 ff_X6_49 rfl rfl ?_
      refine j_iload_n X dX6_solve_82 rfl ?_
      refine j_icmp_gt (tgt := 89) X dX6_solve_83 (by decide) ⟨by omega, by omega⟩ ⟨by omega, by omega⟩ (fun h_83 => ?_) (fun h_83 => ?_)
      · refine j_aload_n X dX6_solve_89 rfl ?_
        refine j_getI X dX6_solve_90 ff_X6_46 rfl rfl ?_
        refine j_iload_n X dX6_solve_93 rfl ?_
        refine j_icmp_gt (tgt := 104) X dX6_solve_94 (by decide) ⟨by omega, by omega⟩ ⟨by omega, by omega⟩ (fun h_94 => ?_) (fun h_94 => ?_)
        · refine j_ldc X dX6_solve_104 kc_X6_45 ?_
          exact j_ireturn X hR dX6_solve_106 ⟨hL.1, SL_I hL, by rw [hans, if_neg (by omega), if_neg (by omega)], fun z => absurd z (by decide)⟩
        · refine j_aload_n X dX6_solve_97 rfl ?_
          refine j_getI X dX6_solve_98 ff_X6_46 rfl rfl ?_
          refine j_goto (tgt := 106) X dX6_solve_101 (by decide) ?_
          exact j_ireturn X hR dX6_solve_106 ⟨hL.1, SL_I hL, by rw [hans, if_neg (by omega), if_pos (by omega)], fun z => SL_r hL z⟩
      · refine j_bipush X dX6_solve_86 (by decide +kernel) ?_
        exact j_ireturn X hR dX6_solve_88 ⟨hL.1, SL_I hL, by rw [hans, if_pos ⟨by omega, by omega⟩], fun z => absurd z (by decide)⟩
  refine j_aload_n X dX6_solve_0 rfl ?_
  have C_22 : ∀ (m : Nat) (u : wd) (t : Nat), SL n w u t → 4 - t < m → J κ LAY ad 0 0 22 [some (vR 23), some (vI (f : Int))] [] u := by
    intro m
    induction m
    · intro u t hL h2; exact absurd h2 (Nat.not_lt_zero _)
    rename_i m ih22
    intro u t hL h2
    have hrg := SrS_rg hL.2.2.2.2.2 hL.2.2.2.1
    have h11 := hL.2.2.1
    have ht4 := hL.2.2.2.1
    refine j_aload_n X dX6_solve_22 rfl ?_
    refine j_getI X dX6_solve_23 ff_X6_35 rfl rfl ?_
    refine j_iload_n X dX6_solve_26 rfl ?_
    refine j_icmp_gt (tgt := 69) X dX6_solve_27 (by decide) ⟨by omega, by omega⟩ ⟨by omega, by omega⟩ (fun h_27 => ?_) (fun h_27 => ?_)
    · exact C_69 u t hL (Or.inl (by have := hL.2.2.1; omega))
    · refine j_aload_n X dX6_solve_30 rfl ?_
      refine j_getI X dX6_solve_31 ff_X6_46 rfl rfl ?_
      refine j_ldc X dX6_solve_34 kc_X6_45 ?_
      refine j_icmp_ne (tgt := 69) X dX6_solve_36 (by decide) ⟨by omega, by omega⟩ ⟨by omega, by omega⟩ (fun h_36 => ?_) (fun h_36 => ?_)
      · exact C_69 u t hL (Or.inr (Or.inl h_36))
      · refine j_aload_n X dX6_solve_39 rfl ?_
        refine j_getI X dX6_solve_40 ff_X6_49 rfl rfl ?_
        refine j_ldc X dX6_solve_43 kc_X6_45 ?_
        refine j_icmp_ne (tgt := 69) X dX6_solve_45 (by decide) ⟨by omega, by omega⟩ ⟨by omega, by omega⟩ (fun h_45 => ?_) (fun h_45 => ?_)
        · exact C_69 u t hL (Or.inr (Or.inr h_45))
        · refine j_aload_n X dX6_solve_48 rfl ?_
          refine j_aload_n X dX6_solve_49 rfl ?_
          refine j_getI X dX6_solve_50 ff_X6_35 rfl rfl ?_
          rw [h11]
          have hno : noneS n (flF n (w 22)) t ∧ u 23 7 = rwS n (flF n (w 22)) t ∧ u 23 8 = 0 := by
            rcases hL.2.2.2.2.2 with ⟨q1, q2, q3, q4, q5⟩ | ⟨j, q1, q2, q3, q4, q5, q6, q7⟩ | ⟨j, q1, q2, q3, q4, q5⟩
            · exact ⟨q1, q4, q5⟩
            · omega
            · omega
          refine cV1v X mf_X6_tryRows mv_X6_tryRows ml_X6_56 (by decide) rfl rfl (Nat.le_of_ble_eq_true rfl) dX6_solve_53 (sp_X6_tryRows (g := t) (F := flF n (w 22)) hs.1 hF (by omega) hL.2.1.2 hL.2.2.2.2.1 hno.2.1 hno.1.1 hno.2.2 (by omega) (by omega)) (fun w_53 h_53 => ?_)
          have hL3 := SL_next hL (by omega) (by omega) (by omega) hno.1 h_53.1 h_53.2.1 h_53.2.2
          refine j_aload_n X dX6_solve_56 rfl ?_
          refine j_dup X dX6_solve_57 (fun _ h => by cases h) ?_
          refine j_getI X dX6_solve_58 ff_X6_35 rfl rfl ?_
          refine j_iconst X dX6_solve_61 ?_
          refine j_iadd X dX6_solve_62 ?_
          refine j_putI X dX6_solve_63 fp_X6_35 rfl rfl ?_
          refine j_goto (tgt := 22) X dX6_solve_66 (by decide) ?_
          exact ih22 _ (t + 1) hL3 (by omega)
  refine j_getI X dX6_solve_1 ff_X6_35 rfl rfl ?_
  refine j_if_ne (tgt := 22) X dX6_solve_4 (by decide) ⟨by omega, by omega⟩ (fun h_4 => ?_) (fun h_4 => ?_)
  · obtain ⟨t0, ht0⟩ := SL_1 hi h_4
    exact C_22 (4 - t0 + 1) w t0 ht0 (by omega)
  · refine j_aload_n X dX6_solve_7 rfl ?_
    refine j_getR X dX6_solve_8 ff_X6_14 rfl rfl ?_
    refine j_aload_n X dX6_solve_11 rfl ?_
    refine j_getR X dX6_solve_12 ff_X6_27 rfl rfl ?_
    refine j_aload_n X dX6_solve_15 rfl ?_
    refine j_getR X dX6_solve_16 ff_X6_31 rfl rfl ?_
    refine cV2v X mf_X2_load mv_X2_load ml_X6_52 (by decide) rfl rfl (Nat.le_of_ble_eq_true rfl) dX6_solve_19 (sp_X2_load hs hg ht hu hus hK) (fun w_19 h_19 => ?_)
    obtain ⟨us2, sp2, hL2, hA2, hB2, hf2⟩ := h_19
    have hL0 := SL_0 hi (by omega) hL2 hA2 hB2 hf2
    exact C_22 5 _ 0 hL0 (by omega)
set_option maxHeartbeats 4000000 in
set_option maxRecDepth 20000 in
theorem sp_X6_told {i l : Int} {w : wd} (hi : rg i) (hl : 0 ≤ l ∧ l ≤ 3) : CalI yX6_told cX6_told 3 .int 2 LAY w [vR 23, vI i, vI l] (fun a w' => a = (if 0 ≤ i ∧ i ≤ l then w 53 i.toNat else -99999) ∧ w' = w) := by
  refine calI_intro (ls := [some (vR 23), some (vI i), some (vI l)]) (by decide) (Nat.le_of_ble_eq_true rfl) rfl (fun κ ad X hR => ?_)
  refine j_iload_n X dX6_told_0 rfl ?_
  refine j_if_lt (tgt := 20) X dX6_told_1 (by decide) ⟨by omega, by omega⟩ (fun h_1 => ?_) (fun h_1 => ?_)
  · refine j_ldc X dX6_told_20 kc_X6_45 ?_
    exact j_ireturn X hR dX6_told_22 ⟨by rw [if_neg (by omega)], rfl⟩
  · refine j_iload_n X dX6_told_4 rfl ?_
    refine j_iload_n X dX6_told_5 rfl ?_
    refine j_icmp_gt (tgt := 20) X dX6_told_6 (by decide) ⟨by omega, by omega⟩ ⟨by omega, by omega⟩ (fun h_6 => ?_) (fun h_6 => ?_)
    · refine j_ldc X dX6_told_20 kc_X6_45 ?_
      exact j_ireturn X hR dX6_told_22 ⟨by rw [if_neg (by omega)], rfl⟩
    · refine j_aload_n X dX6_told_9 rfl ?_
      refine j_getR X dX6_told_10 ff_X6_24 rfl rfl ?_
      refine j_iload_n X dX6_told_13 rfl ?_
      obtain ⟨k, rfl⟩ : ∃ k : Nat, i = (k : Int) := ⟨i.toNat, by omega⟩
      refine cS2i X mf_X5_get ms_X5_get ml_X6_60 (by decide) (Nat.le_of_ble_eq_true rfl) dX6_told_14 (sp_getk (k := k) rfl (by decide) (by omega)) (fun a_14 w_14 h_14 => ?_)
      obtain ⟨_, _⟩ := h_14
      subst a_14
      subst w_14
      refine j_goto (tgt := 22) X dX6_told_17 (by decide) ?_
      exact j_ireturn X hR dX6_told_22 ⟨by rw [if_pos ⟨by omega, by omega⟩]; rfl, rfl⟩
def wayF (n : Nat) (F : Nat → Int) (f i : Int) : Int := if 0 ≤ f ∧ f ≤ 3 then (if lkS n F (f.toNat + 1) < 0 then lkS n F (f.toNat + 1) else if 0 ≤ i ∧ i ≤ lkS n F (f.toNat + 1) then tl ((acS n F (lkS n F (f.toNat + 1)).toNat).2 i.toNat) else -99999) else -2
def wysF (n : Nat) (F : Nat → Int) (f : Int) : Int := if 0 ≤ f ∧ f ≤ 3 then (if lkS n F (f.toNat + 1) = -99999 then 0 else if lkS n F (f.toNat + 1) < 0 then lkS n F (f.toNat + 1) else (acS n F (lkS n F (f.toNat + 1)).toNat).1) else -2
def fewF (n : Nat) (F : Nat → Int) (f : Int) : Int := if 0 ≤ f ∧ f ≤ 3 then lkS n F (f.toNat + 1) else -2
theorem lkS_rg (n : Nat) (F : Nat → Int) : ∀ m, m ≤ 4 → rg (lkS n F m) ∧ (0 ≤ lkS n F m → 0 < (acS n F (lkS n F m).toNat).1)
  | 0, _ => by simp only [lkS]; omega
  | m + 1, h => by
    have ih := lkS_rg n F m (by omega)
    simp only [lkS]
    split
    · split
      · exact ⟨by decide, fun z => absurd z (by decide)⟩
      · split
        · rename_i z
          exact ⟨by omega, fun _ => z⟩
        · exact ⟨by decide, fun z => absurd z (by decide)⟩
    · exact ih
set_option maxHeartbeats 4000000 in
set_option maxRecDepth 20000 in
theorem sp_X9_fewest {n : Nat} {w : wd} (hc : CI n w) (ht : -1000 ≤ w 21 2 ∧ w 21 2 ≤ 1000) (hi : SrI n w) {t : Int} (ht0 : rg t) : CalI yX9_fewest cX9_fewest 2 .int 12 LAY w [vR 0, vI t] (fun a w' => a = fewF n (flF n (w 22)) t ∧ (∀ o, ¬ srC o → w' o = w o) ∧ SrI n w') := by
  obtain ⟨hs, hp, hy, hh, hg, hfl, hls, hmm, hpm, hkn⟩ := hc
  refine calI_intro (ls := [some (vR 0), some (vI t)]) (by decide) (Nat.le_of_ble_eq_true rfl) rfl (fun κ ad X hR => ?_)
  refine j_iload_n X dX9_fewest_0 rfl ?_
  refine cS1i X mf_X9_isWayLength ms_X9_isWayLength ml_X9_211 (by decide) (Nat.le_of_ble_eq_true rfl) dX9_fewest_1 (sp_X9_isWayLength ht0) (fun a_1 w_1 h_1 => ?_)
  obtain ⟨_, _⟩ := h_1
  subst a_1
  subst w_1
  refine jb_eq (tgt := 18) X dX9_fewest_4 (by decide) (fun h_4 => ?_) (fun h_4 => ?_)
  · refine j_bipush X dX9_fewest_18 (by decide +kernel) ?_
    exact j_ireturn X hR dX9_fewest_20 ⟨by unfold fewF; rw [if_neg h_4], fun _ _ => rfl, hi⟩
  · refine j_aload_n X dX9_fewest_7 rfl ?_
    refine j_getR X dX9_fewest_8 ff_X9_53 rfl rfl ?_
    refine j_iload_n X dX9_fewest_11 rfl ?_
    obtain ⟨k, rfl⟩ : ∃ k : Nat, t = (k : Int) := ⟨t.toNat, by omega⟩
    refine cV1i X mf_X6_solve mv_X6_solve ml_X9_214 (by decide) rfl rfl (Nat.le_of_ble_eq_true rfl) dX9_fewest_12 (sp_X6_solve (n := n) (f := k) hs hg ht (by omega) hi) (fun a_12 w_12 h_12 => ?_)
    obtain ⟨q1, q2, q3, q4⟩ := h_12
    refine j_goto (tgt := 20) X dX9_fewest_15 (by decide) ?_
    exact j_ireturn X hR dX9_fewest_20 ⟨by unfold fewF; rw [if_pos h_4]; exact q3, q1, q2⟩
set_option maxHeartbeats 4000000 in
set_option maxRecDepth 20000 in
theorem sp_X9_way {n : Nat} {w : wd} (hc : CI n w) (ht : -1000 ≤ w 21 2 ∧ w 21 2 ≤ 1000) (hi : SrI n w) {t i : Int} (ht0 : rg t) (hi0 : rg i) : CalI yX9_way cX9_way 4 .int 12 LAY w [vR 0, vI t, vI i] (fun a w' => a = wayF n (flF n (w 22)) t i ∧ (∀ o, ¬ srC o → w' o = w o) ∧ SrI n w') := by
  obtain ⟨hs, hp, hy, hh, hg, hfl, hls, hmm, hpm, hkn⟩ := hc
  refine calI_intro (ls := [some (vR 0), some (vI t), some (vI i), none]) (by decide) (Nat.le_of_ble_eq_true rfl) rfl (fun κ ad X hR => ?_)
  refine j_iload_n X dX9_way_0 rfl ?_
  refine cS1i X mf_X9_isWayLength ms_X9_isWayLength ml_X9_211 (by decide) (Nat.le_of_ble_eq_true rfl) dX9_way_1 (sp_X9_isWayLength ht0) (fun a_1 w_1 h_1 => ?_)
  obtain ⟨_, _⟩ := h_1
  subst a_1
  subst w_1
  refine jb_ne (tgt := 10) X dX9_way_4 (by decide) (fun h_4 => ?_) (fun h_4 => ?_)
  · refine j_aload_n X dX9_way_10 rfl ?_
    refine j_getR X dX9_way_11 ff_X9_53 rfl rfl ?_
    refine j_iload_n X dX9_way_14 rfl ?_
    obtain ⟨k, rfl⟩ : ∃ k : Nat, t = (k : Int) := ⟨t.toNat, by omega⟩
    refine cV1i X mf_X6_solve mv_X6_solve ml_X9_214 (by decide) rfl rfl (Nat.le_of_ble_eq_true rfl) dX9_way_15 (sp_X6_solve (n := n) (f := k) hs hg ht (by omega) hi) (fun a_15 w_15 h_15 => ?_)
    obtain ⟨q1, q2, q3, q4⟩ := h_15
    have hlk := lkS_rg n (flF n (w 22)) (k + 1) (by omega)
    have q4b : 0 ≤ a_15 → a_15 ≤ 3 := fun z => (q4 z).2
    rw [q3] at q4 q4b ⊢
    clear q3
    generalize hx : lkS n (flF n (w 22)) (k + 1) = x at *
    refine s_3 X dX9_way_18 rfl ?_
    refine j_iload_n X dX9_way_19 rfl ?_
    refine j_if_ge (tgt := 27) X dX9_way_20 (by decide) ⟨by omega, by omega⟩ (fun h_20 => ?_) (fun h_20 => ?_)
    · refine j_aload_n X dX9_way_27 rfl ?_
      refine j_getR X dX9_way_28 ff_X9_53 rfl rfl ?_
      refine j_iload_n X dX9_way_31 rfl ?_
      refine j_iload_n X dX9_way_32 rfl ?_
      refine cV2i X mf_X6_told mv_X6_told ml_X9_217 (by decide) rfl rfl (Nat.le_of_ble_eq_true rfl) dX9_way_33 (sp_X6_told hi0 ⟨by omega, by omega⟩) (fun a_33 w_33 h_33 => ?_)
      obtain ⟨_, _⟩ := h_33
      subst a_33
      subst w_33
      exact j_ireturn X hR dX9_way_36 (by
        obtain ⟨⟨r1, r2, r3⟩, r4⟩ := q4 (by omega)
        refine ⟨?_, q1, q2⟩
        unfold wayF
        rw [if_pos h_4, Int.toNat_natCast, hx, if_neg (show ¬ x < 0 by omega)]
        by_cases z : 0 ≤ i ∧ i ≤ x
        · rw [if_pos z, if_pos z]
          exact r3 (hlk.2 (by omega)) i.toNat (by omega)
        · rw [if_neg z, if_neg z])
    · refine j_iload_n X dX9_way_23 rfl ?_
      refine j_goto (tgt := 36) X dX9_way_24 (by decide) ?_
      exact j_ireturn X hR dX9_way_36 ⟨by unfold wayF; rw [if_pos h_4, Int.toNat_natCast, hx, if_pos (by omega)], q1, q2⟩
  · refine j_bipush X dX9_way_7 (by decide +kernel) ?_
    exact j_ireturn X hR dX9_way_9 ⟨by unfold wayF; rw [if_neg h_4], fun _ _ => rfl, hi⟩
set_option maxHeartbeats 4000000 in
set_option maxRecDepth 20000 in
theorem sp_X9_ways {n : Nat} {w : wd} (hc : CI n w) (ht : -1000 ≤ w 21 2 ∧ w 21 2 ≤ 1000) (hi : SrI n w) {t : Int} (ht0 : rg t) : CalI yX9_ways cX9_ways 3 .int 12 LAY w [vR 0, vI t] (fun a w' => a = wysF n (flF n (w 22)) t ∧ (∀ o, ¬ srC o → w' o = w o) ∧ SrI n w') := by
  obtain ⟨hs, hp, hy, hh, hg, hfl, hls, hmm, hpm, hkn⟩ := hc
  refine calI_intro (ls := [some (vR 0), some (vI t), none]) (by decide) (Nat.le_of_ble_eq_true rfl) rfl (fun κ ad X hR => ?_)
  refine j_iload_n X dX9_ways_0 rfl ?_
  refine cS1i X mf_X9_isWayLength ms_X9_isWayLength ml_X9_211 (by decide) (Nat.le_of_ble_eq_true rfl) dX9_ways_1 (sp_X9_isWayLength ht0) (fun a_1 w_1 h_1 => ?_)
  obtain ⟨_, _⟩ := h_1
  subst a_1
  subst w_1
  refine jb_ne (tgt := 10) X dX9_ways_4 (by decide) (fun h_4 => ?_) (fun h_4 => ?_)
  · refine j_aload_n X dX9_ways_10 rfl ?_
    refine j_getR X dX9_ways_11 ff_X9_53 rfl rfl ?_
    refine j_iload_n X dX9_ways_14 rfl ?_
    obtain ⟨k, rfl⟩ : ∃ k : Nat, t = (k : Int) := ⟨t.toNat, by omega⟩
    refine cV1i X mf_X6_solve mv_X6_solve ml_X9_214 (by decide) rfl rfl (Nat.le_of_ble_eq_true rfl) dX9_ways_15 (sp_X6_solve (n := n) (f := k) hs hg ht (by omega) hi) (fun a_15 w_15 h_15 => ?_)
    obtain ⟨q1, q2, q3, q4⟩ := h_15
    have hlk := lkS_rg n (flF n (w 22)) (k + 1) (by omega)
    rw [q3] at q4 ⊢
    clear q3
    generalize hx : lkS n (flF n (w 22)) (k + 1) = x at *
    refine s_2 X dX9_ways_18 rfl ?_
    refine j_iload_n X dX9_ways_19 rfl ?_
    refine j_ldc X dX9_ways_20 kc_X9_220 ?_
    refine j_icmp_ne (tgt := 27) X dX9_ways_22 (by decide) ⟨by omega, by omega⟩ ⟨by omega, by omega⟩ (fun h_22 => ?_) (fun h_22 => ?_)
    · refine j_iload_n X dX9_ways_27 rfl ?_
      refine j_if_ge (tgt := 35) X dX9_ways_28 (by decide) ⟨by omega, by omega⟩ (fun h_28 => ?_) (fun h_28 => ?_)
      · refine j_aload_n X dX9_ways_35 rfl ?_
        refine j_getR X dX9_ways_36 ff_X9_53 rfl rfl ?_
        refine j_getI X dX9_ways_39 ff_X9_221 rfl rfl ?_
        exact j_ireturn X hR dX9_ways_42 (by
          obtain ⟨⟨r1, r2, r3⟩, r4⟩ := q4 (by omega)
          refine ⟨?_, q1, q2⟩
          unfold wysF
          rw [if_pos h_4, Int.toNat_natCast, hx, if_neg (by omega), if_neg (by omega)]
          exact r1)
      · refine j_iload_n X dX9_ways_31 rfl ?_
        refine j_goto (tgt := 42) X dX9_ways_32 (by decide) ?_
        exact j_ireturn X hR dX9_ways_42 ⟨by unfold wysF; rw [if_pos h_4, Int.toNat_natCast, hx, if_neg (by omega), if_pos (by omega)], q1, q2⟩
    · refine j_iconst X dX9_ways_25 ?_
      exact j_ireturn X hR dX9_ways_26 ⟨by unfold wysF; rw [if_pos h_4, Int.toNat_natCast, hx, if_pos (by omega)], q1, q2⟩
  · refine j_bipush X dX9_ways_7 (by decide +kernel) ?_
    exact j_ireturn X hR dX9_ways_9 ⟨by unfold wysF; rw [if_neg h_4], fun _ _ => rfl, hi⟩
