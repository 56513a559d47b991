/-! ===== the reference: its face without folds, cuts and ways ===== -/
def MI (n : Nat) (w : wd) : Prop := nOk n w ∧ w 54 0 = 0 ∧ (∀ k, k < 4 * n * n → PlM w k) ∧ (∀ i, i < 432 → 0 ≤ w 60 i ∧ w 60 i ≤ 2) ∧ (∀ k, k < 144 → w 68 k = 0 ∨ w 68 k = 1) ∧ (∀ k, k < 144 → w 69 k = 0 ∨ w 69 k = 1) ∧ (w 54 17 = 0 ∨ w 54 17 = 1) ∧ (∃ m : Nat, m ≤ 8 ∧ w 54 8 = (m : Int)) ∧ (1 ≤ w 54 16 ∧ w 54 16 ≤ 144)
theorem thr0 {w : wd} (h : w 54 0 = 0) : wst w 54 0 0 = w := by
  funext o i
  by_cases ho : o = 54
  · subst ho
    by_cases hi : i = 0
    · subst hi; simp [wst, w1, h]
    · simp [wst, w1, hi]
  · simp [wst, ho]
theorem c3 (f e : Nat) : (3 : Int) * (f : Int) + (e : Int) = ((3 * f + e : Nat) : Int) := by omega
set_option maxHeartbeats 4000000 in
set_option maxRecDepth 20000 in
theorem sp_X10_folds {n : Nat} {w : wd} (hm : MI n w) : CalI yX10_folds cX10_folds 1 .int 1 LAY w [vR 54] (fun a w' => a = w 54 8 ∧ w' = w) := by
  obtain ⟨hn, ht0, hp, hcr, hfe, hfi, hic, hfo, hkn⟩ := id hm
  have hN := nn_le hn.1.2
  have hn1 := hn.2
  have hn6 := hn.1
  refine calI_intro (ls := [some (vR 54)]) (by decide) (Nat.le_of_ble_eq_true rfl) rfl (fun κ ad X hR => ?_)
  refine j_aload_n X dX10_folds_0 rfl ?_
  refine j_iconst X dX10_folds_1 ?_
  refine j_putI X dX10_folds_2 fp_X10_94 rfl rfl ?_
  rw [thr0 ht0]
  refine j_aload_n X dX10_folds_5 rfl ?_
  refine j_getI X dX10_folds_6 ff_X10_111 rfl rfl ?_
  exact j_ireturn X hR dX10_folds_9 ⟨rfl, rfl⟩
set_option maxHeartbeats 4000000 in
set_option maxRecDepth 20000 in
theorem sp_X10_places {n : Nat} {w : wd} (hm : MI n w) : CalI yX10_places cX10_places 1 .int 3 LAY w [vR 54] (fun a w' => a = sm (fun k => ib (w 58 k = 0)) (4 * n * n) ∧ w' = w) := by
  obtain ⟨hn, ht0, hp, hcr, hfe, hfi, hic, hfo, hkn⟩ := id hm
  have hN := nn_le hn.1.2
  have hn1 := hn.2
  have hn6 := hn.1
  refine calI_intro (ls := [some (vR 54)]) (by decide) (Nat.le_of_ble_eq_true rfl) rfl (fun κ ad X hR => ?_)
  refine j_aload_n X dX10_places_0 rfl ?_
  refine j_iconst X dX10_places_1 ?_
  refine j_putI X dX10_places_2 fp_X10_94 rfl rfl ?_
  rw [thr0 ht0]
  refine j_aload_n X dX10_places_5 rfl ?_
  refine cV0i X mf_X10_placesOf mv_X10_placesOf ml_X10_157 (by decide) rfl rfl (Nat.le_of_ble_eq_true rfl) dX10_places_6 (sp_X10_placesOf hn hp) (fun a_6 w_6 h_6 => ?_)
  obtain ⟨_, _⟩ := h_6
  subst a_6
  subst w_6
  exact j_ireturn X hR dX10_places_9 ⟨rfl, rfl⟩
set_option maxHeartbeats 4000000 in
set_option maxRecDepth 20000 in
theorem sp_X10_deepest {n : Nat} {w : wd} (hm : MI n w) : CalI yX10_deepest cX10_deepest 3 .int 2 LAY w [vR 54] (fun a w' => a = mxf (fun k => w 58 k + 1) (4 * n * n) ∧ w' = w) := by
  obtain ⟨hn, ht0, hp, hcr, hfe, hfi, hic, hfo, hkn⟩ := id hm
  have hN := nn_le hn.1.2
  have hn1 := hn.2
  have hn6 := hn.1
  refine calI_intro (ls := [some (vR 54), none, none]) (by decide) (Nat.le_of_ble_eq_true rfl) rfl (fun κ ad X hR => ?_)
  refine j_aload_n X dX10_deepest_0 rfl ?_
  refine j_iconst X dX10_deepest_1 ?_
  refine j_putI X dX10_deepest_2 fp_X10_94 rfl rfl ?_
  rw [thr0 ht0]
  refine j_iconst X dX10_deepest_5 ?_
  refine s_1 X dX10_deepest_6 rfl ?_
  refine j_iconst X dX10_deepest_7 ?_
  refine s_2 X dX10_deepest_8 rfl ?_
  have L_9 : ∀ (m : Nat) (k : Nat) (c : Int) (_ : c = mxf (fun k => w 58 k + 1) k) (_ : 0 ≤ c ∧ c ≤ 1001) (_ : k ≤ 4 * n * n) (_ : 4 * n * n - k < m), J κ LAY ad 0 0 9 [some (vR 54), some (vI c), some (vI (k : Int))] [] w := by
    intro m
    induction m with
    | zero => intro k c hc hcb h1 h2; exact absurd h2 (Nat.not_lt_zero _)
    | succ m ih9 =>
      intro k c hc hcb h1 h2
      refine j_iload_n X dX10_deepest_9 rfl ?_
      refine j_aload_n X dX10_deepest_10 rfl ?_
      refine cV0i X mf_X10_facets mv_X10_facets ml_X10_97 (by decide) rfl rfl (Nat.le_of_ble_eq_true rfl) dX10_deepest_11 (sp_X10_facets hn) (fun a_11 w_11 h_11 => ?_)
      obtain ⟨_, _⟩ := h_11
      subst a_11
      subst w_11
      refine j_icmp_ge (tgt := 48) X dX10_deepest_14 (by decide) ⟨by omega, by omega⟩ ⟨by omega, by omega⟩ (fun h_14 => ?_) (fun h_14 => ?_)
      · refine j_iload_n X dX10_deepest_48 rfl ?_
        exact j_ireturn X hR dX10_deepest_49 ⟨by rw [hc, show k = 4 * n * n by omega], rfl⟩
      · have hpk := (hp k (by omega)).2.2.2.1
        refine j_aload_n X dX10_deepest_17 rfl ?_
        refine j_getR X dX10_deepest_18 ff_X10_23 rfl rfl ?_
        refine j_iload_n X dX10_deepest_21 rfl ?_
        refine j_ialdk X dX10_deepest_22 rfl (by omega) (by decide) ?_
        refine j_iconst X dX10_deepest_23 ?_
        refine j_iadd X dX10_deepest_24 ?_
        refine j_iload_n X dX10_deepest_25 rfl ?_
        refine j_icmp_le (tgt := 40) X dX10_deepest_26 (by decide) ⟨by omega, by omega⟩ ⟨by omega, by omega⟩ (fun h_26 => ?_) (fun h_26 => ?_)
        · refine j_iload_n X dX10_deepest_40 rfl ?_
          refine s_1 X dX10_deepest_41 rfl ?_
          refine inc_2 X dX10_deepest_42 rfl ?_
          refine j_goto (tgt := 9) X dX10_deepest_45 (by decide) ?_
          exact ih9 (k + 1) _ (by rw [mxf_s, ← hc]; omega) (by omega) (by omega) (by omega)
        · refine j_aload_n X dX10_deepest_29 rfl ?_
          refine j_getR X dX10_deepest_30 ff_X10_23 rfl rfl ?_
          refine j_iload_n X dX10_deepest_33 rfl ?_
          refine j_ialdk X dX10_deepest_34 rfl (by omega) (by decide) ?_
          refine j_iconst X dX10_deepest_35 ?_
          refine j_iadd X dX10_deepest_36 ?_
          refine j_goto (tgt := 41) X dX10_deepest_37 (by decide) ?_
          refine s_1 X dX10_deepest_41 rfl ?_
          refine inc_2 X dX10_deepest_42 rfl ?_
          refine j_goto (tgt := 9) X dX10_deepest_45 (by decide) ?_
          exact ih9 (k + 1) _ (by rw [mxf_s, ← hc]; omega) (by omega) (by omega) (by omega)
  exact L_9 (4 * n * n + 1) 0 0 rfl (by omega) (by omega) (by omega)
def rch (g : Nat → Int) (t : Int) (k : Nat) : Int := if t % 2 = 0 then mnA g (k - 1) else mxA g (k - 1)
theorem rch_s {g : Nat → Int} {t : Int} {k : Nat} : rch g t (k + 1) = if t % 2 = 0 then min (rch g t k) (g k) else max (rch g t k) (g k) := by
  unfold rch
  cases k with
  | zero => by_cases z : t % 2 = 0 <;> simp [z, mnA, mxA]
  | succ k => by_cases z : t % 2 = 0 <;> simp [z, mnA, mxA]
theorem rch_n {g : Nat → Int} {t : Int} {k : Nat} {a : Int} (h : a = rch g t k) {x b : Int} (hx : x = g k) (hb : (t % 2 = 0 ∧ b = min a x) ∨ (¬ t % 2 = 0 ∧ b = max a x)) : b = rch g t (k + 1) := by
  rw [rch_s, ← h, ← hx]
  rcases hb with ⟨z, e⟩ | ⟨z, e⟩
  · rw [if_pos z, e]
  · rw [if_neg z, e]
theorem rch_b {g : Nat → Int} {t : Int} {N k : Nat} (h : ∀ i, i < N → -300 ≤ g i ∧ g i ≤ 300) (hk : k ≤ N) (hN : 1 ≤ N) : -300 ≤ rch g t k ∧ rch g t k ≤ 300 := by
  unfold rch
  split
  · exact mnA_b (k - 1) (fun i hi => h i (by omega))
  · exact mxA_b (k - 1) (fun i hi => h i (by omega))
theorem rch_e {w : wd} {t : Int} {N : Nat} (ht : 0 ≤ t ∧ t ≤ 3) : rch (if t < 2 then w 55 else w 56) t N = (if t = 0 then mnA (w 55) (N - 1) else if t = 1 then mxA (w 55) (N - 1) else if t = 2 then mnA (w 56) (N - 1) else if t = 3 then mxA (w 56) (N - 1) else -2) := by
  rcases (by omega : t = 0 ∨ t = 1 ∨ t = 2 ∨ t = 3) with rfl | rfl | rfl | rfl <;> rfl
set_option maxHeartbeats 4000000 in
set_option maxRecDepth 20000 in
theorem sp_X10_reach {n : Nat} {w : wd} (hm : MI n w) {t : Int} (ht : rg t) : CalI yX10_reach cX10_reach 5 .int 2 LAY w [vR 54, vI t] (fun a w' => a = (if t = 0 then mnA (w 55) (4 * n * n - 1) else if t = 1 then mxA (w 55) (4 * n * n - 1) else if t = 2 then mnA (w 56) (4 * n * n - 1) else if t = 3 then mxA (w 56) (4 * n * n - 1) else -2) ∧ w' = w) := by
  obtain ⟨hn, ht0, hp, hcr, hfe, hfi, hic, hfo, hkn⟩ := id hm
  have hN := nn_le hn.1.2
  have hn1 := hn.2
  have hn6 := hn.1
  have hN1 := nn_pos hn.1.1
  refine calI_intro (ls := [some (vR 54), some (vI t), none, none, none]) (by decide) (Nat.le_of_ble_eq_true rfl) rfl (fun κ ad X hR => ?_)
  refine j_aload_n X dX10_reach_0 rfl ?_
  refine j_iconst X dX10_reach_1 ?_
  refine j_putI X dX10_reach_2 fp_X10_94 rfl rfl ?_
  rw [thr0 ht0]
  refine j_iload_n X dX10_reach_5 rfl ?_
  refine j_i2l X dX10_reach_6 ⟨by omega, by omega⟩ ?_
  refine j_lconst X dX10_reach_7 ?_
  refine j_ldc2 X dX10_reach_8 kl_X10_105 ?_
  refine cS3i X mf_X10_in ms_X10_in ml_X10_101 (by decide) (Nat.le_of_ble_eq_true rfl) dX10_reach_11 (sp_X10_in ⟨by omega, by omega⟩ ⟨by omega, by omega⟩ ⟨by omega, by omega⟩) (fun a_11 w_11 h_11 => ?_)
  obtain ⟨_, _⟩ := h_11
  subst a_11
  subst w_11
  refine jb_ne (tgt := 20) X dX10_reach_14 (by decide) (fun h_14 => ?_) (fun h_14 => ?_)
  · have C_40 : J κ LAY ad 0 0 40 [some (vR 54), some (vI t), none, none, none] [vI (rch (if t < 2 then w 55 else w 56) t 0)] w := by
      skip
      refine s_2 X dX10_reach_40 rfl ?_
      refine j_iconst X dX10_reach_41 ?_
      refine s_3 X dX10_reach_42 rfl ?_
      have L_43 : ∀ (m : Nat) (k : Nat) (c : Int) (_ : c = rch (if t < 2 then w 55 else w 56) t k) (_ : k ≤ 4 * n * n) (_ : 4 * n * n - k < m), J κ LAY ad 0 0 43 [some (vR 54), some (vI t), some (vI c), some (vI (k : Int)), none] [] w := by
        intro m
        induction m with
        | zero => intro k c hc h1 h2; exact absurd h2 (Nat.not_lt_zero _)
        | succ m ih43 =>
          intro k c hc h1 h2
          have hcb : -300 ≤ c ∧ c ≤ 300 := by
            rw [hc]; exact rch_b (N := 4 * n * n) (fun i hi => by split; exact (hp i hi).1; exact (hp i hi).2.1) h1 hN1
          refine j_iload_n X dX10_reach_43 rfl ?_
          refine j_aload_n X dX10_reach_44 rfl ?_
          refine cV0i X mf_X10_facets mv_X10_facets ml_X10_97 (by decide) rfl rfl (Nat.le_of_ble_eq_true rfl) dX10_reach_45 (sp_X10_facets hn) (fun a_45 w_45 h_45 => ?_)
          obtain ⟨_, _⟩ := h_45
          subst a_45
          subst w_45
          refine j_icmp_ge (tgt := 113) X dX10_reach_48 (by decide) ⟨by omega, by omega⟩ ⟨by omega, by omega⟩ (fun h_48 => ?_) (fun h_48 => ?_)
          · refine j_iload_n X dX10_reach_113 rfl ?_
            exact j_ireturn X hR dX10_reach_114 ⟨by rw [hc, show k = 4 * n * n by omega]; exact rch_e (by omega), rfl⟩
          · have C_71 : ∀ xx : Int, xx = (if t < 2 then w 55 else w 56) k → -300 ≤ xx ∧ xx ≤ 300 → J κ LAY ad 0 0 71 [some (vR 54), some (vI t), some (vI c), some (vI (k : Int)), none] [vI xx] w := by
              intro xx hxe hxb
              refine s_4 X dX10_reach_71 rfl ?_
              refine j_iload_n X dX10_reach_73 rfl ?_
              refine j_iconst X dX10_reach_74 ?_
              refine j_irem X dX10_reach_75 (by omega) (by omega) (by omega) (by omega) ?_
              refine j_if_ne (tgt := 94) X dX10_reach_76 (by decide) ⟨by omega, by omega⟩ (fun h_76 => ?_) (fun h_76 => ?_)
              · refine j_iload X dX10_reach_94 rfl ?_
                refine j_iload_n X dX10_reach_96 rfl ?_
                refine j_icmp_le (tgt := 105) X dX10_reach_97 (by decide) ⟨by omega, by omega⟩ ⟨by omega, by omega⟩ (fun h_97 => ?_) (fun h_97 => ?_)
                · refine j_iload_n X dX10_reach_105 rfl ?_
                  refine s_2 X dX10_reach_106 rfl ?_
                  refine inc_3 X dX10_reach_107 rfl ?_
                  refine j_goto (tgt := 43) X dX10_reach_110 (by decide) ?_
                  refine fg_4 ?_
                  exact ih43 (k + 1) _ (rch_n hc hxe (by omega)) (by omega) (by omega)
                · refine j_iload X dX10_reach_100 rfl ?_
                  refine j_goto (tgt := 106) X dX10_reach_102 (by decide) ?_
                  refine s_2 X dX10_reach_106 rfl ?_
                  refine inc_3 X dX10_reach_107 rfl ?_
                  refine j_goto (tgt := 43) X dX10_reach_110 (by decide) ?_
                  refine fg_4 ?_
                  exact ih43 (k + 1) _ (rch_n hc hxe (by omega)) (by omega) (by omega)
              · refine j_iload X dX10_reach_79 rfl ?_
                refine j_iload_n X dX10_reach_81 rfl ?_
                refine j_icmp_ge (tgt := 90) X dX10_reach_82 (by decide) ⟨by omega, by omega⟩ ⟨by omega, by omega⟩ (fun h_82 => ?_) (fun h_82 => ?_)
                · refine j_iload_n X dX10_reach_90 rfl ?_
                  refine j_goto (tgt := 106) X dX10_reach_91 (by decide) ?_
                  refine s_2 X dX10_reach_106 rfl ?_
                  refine inc_3 X dX10_reach_107 rfl ?_
                  refine j_goto (tgt := 43) X dX10_reach_110 (by decide) ?_
                  refine fg_4 ?_
                  exact ih43 (k + 1) _ (rch_n hc hxe (by omega)) (by omega) (by omega)
                · refine j_iload X dX10_reach_85 rfl ?_
                  refine j_goto (tgt := 106) X dX10_reach_87 (by decide) ?_
                  refine s_2 X dX10_reach_106 rfl ?_
                  refine inc_3 X dX10_reach_107 rfl ?_
                  refine j_goto (tgt := 43) X dX10_reach_110 (by decide) ?_
                  refine fg_4 ?_
                  exact ih43 (k + 1) _ (rch_n hc hxe (by omega)) (by omega) (by omega)
            refine j_iload_n X dX10_reach_51 rfl ?_
            refine j_iconst X dX10_reach_52 ?_
            refine j_icmp_ge (tgt := 65) X dX10_reach_53 (by decide) ⟨by omega, by omega⟩ ⟨by omega, by omega⟩ (fun h_53 => ?_) (fun h_53 => ?_)
            · refine j_aload_n X dX10_reach_65 rfl ?_
              refine j_getR X dX10_reach_66 ff_X10_17 rfl rfl ?_
              refine j_iload_n X dX10_reach_69 rfl ?_
              refine j_ialdk X dX10_reach_70 rfl (by omega) (by decide) ?_
              exact C_71 _ (by rw [if_neg (show ¬ t < 2 by omega)]) (hp k (by omega)).2.1
            · refine j_aload_n X dX10_reach_56 rfl ?_
              refine j_getR X dX10_reach_57 ff_X10_13 rfl rfl ?_
              refine j_iload_n X dX10_reach_60 rfl ?_
              refine j_ialdk X dX10_reach_61 rfl (by omega) (by decide) ?_
              refine j_goto (tgt := 71) X dX10_reach_62 (by decide) ?_
              exact C_71 _ (by rw [if_pos (show t < 2 by omega)]) (hp k (by omega)).1
      exact L_43 (4 * n * n + 1) 0 _ rfl (by omega) (by omega)
    refine j_iload_n X dX10_reach_20 rfl ?_
    refine j_iconst X dX10_reach_21 ?_
    refine j_icmp_ge (tgt := 34) X dX10_reach_22 (by decide) ⟨by omega, by omega⟩ ⟨by omega, by omega⟩ (fun h_22 => ?_) (fun h_22 => ?_)
    · refine j_aload_n X dX10_reach_34 rfl ?_
      skip
      refine j_getR X dX10_reach_35 ff_X10_17 rfl rfl ?_
      refine j_iconst X dX10_reach_38 ?_
      rw [show (0 : Int) = ((0 : Nat) : Int) from rfl]
      refine j_ialdk X dX10_reach_39 rfl (by omega) (by decide) ?_
      have h9 := C_40
      unfold rch at h9
      rw [if_neg (show ¬ t < 2 by omega)] at h9
      simp only [mnA, mxA, Nat.zero_sub, ite_self] at h9
      exact h9
    · refine j_aload_n X dX10_reach_25 rfl ?_
      refine j_getR X dX10_reach_26 ff_X10_13 rfl rfl ?_
      refine j_iconst X dX10_reach_29 ?_
      rw [show (0 : Int) = ((0 : Nat) : Int) from rfl]
      refine j_ialdk X dX10_reach_30 rfl (by omega) (by decide) ?_
      refine j_goto (tgt := 40) X dX10_reach_31 (by decide) ?_
      have h9 := C_40
      unfold rch at h9
      rw [if_pos (show t < 2 by omega)] at h9
      simp only [mnA, mxA, Nat.zero_sub, ite_self] at h9
      exact h9
  · refine j_bipush X dX10_reach_17 (by decide +kernel) ?_
    exact j_ireturn X hR dX10_reach_19 ⟨by rw [if_neg (by omega), if_neg (by omega), if_neg (by omega), if_neg (by omega)], rfl⟩
set_option maxHeartbeats 4000000 in
set_option maxRecDepth 20000 in
theorem sp_X10_facet {n : Nat} {w : wd} (hm : MI n w) {k : Int} (hk : rg k) {t : Int} (ht : rg t) : CalI yX10_facet cX10_facet 3 .int 3 LAY w [vR 54, vI k, vI t] (fun a w' => a = (if ¬ (0 ≤ k ∧ k < ((4 * n * n : Nat) : Int)) then -1 else if t = 0 then w 55 k.toNat else if t = 1 then w 56 k.toNat else if t = 2 then w 57 k.toNat else if t = 3 then w 58 k.toNat else if t = 4 then ib (w 59 k.toNat = 1) else if t = 5 then sm (fun i => ib (w 55 i = w 55 k.toNat ∧ w 56 i = w 56 k.toNat ∧ w 57 i = w 57 k.toNat)) (4 * n * n) else if t = 6 then ib (w 68 k.toNat = 1) else if t = 7 then ib (w 69 k.toNat = 1) else -2) ∧ w' = w) := by
  obtain ⟨hn, ht0, hp, hcr, hfe, hfi, hic, hfo, hkn⟩ := id hm
  have hN := nn_le hn.1.2
  have hn1 := hn.2
  have hn6 := hn.1
  refine calI_intro (ls := [some (vR 54), some (vI k), some (vI t)]) (by decide) (Nat.le_of_ble_eq_true rfl) rfl (fun κ ad X hR => ?_)
  refine j_aload_n X dX10_facet_0 rfl ?_
  refine j_iconst X dX10_facet_1 ?_
  refine j_putI X dX10_facet_2 fp_X10_94 rfl rfl ?_
  rw [thr0 ht0]
  refine j_aload_n X dX10_facet_5 rfl ?_
  refine j_iload_n X dX10_facet_6 rfl ?_
  refine cV1i X mf_X10_noFacet mv_X10_noFacet ml_X10_160 (by decide) rfl rfl (Nat.le_of_ble_eq_true rfl) dX10_facet_7 (sp_X10_noFacet hn hk) (fun a_7 w_7 h_7 => ?_)
  obtain ⟨_, _⟩ := h_7
  subst a_7
  subst w_7
  refine jb_eq (tgt := 15) X dX10_facet_10 (by decide) (fun h_10 => ?_) (fun h_10 => ?_)
  · obtain ⟨j, rfl⟩ := Int.eq_ofNat_of_zero_le (show (0 : Int) ≤ k by omega)
    have hj : j < 4 * n * n := by omega
    have hin : 0 ≤ (j : Int) ∧ (j : Int) < ((4 * n * n : Nat) : Int) := by omega
    have hpj := hp j hj
    have h68 := hfe j (by omega)
    have h69 := hfi j (by omega)
    obtain ⟨hp1, hp2, hp3, hp4, hp5⟩ := hpj
    refine j_iload_n X dX10_facet_15 rfl ?_
    rcases (by omega : t = 0 ∨ t = 1 ∨ t = 2 ∨ t = 3 ∨ t = 4 ∨ t = 5 ∨ t = 6 ∨ t = 7 ∨ (t < 0 ∨ 7 < t)) with rfl | rfl | rfl | rfl | rfl | rfl | rfl | rfl | hsw
    · refine j_tabIn (off := 48) (tgt := 64) X dX10_facet_16 ⟨by decide, by decide⟩ (by decide) (by decide) rfl (by decide) ?_
      refine j_aload_n X dX10_facet_64 rfl ?_
      refine j_getR X dX10_facet_65 ff_X10_13 rfl rfl ?_
      refine j_iload_n X dX10_facet_68 rfl ?_
      refine j_ialdk X dX10_facet_69 rfl (by omega) (by decide) ?_
      exact j_ireturn X hR dX10_facet_70 ⟨by rw [if_neg (fun z => z hin)]; rfl, rfl⟩
    · refine j_tabIn (off := 55) (tgt := 71) X dX10_facet_16 ⟨by decide, by decide⟩ (by decide) (by decide) rfl (by decide) ?_
      refine j_aload_n X dX10_facet_71 rfl ?_
      refine j_getR X dX10_facet_72 ff_X10_17 rfl rfl ?_
      refine j_iload_n X dX10_facet_75 rfl ?_
      refine j_ialdk X dX10_facet_76 rfl (by omega) (by decide) ?_
      exact j_ireturn X hR dX10_facet_77 ⟨by rw [if_neg (fun z => z hin)]; rfl, rfl⟩
    · refine j_tabIn (off := 62) (tgt := 78) X dX10_facet_16 ⟨by decide, by decide⟩ (by decide) (by decide) rfl (by decide) ?_
      refine j_aload_n X dX10_facet_78 rfl ?_
      refine j_getR X dX10_facet_79 ff_X10_20 rfl rfl ?_
      refine j_iload_n X dX10_facet_82 rfl ?_
      refine j_ialdk X dX10_facet_83 rfl (by omega) (by decide) ?_
      exact j_ireturn X hR dX10_facet_84 ⟨by rw [if_neg (fun z => z hin)]; rfl, rfl⟩
    · refine j_tabIn (off := 69) (tgt := 85) X dX10_facet_16 ⟨by decide, by decide⟩ (by decide) (by decide) rfl (by decide) ?_
      refine j_aload_n X dX10_facet_85 rfl ?_
      refine j_getR X dX10_facet_86 ff_X10_23 rfl rfl ?_
      refine j_iload_n X dX10_facet_89 rfl ?_
      refine j_ialdk X dX10_facet_90 rfl (by omega) (by decide) ?_
      exact j_ireturn X hR dX10_facet_91 ⟨by rw [if_neg (fun z => z hin)]; rfl, rfl⟩
    · refine j_tabIn (off := 76) (tgt := 92) X dX10_facet_16 ⟨by decide, by decide⟩ (by decide) (by decide) rfl (by decide) ?_
      refine j_aload_n X dX10_facet_92 rfl ?_
      refine j_getR X dX10_facet_93 ff_X10_26 rfl rfl ?_
      refine j_iload_n X dX10_facet_96 rfl ?_
      refine j_zaldk X dX10_facet_97 rfl (by omega) (by decide) ?_
      refine j_if_eq (tgt := 105) X dX10_facet_98 (by decide) ⟨by omega, by omega⟩ (fun h_98 => ?_) (fun h_98 => ?_)
      · refine j_iconst X dX10_facet_105 ?_
        exact j_ireturn X hR dX10_facet_106 ⟨by rw [if_neg (fun z => z hin)]; show _ = ib (w 59 j = 1); first | exact (ib_t (by omega)).symm | exact (ib_f (by omega)).symm, rfl⟩
      · refine j_iconst X dX10_facet_101 ?_
        refine j_goto (tgt := 106) X dX10_facet_102 (by decide) ?_
        exact j_ireturn X hR dX10_facet_106 ⟨by rw [if_neg (fun z => z hin)]; show _ = ib (w 59 j = 1); first | exact (ib_t (by omega)).symm | exact (ib_f (by omega)).symm, rfl⟩
    · refine j_tabIn (off := 91) (tgt := 107) X dX10_facet_16 ⟨by decide, by decide⟩ (by decide) (by decide) rfl (by decide) ?_
      refine j_aload_n X dX10_facet_107 rfl ?_
      refine j_aload_n X dX10_facet_108 rfl ?_
      refine j_getR X dX10_facet_109 ff_X10_13 rfl rfl ?_
      refine j_iload_n X dX10_facet_112 rfl ?_
      refine j_ialdk X dX10_facet_113 rfl (by omega) (by decide) ?_
      refine j_aload_n X dX10_facet_114 rfl ?_
      refine j_getR X dX10_facet_115 ff_X10_17 rfl rfl ?_
      refine j_iload_n X dX10_facet_118 rfl ?_
      refine j_ialdk X dX10_facet_119 rfl (by omega) (by decide) ?_
      refine j_aload_n X dX10_facet_120 rfl ?_
      refine j_getR X dX10_facet_121 ff_X10_20 rfl rfl ?_
      refine j_iload_n X dX10_facet_124 rfl ?_
      refine j_ialdk X dX10_facet_125 rfl (by omega) (by decide) ?_
      refine cV3i X mf_X10_deepOf mv_X10_deepOf ml_X10_164 (by decide) rfl rfl (Nat.le_of_ble_eq_true rfl) dX10_facet_126 (sp_X10_deepOf hn hp ⟨by omega, by omega⟩ ⟨by omega, by omega⟩ ⟨by omega, by omega⟩) (fun a_126 w_126 h_126 => ?_)
      obtain ⟨_, _⟩ := h_126
      subst a_126
      subst w_126
      exact j_ireturn X hR dX10_facet_129 ⟨by rw [if_neg (fun z => z hin)]; rfl, rfl⟩
    · refine j_tabIn (off := 114) (tgt := 130) X dX10_facet_16 ⟨by decide, by decide⟩ (by decide) (by decide) rfl (by decide) ?_
      refine j_aload_n X dX10_facet_130 rfl ?_
      refine j_getR X dX10_facet_131 ff_X10_57 rfl rfl ?_
      refine j_iload_n X dX10_facet_134 rfl ?_
      refine j_zaldk X dX10_facet_135 rfl (by omega) (by decide) ?_
      refine j_if_eq (tgt := 143) X dX10_facet_136 (by decide) ⟨by omega, by omega⟩ (fun h_136 => ?_) (fun h_136 => ?_)
      · refine j_iconst X dX10_facet_143 ?_
        exact j_ireturn X hR dX10_facet_144 ⟨by rw [if_neg (fun z => z hin)]; show _ = ib (w 68 j = 1); first | exact (ib_t (by omega)).symm | exact (ib_f (by omega)).symm, rfl⟩
      · refine j_iconst X dX10_facet_139 ?_
        refine j_goto (tgt := 144) X dX10_facet_140 (by decide) ?_
        exact j_ireturn X hR dX10_facet_144 ⟨by rw [if_neg (fun z => z hin)]; show _ = ib (w 68 j = 1); first | exact (ib_t (by omega)).symm | exact (ib_f (by omega)).symm, rfl⟩
    · refine j_tabIn (off := 129) (tgt := 145) X dX10_facet_16 ⟨by decide, by decide⟩ (by decide) (by decide) rfl (by decide) ?_
      refine j_aload_n X dX10_facet_145 rfl ?_
      refine j_getR X dX10_facet_146 ff_X10_60 rfl rfl ?_
      refine j_iload_n X dX10_facet_149 rfl ?_
      refine j_zaldk X dX10_facet_150 rfl (by omega) (by decide) ?_
      refine j_if_eq (tgt := 158) X dX10_facet_151 (by decide) ⟨by omega, by omega⟩ (fun h_151 => ?_) (fun h_151 => ?_)
      · refine j_iconst X dX10_facet_158 ?_
        exact j_ireturn X hR dX10_facet_159 ⟨by rw [if_neg (fun z => z hin)]; show _ = ib (w 69 j = 1); first | exact (ib_t (by omega)).symm | exact (ib_f (by omega)).symm, rfl⟩
      · refine j_iconst X dX10_facet_154 ?_
        refine j_goto (tgt := 159) X dX10_facet_155 (by decide) ?_
        exact j_ireturn X hR dX10_facet_159 ⟨by rw [if_neg (fun z => z hin)]; show _ = ib (w 69 j = 1); first | exact (ib_t (by omega)).symm | exact (ib_f (by omega)).symm, rfl⟩
    · refine j_tabOut (tgt := 160) X dX10_facet_16 ht hsw (by decide) ?_
      refine j_bipush X dX10_facet_160 (by decide +kernel) ?_
      exact j_ireturn X hR dX10_facet_162 ⟨by rw [if_neg (fun z => z hin), if_neg (by omega), if_neg (by omega), if_neg (by omega), if_neg (by omega), if_neg (by omega), if_neg (by omega), if_neg (by omega), if_neg (by omega)], rfl⟩
  · refine j_iconst X dX10_facet_13 ?_
    exact j_ireturn X hR dX10_facet_14 ⟨by rw [if_pos (by omega)], rfl⟩
set_option maxHeartbeats 4000000 in
set_option maxRecDepth 20000 in
theorem sp_X10_at {n : Nat} {w : wd} (hm : MI n w) {x y q l : Int} (hx : rg x) (hy0 : rg y) (hq : rg q) (hl : rg l) : CalI yX10_at cX10_at 6 .int 2 LAY w [vR 54, vI x, vI y, vI q, vI l] (fun a w' => (if q < 0 ∨ 3 < q then a = -2 else ((∃ k, k < 4 * n * n ∧ a = (k : Int) ∧ (w 55 k = x ∧ w 56 k = y ∧ w 57 k = q ∧ w 58 k = l) ∧ ∀ j, j < k → ¬ (w 55 j = x ∧ w 56 j = y ∧ w 57 j = q ∧ w 58 j = l)) ∨ (a = -99999 ∧ ∀ j, j < 4 * n * n → ¬ (w 55 j = x ∧ w 56 j = y ∧ w 57 j = q ∧ w 58 j = l)))) ∧ w' = w) := by
  obtain ⟨hn, ht0, hp, hcr, hfe, hfi, hic, hfo, hkn⟩ := id hm
  have hN := nn_le hn.1.2
  have hn1 := hn.2
  have hn6 := hn.1
  refine calI_intro (ls := [some (vR 54), some (vI x), some (vI y), some (vI q), some (vI l), none]) (by decide) (Nat.le_of_ble_eq_true rfl) rfl (fun κ ad X hR => ?_)
  refine j_aload_n X dX10_at_0 rfl ?_
  refine j_iconst X dX10_at_1 ?_
  refine j_putI X dX10_at_2 fp_X10_94 rfl rfl ?_
  rw [thr0 ht0]
  refine j_iload_n X dX10_at_5 rfl ?_
  refine j_i2l X dX10_at_6 ⟨by omega, by omega⟩ ?_
  refine j_lconst X dX10_at_7 ?_
  refine j_ldc2 X dX10_at_8 kl_X10_105 ?_
  refine cS3i X mf_X10_in ms_X10_in ml_X10_101 (by decide) (Nat.le_of_ble_eq_true rfl) dX10_at_11 (sp_X10_in ⟨by omega, by omega⟩ ⟨by omega, by omega⟩ ⟨by omega, by omega⟩) (fun a_11 w_11 h_11 => ?_)
  obtain ⟨_, _⟩ := h_11
  subst a_11
  subst w_11
  refine jb_ne (tgt := 20) X dX10_at_14 (by decide) (fun h_14 => ?_) (fun h_14 => ?_)
  · refine j_iconst X dX10_at_20 ?_
    refine s_5 X dX10_at_21 rfl ?_
    have L_23 : ∀ (m : Nat) (k : Nat) (_ : ∀ j, j < k → ¬ (w 55 j = x ∧ w 56 j = y ∧ w 57 j = q ∧ w 58 j = l)) (_ : k ≤ 4 * n * n) (_ : 4 * n * n - k < m), J κ LAY ad 0 0 23 [some (vR 54), some (vI x), some (vI y), some (vI q), some (vI l), some (vI (k : Int))] [] w := by
      intro m
      induction m with
      | zero => intro k hb h1 h2; exact absurd h2 (Nat.not_lt_zero _)
      | succ m ih23 =>
        intro k hb h1 h2
        refine j_iload X dX10_at_23 rfl ?_
        refine j_aload_n X dX10_at_25 rfl ?_
        refine cV0i X mf_X10_facets mv_X10_facets ml_X10_97 (by decide) rfl rfl (Nat.le_of_ble_eq_true rfl) dX10_at_26 (sp_X10_facets hn) (fun a_26 w_26 h_26 => ?_)
        obtain ⟨_, _⟩ := h_26
        subst a_26
        subst w_26
        refine j_icmp_ge (tgt := 65) X dX10_at_29 (by decide) ⟨by omega, by omega⟩ ⟨by omega, by omega⟩ (fun h_29 => ?_) (fun h_29 => ?_)
        · refine j_ldc X dX10_at_65 kc_X10_135 ?_
          exact j_ireturn X hR dX10_at_67 ⟨by rw [if_neg (by omega)]; exact Or.inr ⟨rfl, fun j h => hb j (by omega)⟩, rfl⟩
        · refine j_aload_n X dX10_at_32 rfl ?_
          refine j_iload X dX10_at_33 rfl ?_
          refine j_iload_n X dX10_at_35 rfl ?_
          refine j_iload_n X dX10_at_36 rfl ?_
          refine j_iload_n X dX10_at_37 rfl ?_
          refine cV4i X mf_X10_isThere mv_X10_isThere ml_X10_131 (by decide) rfl rfl (Nat.le_of_ble_eq_true rfl) dX10_at_38 (sp_X10_isThere (by omega) (hp k (by omega)) hx hy0 hq) (fun a_38 w_38 h_38 => ?_)
          obtain ⟨_, _⟩ := h_38
          subst a_38
          subst w_38
          refine jb_eq (tgt := 59) X dX10_at_41 (by decide) (fun h_41 => ?_) (fun h_41 => ?_)
          · refine inc_5 X dX10_at_59 rfl ?_
            refine j_goto (tgt := 23) X dX10_at_62 (by decide) ?_
            exact ih23 (k + 1) (fun j h z => by rcases Nat.lt_succ_iff_lt_or_eq.mp h with q1 | q1; exact hb j q1 z; subst q1; exact h_41 ⟨z.1, z.2.1, z.2.2.1⟩) (by omega) (by omega)
          · have hp4 := (hp k (by omega)).2.2.2.1
            refine j_aload_n X dX10_at_44 rfl ?_
            refine j_getR X dX10_at_45 ff_X10_23 rfl rfl ?_
            refine j_iload X dX10_at_48 rfl ?_
            refine j_ialdk X dX10_at_50 rfl (by omega) (by decide) ?_
            refine j_iload X dX10_at_51 rfl ?_
            refine j_icmp_ne (tgt := 59) X dX10_at_53 (by decide) ⟨by omega, by omega⟩ ⟨by omega, by omega⟩ (fun h_53 => ?_) (fun h_53 => ?_)
            · refine inc_5 X dX10_at_59 rfl ?_
              refine j_goto (tgt := 23) X dX10_at_62 (by decide) ?_
              exact ih23 (k + 1) (fun j h z => by rcases Nat.lt_succ_iff_lt_or_eq.mp h with q1 | q1; exact hb j q1 z; subst q1; exact h_53 z.2.2.2) (by omega) (by omega)
            · refine j_iload X dX10_at_56 rfl ?_
              exact j_ireturn X hR dX10_at_58 ⟨by rw [if_neg (by omega)]; exact Or.inl ⟨k, by omega, rfl, ⟨h_41.1, h_41.2.1, h_41.2.2, h_53⟩, hb⟩, rfl⟩
    exact L_23 (4 * n * n + 1) 0 (fun j h => absurd h (Nat.not_lt_zero j)) (by omega) (by omega)
  · refine j_bipush X dX10_at_17 (by decide +kernel) ?_
    exact j_ireturn X hR dX10_at_19 ⟨by rw [if_pos (by omega)], rfl⟩
set_option maxHeartbeats 4000000 in
set_option maxRecDepth 20000 in
theorem sp_X10_crease {n : Nat} {w : wd} (hm : MI n w) {k : Int} (hk : rg k) {t : Int} (ht : rg t) : CalI yX10_crease cX10_crease 3 .int 3 LAY w [vR 54, vI k, vI t] (fun a w' => a = (if ¬ (0 ≤ k ∧ k < ((4 * n * n : Nat) : Int)) then -1 else if 0 ≤ t ∧ t ≤ 2 then (if nb n k.toNat t.toNat = -99999 then -99999 else w 60 (3 * k.toNat + t.toNat)) else -2) ∧ w' = w) := by
  obtain ⟨hn, ht0, hp, hcr, hfe, hfi, hic, hfo, hkn⟩ := id hm
  have hN := nn_le hn.1.2
  have hn1 := hn.2
  have hn6 := hn.1
  refine calI_intro (ls := [some (vR 54), some (vI k), some (vI t)]) (by decide) (Nat.le_of_ble_eq_true rfl) rfl (fun κ ad X hR => ?_)
  refine j_aload_n X dX10_crease_0 rfl ?_
  refine j_iconst X dX10_crease_1 ?_
  refine j_putI X dX10_crease_2 fp_X10_94 rfl rfl ?_
  rw [thr0 ht0]
  refine j_aload_n X dX10_crease_5 rfl ?_
  refine j_iload_n X dX10_crease_6 rfl ?_
  refine cV1i X mf_X10_noFacet mv_X10_noFacet ml_X10_160 (by decide) rfl rfl (Nat.le_of_ble_eq_true rfl) dX10_crease_7 (sp_X10_noFacet hn hk) (fun a_7 w_7 h_7 => ?_)
  obtain ⟨_, _⟩ := h_7
  subst a_7
  subst w_7
  refine jb_eq (tgt := 15) X dX10_crease_10 (by decide) (fun h_10 => ?_) (fun h_10 => ?_)
  · obtain ⟨j, rfl⟩ := Int.eq_ofNat_of_zero_le (show (0 : Int) ≤ k by omega)
    have hj : j < 4 * n * n := by omega
    have hin : 0 ≤ (j : Int) ∧ (j : Int) < ((4 * n * n : Nat) : Int) := by omega
    have hpj := hp j hj
    refine j_iload_n X dX10_crease_15 rfl ?_
    refine j_i2l X dX10_crease_16 ⟨by omega, by omega⟩ ?_
    refine j_lconst X dX10_crease_17 ?_
    refine j_ldc2 X dX10_crease_18 kl_X10_168 ?_
    refine cS3i X mf_X10_in ms_X10_in ml_X10_101 (by decide) (Nat.le_of_ble_eq_true rfl) dX10_crease_21 (sp_X10_in ⟨by omega, by omega⟩ ⟨by omega, by omega⟩ ⟨by omega, by omega⟩) (fun a_21 w_21 h_21 => ?_)
    obtain ⟨_, _⟩ := h_21
    subst a_21
    subst w_21
    refine jb_ne (tgt := 30) X dX10_crease_24 (by decide) (fun h_24 => ?_) (fun h_24 => ?_)
    · obtain ⟨e, rfl⟩ := Int.eq_ofNat_of_zero_le (show (0 : Int) ≤ t by omega)
      have he : e < 3 := by omega
      refine j_aload_n X dX10_crease_30 rfl ?_
      refine j_iload_n X dX10_crease_31 rfl ?_
      refine j_iload_n X dX10_crease_32 rfl ?_
      refine cV2i X mf_X10_nextTo mv_X10_nextTo ml_X10_149 (by decide) rfl rfl (Nat.le_of_ble_eq_true rfl) dX10_crease_33 (sp_X10_nextTo hn (by omega) (by omega)) (fun a_33 w_33 h_33 => ?_)
      obtain ⟨_, _⟩ := h_33
      subst a_33
      subst w_33
      refine j_ldc X dX10_crease_36 kc_X10_135 ?_
      have hnb := nb_b hn6 hj he
      refine j_icmp_ne (tgt := 46) X dX10_crease_38 (by decide) ⟨by omega, by omega⟩ ⟨by omega, by omega⟩ (fun h_38 => ?_) (fun h_38 => ?_)
      · refine j_aload_n X dX10_crease_46 rfl ?_
        refine j_getR X dX10_crease_47 ff_X10_30 rfl rfl ?_
        refine j_iconst X dX10_crease_50 ?_
        refine j_iload_n X dX10_crease_51 rfl ?_
        refine j_imul X dX10_crease_52 ?_
        refine j_iload_n X dX10_crease_53 rfl ?_
        refine j_iadd X dX10_crease_54 ?_
        rw [c3]
        refine j_ialdk X dX10_crease_55 rfl (by omega) (by decide) ?_
        exact j_ireturn X hR dX10_crease_56 ⟨by rw [if_neg (fun z => z hin), if_pos (by omega)]; show _ = if nb n j e = -99999 then -99999 else w 60 (3 * j + e); rw [if_neg h_38], rfl⟩
      · refine j_ldc X dX10_crease_41 kc_X10_135 ?_
        refine j_goto (tgt := 56) X dX10_crease_43 (by decide) ?_
        exact j_ireturn X hR dX10_crease_56 ⟨by rw [if_neg (fun z => z hin), if_pos (by omega)]; show _ = if nb n j e = -99999 then -99999 else w 60 (3 * j + e); rw [if_pos (by omega)], rfl⟩
    · refine j_bipush X dX10_crease_27 (by decide +kernel) ?_
      exact j_ireturn X hR dX10_crease_29 ⟨by rw [if_neg (fun z => z hin), if_neg (by omega)], rfl⟩
  · refine j_iconst X dX10_crease_13 ?_
    exact j_ireturn X hR dX10_crease_14 ⟨by rw [if_pos (by omega)], rfl⟩
set_option maxHeartbeats 4000000 in
set_option maxRecDepth 20000 in
theorem sp_X10_neighbour {n : Nat} {w : wd} (hm : MI n w) {k : Int} (hk : rg k) {t : Int} (ht : rg t) : CalI yX10_neighbour cX10_neighbour 3 .int 3 LAY w [vR 54, vI k, vI t] (fun a w' => a = (if ¬ (0 ≤ k ∧ k < ((4 * n * n : Nat) : Int)) then -1 else if 0 ≤ t ∧ t ≤ 2 then nb n k.toNat t.toNat else -2) ∧ w' = w) := by
  obtain ⟨hn, ht0, hp, hcr, hfe, hfi, hic, hfo, hkn⟩ := id hm
  have hN := nn_le hn.1.2
  have hn1 := hn.2
  have hn6 := hn.1
  refine calI_intro (ls := [some (vR 54), some (vI k), some (vI t)]) (by decide) (Nat.le_of_ble_eq_true rfl) rfl (fun κ ad X hR => ?_)
  refine j_aload_n X dX10_neighbour_0 rfl ?_
  refine j_iconst X dX10_neighbour_1 ?_
  refine j_putI X dX10_neighbour_2 fp_X10_94 rfl rfl ?_
  rw [thr0 ht0]
  refine j_aload_n X dX10_neighbour_5 rfl ?_
  refine j_iload_n X dX10_neighbour_6 rfl ?_
  refine cV1i X mf_X10_noFacet mv_X10_noFacet ml_X10_160 (by decide) rfl rfl (Nat.le_of_ble_eq_true rfl) dX10_neighbour_7 (sp_X10_noFacet hn hk) (fun a_7 w_7 h_7 => ?_)
  obtain ⟨_, _⟩ := h_7
  subst a_7
  subst w_7
  refine jb_eq (tgt := 15) X dX10_neighbour_10 (by decide) (fun h_10 => ?_) (fun h_10 => ?_)
  · obtain ⟨j, rfl⟩ := Int.eq_ofNat_of_zero_le (show (0 : Int) ≤ k by omega)
    have hj : j < 4 * n * n := by omega
    have hin : 0 ≤ (j : Int) ∧ (j : Int) < ((4 * n * n : Nat) : Int) := by omega
    have hpj := hp j hj
    refine j_iload_n X dX10_neighbour_15 rfl ?_
    refine j_i2l X dX10_neighbour_16 ⟨by omega, by omega⟩ ?_
    refine j_lconst X dX10_neighbour_17 ?_
    refine j_ldc2 X dX10_neighbour_18 kl_X10_168 ?_
    refine cS3i X mf_X10_in ms_X10_in ml_X10_101 (by decide) (Nat.le_of_ble_eq_true rfl) dX10_neighbour_21 (sp_X10_in ⟨by omega, by omega⟩ ⟨by omega, by omega⟩ ⟨by omega, by omega⟩) (fun a_21 w_21 h_21 => ?_)
    obtain ⟨_, _⟩ := h_21
    subst a_21
    subst w_21
    refine jb_eq (tgt := 36) X dX10_neighbour_24 (by decide) (fun h_24 => ?_) (fun h_24 => ?_)
    · refine j_bipush X dX10_neighbour_36 (by decide +kernel) ?_
      exact j_ireturn X hR dX10_neighbour_38 ⟨by rw [if_neg (fun z => z hin), if_neg (show ¬ (0 ≤ t ∧ t ≤ 2) by omega)], rfl⟩
    · obtain ⟨e, rfl⟩ := Int.eq_ofNat_of_zero_le (show (0 : Int) ≤ t by omega)
      have he : e < 3 := by omega
      refine j_aload_n X dX10_neighbour_27 rfl ?_
      refine j_iload_n X dX10_neighbour_28 rfl ?_
      refine j_iload_n X dX10_neighbour_29 rfl ?_
      refine cV2i X mf_X10_nextTo mv_X10_nextTo ml_X10_149 (by decide) rfl rfl (Nat.le_of_ble_eq_true rfl) dX10_neighbour_30 (sp_X10_nextTo hn (by omega) (by omega)) (fun a_30 w_30 h_30 => ?_)
      obtain ⟨_, _⟩ := h_30
      subst a_30
      subst w_30
      refine j_goto (tgt := 38) X dX10_neighbour_33 (by decide) ?_
      exact j_ireturn X hR dX10_neighbour_38 ⟨by rw [if_neg (fun z => z hin), if_pos (show (0 : Int) ≤ (e : Int) ∧ (e : Int) ≤ 2 by omega)]; rfl, rfl⟩
  · refine j_iconst X dX10_neighbour_13 ?_
    exact j_ireturn X hR dX10_neighbour_14 ⟨by rw [if_pos (by omega)], rfl⟩
set_option maxHeartbeats 4000000 in
set_option maxRecDepth 20000 in
theorem sp_X10_knife {n : Nat} {w : wd} (hm : MI n w) {t : Int} (ht : rg t) : CalI yX10_knife cX10_knife 3 .int 2 LAY w [vR 54, vI t] (fun a w' => (if 1 ≤ t ∧ t ≤ 144 then a = w 54 16 ∧ w' = wst w 54 16 t else a = -2 ∧ w' = w)) := by
  obtain ⟨hn, ht0, hp, hcr, hfe, hfi, hic, hfo, hkn⟩ := id hm
  have hN := nn_le hn.1.2
  have hn1 := hn.2
  have hn6 := hn.1
  refine calI_intro (ls := [some (vR 54), some (vI t), none]) (by decide) (Nat.le_of_ble_eq_true rfl) rfl (fun κ ad X hR => ?_)
  refine j_aload_n X dX10_knife_0 rfl ?_
  refine j_iconst X dX10_knife_1 ?_
  refine j_putI X dX10_knife_2 fp_X10_94 rfl rfl ?_
  rw [thr0 ht0]
  refine j_iload_n X dX10_knife_5 rfl ?_
  refine j_i2l X dX10_knife_6 ⟨by omega, by omega⟩ ?_
  refine j_lconst X dX10_knife_7 ?_
  refine j_ldc2 X dX10_knife_8 kl_X10_184 ?_
  refine cS3i X mf_X10_in ms_X10_in ml_X10_101 (by decide) (Nat.le_of_ble_eq_true rfl) dX10_knife_11 (sp_X10_in ⟨by omega, by omega⟩ ⟨by omega, by omega⟩ ⟨by omega, by omega⟩) (fun a_11 w_11 h_11 => ?_)
  obtain ⟨_, _⟩ := h_11
  subst a_11
  subst w_11
  refine jb_ne (tgt := 20) X dX10_knife_14 (by decide) (fun h_14 => ?_) (fun h_14 => ?_)
  · refine j_aload_n X dX10_knife_20 rfl ?_
    refine j_getI X dX10_knife_21 ff_X10_54 rfl rfl ?_
    refine s_2 X dX10_knife_24 rfl ?_
    refine j_aload_n X dX10_knife_25 rfl ?_
    refine j_iload_n X dX10_knife_26 rfl ?_
    refine j_putI X dX10_knife_27 fp_X10_54 rfl rfl ?_
    refine j_iload_n X dX10_knife_30 rfl ?_
    exact j_ireturn X hR dX10_knife_31 (by rw [if_pos (by omega)]; exact ⟨rfl, rfl⟩)
  · refine j_bipush X dX10_knife_17 (by decide +kernel) ?_
    exact j_ireturn X hR dX10_knife_19 (by rw [if_neg (by omega)]; exact ⟨rfl, rfl⟩)
