/-! ===== the reference: pieces ===== -/
def ptW (w : wd) (L : Nat → Int) : wd := fun o i => if o = 70 then L i else w o i
theorem ptW_o {w : wd} {L : Nat → Int} {o : Nat} (h : o ≠ 70) : ptW w L o = w o := by
  funext i; unfold ptW; rw [if_neg h]
theorem ptW_id (w : wd) : ptW w (w 70) = w := by
  funext o i; unfold ptW; split
  · rename_i h; rw [h]
  · rfl
theorem ptW_L (w : wd) (L : Nat → Int) (k : Nat) (a : Int) : wst (ptW w L) 70 k a = ptW w (w1 L k a) := by
  funext o i
  by_cases h : o = 70
  · subst h; simp [wst, w1, ptW]
  · simp [wst, ptW, h]
def ptLo (n : Nat) (F L : Nat → Int) : Prop := ∀ a, a < 4 * n * n → lbOk n F L a
def ptCl (n : Nat) (F L : Nat → Int) (f e : Nat) : Prop := ∀ a d b : Nat, (a < f ∨ (a = f ∧ d < e)) → a < 4 * n * n → d < 3 → b < 4 * n * n → nb n a d = (b : Int) → F a = F b → ¬ L b < L a
theorem ptLo.rg {n : Nat} {F L : Nat → Int} (h : ptLo n F L) {a : Nat} (ha : a < 4 * n * n) : 0 ≤ L a ∧ L a ≤ (a : Int) := by
  obtain ⟨r, h1, h2, _⟩ := h a ha
  omega
theorem ptLo.put {n : Nat} {F L : Nat → Int} (h : ptLo n F L) {f e b : Nat} (hf : f < 4 * n * n) (he : e < 3) (hb : b < 4 * n * n) (hnb : nb n f e = (b : Int)) (hF : F f = F b) (hl : L b < L f) : ptLo n F (w1 L f (L b)) := by
  intro a ha
  by_cases z : a = f
  · subst z
    obtain ⟨r, h1, h2, h3⟩ := h b hb
    have hr := h.rg hf
    refine ⟨r, by simp [w1, h1], by omega, fun g hg => ?_⟩
    rw [h3 g hg]
    exact (hg a b e hf hb he hnb hF).symm
  · obtain ⟨r, h1, h2, h3⟩ := h a ha
    exact ⟨r, by simp [w1, z, h1], h2, h3⟩
theorem ptLo.Lab {n : Nat} {F L : Nat → Int} (h : ptLo n F L) (hn : n ≤ 6) (hc : ptCl n F L (4 * n * n) 0) : Lab n F L := by
  intro a ha
  refine ⟨h a ha, fun e b he hb hnb hF => ?_⟩
  obtain ⟨e', he', hs⟩ := nb_sym hn ha he hnb
  have h1 := hc a e b (Or.inl ha) ha he hb hnb hF
  have h2 := hc b e' a (Or.inl hb) hb he' ha hs hF.symm
  omega
theorem sm_w1 {L : Nat → Int} {f : Nat} {v : Int} : ∀ N, f < N → sm (w1 L f v) N = sm L N - L f + v
  | 0, h => absurd h (Nat.not_lt_zero _)
  | N + 1, h => by
    rw [sm_s, sm_s]
    by_cases z : f = N
    · subst z
      have : sm (w1 L f v) f = sm L f := sm_c (fun k hk => by simp [w1, Nat.ne_of_lt hk])
      rw [this]
      simp only [w1, if_true]
      omega
    · have h1 := sm_w1 (L := L) (f := f) (v := v) N (by omega)
      have h2 : w1 L f v N = L N := by simp [w1, Ne.symm z]
      rw [h1, h2]
      omega
/-- what holds of a pass over all edges -/
def ptPs (n : Nat) (F L0 L : Nat → Int) (c : Int) (f e : Nat) : Prop := (c = 0 ∧ L = L0 ∧ ptCl n F L f e) ∨ (c = 1 ∧ sm L (4 * n * n) < sm L0 (4 * n * n))
theorem ptPs.skip {n : Nat} {F L0 L : Nat → Int} {c : Int} {f e : Nat} (h : ptPs n F L0 L c f e) (hs : ∀ b : Nat, b < 4 * n * n → nb n f e = (b : Int) → F f = F b → ¬ L b < L f) : ptPs n F L0 L c f (e + 1) := by
  rcases h with ⟨h1, h2, h3⟩ | h
  · refine Or.inl ⟨h1, h2, fun a d b had ha hd hb hnb hF => ?_⟩
    by_cases z : a = f ∧ d = e
    · obtain ⟨rfl, rfl⟩ := z
      exact hs b hb hnb hF
    · exact h3 a d b (by omega) ha hd hb hnb hF
  · exact Or.inr h
theorem ptPs.put {n : Nat} {F L0 L : Nat → Int} {c : Int} {f e b : Nat} (h : ptPs n F L0 L c f e) (hf : f < 4 * n * n) (hl : L b < L f) : ptPs n F L0 (w1 L f (L b)) 1 f (e + 1) := by
  refine Or.inr ⟨rfl, ?_⟩
  have h1 := sm_w1 (L := L) (f := f) (v := L b) (4 * n * n) hf
  rcases h with ⟨_, h2, _⟩ | ⟨_, h2⟩
  · rw [← h2]; omega
  · omega
theorem ptPs.next {n : Nat} {F L0 L : Nat → Int} {c : Int} {f : Nat} (h : ptPs n F L0 L c f 3) : ptPs n F L0 L c (f + 1) 0 := by
  rcases h with ⟨h1, h2, h3⟩ | h
  · exact Or.inl ⟨h1, h2, fun a d b had ha hd hb hnb hF => h3 a d b (by omega) ha hd hb hnb hF⟩
  · exact Or.inr h
theorem ptPs.first (n : Nat) (F L : Nat → Int) : ptPs n F L L 0 0 0 := Or.inl ⟨rfl, rfl, fun a d b had _ _ _ _ _ => by omega⟩
theorem ptLo.nn {n : Nat} {F L : Nat → Int} (h : ptLo n F L) : 0 ≤ sm L (4 * n * n) := sm_nn _ (fun k hk => (h.rg hk).1)
theorem al2_s {A : Prop} {P : Nat → Prop} [Decidable A] [DecidablePred P] {k : Nat} {c v : Int} (h : c = ib (A ∧ ∀ j, j < k → P j)) (hc : c = 1) (hv : v = ib (P k)) : v = ib (A ∧ ∀ j, j < k + 1 → P j) := by
  have h2 : A ∧ ∀ j, j < k → P j := by
    by_cases z : A ∧ ∀ j, j < k → P j
    · exact z
    · rw [ib_f z] at h; omega
  rw [hv]
  by_cases z : P k
  · rw [ib_t z, ib_t ⟨h2.1, ba_s h2.2 z⟩]
  · rw [ib_f z, ib_f (fun q => z (q.2 k (by omega)))]
theorem al2_e {A : Prop} {P : Nat → Prop} [Decidable A] [DecidablePred P] {k N : Nat} {c : Int} (h : c = ib (A ∧ ∀ j, j < k → P j)) (hk : k ≤ N) (hc : c = 0 ∨ k = N) : c = ib (A ∧ ∀ j, j < N → P j) := by
  rcases hc with z | z
  · have h2 : ¬ (A ∧ ∀ j, j < k → P j) := by
      intro q; rw [ib_t q] at h; omega
    rw [z, ib_f (fun q => h2 ⟨q.1, fun j hj => q.2 j (by omega)⟩)]
  · rw [← z]; exact h
theorem al2_0 {A : Prop} {P : Nat → Prop} [Decidable A] [DecidablePred P] {c : Int} {k : Nat} (hk : k = 0) (h : c = ib A) : c = ib (A ∧ ∀ j, j < k → P j) := by
  rw [h]; exact ib_c ⟨fun a => ⟨a, fun j hj => by omega⟩, fun a => a.1⟩
set_option maxHeartbeats 4000000 in
set_option maxRecDepth 20000 in
theorem sp_X10_hang {n : Nat} {w : wd} (hn : nOk n w) (hfe : ∀ k, k < 144 → w 68 k = 0 ∨ w 68 k = 1) : CalV yX10_hang cX10_hang 5 3 LAY w [vR 54] (fun w' => ∃ L, w' = ptW w L ∧ Lab n (w 68) L) := by
  have hN := nn_le hn.1.2
  have hn1 := hn.2
  have hn6 := hn.1
  have hnp : ∀ L, nOk n (ptW w L) := fun L => ⟨hn.1, hn1⟩
  refine calV_intro (ls := [some (vR 54), none, none, none, none]) (by decide) (Nat.le_of_ble_eq_true rfl) rfl (fun κ ad X hR => ?_)
  refine j_iconst X dX10_hang_0 ?_
  refine s_1 X dX10_hang_1 rfl ?_
  have L_2 : ∀ (m : Nat) (k : Nat) (L : Nat → Int) (_ : ∀ j, j < k → L j = (j : Int)) (_ : k ≤ 4 * n * n) (_ : 4 * n * n - k < m), J κ LAY ad 0 0 2 [some (vR 54), some (vI (k : Int)), none, none, none] [] (ptW w L) := by
    intro m
    induction m with
    | zero => intros; exact absurd ‹_ < 0› (Nat.not_lt_zero _)
    | succ m ih2 =>
      intro k L hL h1 h2
      refine j_iload_n X dX10_hang_2 rfl ?_
      refine j_aload_n X dX10_hang_3 rfl ?_
      refine cV0i X mf_X10_facets mv_X10_facets ml_X10_97 (by decide) rfl rfl (Nat.le_of_ble_eq_true rfl) dX10_hang_4 (sp_X10_facets (hnp _)) (fun a_4 w_4 h_4 => ?_)
      obtain ⟨_, _⟩ := h_4
      subst a_4
      subst w_4
      refine j_icmp_ge (tgt := 23) X dX10_hang_7 (by decide) ⟨by omega, by omega⟩ ⟨by omega, by omega⟩ (fun h_7 => ?_) (fun h_7 => ?_)
      · refine j_iconst X dX10_hang_23 ?_
        refine s_1 X dX10_hang_24 rfl ?_
        have L_25 : ∀ (m : Nat) (c : Int) (L : Nat → Int) (_ : ptLo n (w 68) L) (_ : (c = 1) ∨ (c = 0 ∧ ptCl n (w 68) L (4 * n * n) 0)) (_ : (2 * sm L (4 * n * n) + c).toNat < m), J κ LAY ad 0 0 25 [some (vR 54), some (vI c), none, none, none] [] (ptW w L) := by
          intro m
          induction m with
          | zero => intros; exact absurd ‹_ < 0› (Nat.not_lt_zero _)
          | succ m ih25 =>
            intro c L0 hL0 hc0 h0
            have hnn := hL0.nn
            refine j_iload_n X dX10_hang_25 rfl ?_
            refine j_if_eq (tgt := 125) X dX10_hang_26 (by decide) ⟨by omega, by omega⟩ (fun h_26 => ?_) (fun h_26 => ?_)
            · exact j_return X hR dX10_hang_125 ⟨L0, rfl, hL0.Lab hn6.2 (by rcases hc0 with z | z; omega; exact z.2)⟩
            · refine j_iconst X dX10_hang_29 ?_
              refine s_1 X dX10_hang_30 rfl ?_
              refine j_iconst X dX10_hang_31 ?_
              refine s_2 X dX10_hang_32 rfl ?_
              have L_33 : ∀ (m : Nat) (f : Nat) (c2 : Int) (L : Nat → Int) (_ : ptLo n (w 68) L) (_ : ptPs n (w 68) L0 L c2 f 0) (_ : f ≤ 4 * n * n) (_ : 4 * n * n - f < m), J κ LAY ad 0 0 33 [some (vR 54), some (vI c2), some (vI (f : Int)), none, none] [] (ptW w L) := by
                intro m
                induction m with
                | zero => intros; exact absurd ‹_ < 0› (Nat.not_lt_zero _)
                | succ m ih33 =>
                  intro f c2 L hLo hps h1 h2
                  refine j_iload_n X dX10_hang_33 rfl ?_
                  refine j_aload_n X dX10_hang_34 rfl ?_
                  refine cV0i X mf_X10_facets mv_X10_facets ml_X10_97 (by decide) rfl rfl (Nat.le_of_ble_eq_true rfl) dX10_hang_35 (sp_X10_facets (hnp _)) (fun a_35 w_35 h_35 => ?_)
                  obtain ⟨_, _⟩ := h_35
                  subst a_35
                  subst w_35
                  refine j_icmp_ge (tgt := 122) X dX10_hang_38 (by decide) ⟨by omega, by omega⟩ ⟨by omega, by omega⟩ (fun h_38 => ?_) (fun h_38 => ?_)
                  · refine j_goto (tgt := 25) X dX10_hang_122 (by decide) ?_
                    refine fg_2 ?_
                    refine fg_3 ?_
                    refine fg_4 ?_
                    obtain rfl : f = 4 * n * n := by omega
                    have hln := hLo.nn
                    refine ih25 c2 L hLo ?_ ?_
                    · rcases hps with ⟨z1, _, z3⟩ | ⟨z1, _⟩
                      · exact Or.inr ⟨z1, z3⟩
                      · exact Or.inl z1
                    · rcases hps with ⟨z1, z2, _⟩ | ⟨z1, z2⟩
                      · rw [z2]; omega
                      · omega
                  · refine j_iconst X dX10_hang_41 ?_
                    refine s_3 X dX10_hang_42 rfl ?_
                    have L_43 : ∀ (m : Nat) (e : Nat) (c2 : Int) (L : Nat → Int) (_ : ptLo n (w 68) L) (_ : ptPs n (w 68) L0 L c2 f e) (_ : e ≤ 3) (_ : 3 - e < m), J κ LAY ad 0 0 43 [some (vR 54), some (vI c2), some (vI (f : Int)), some (vI (e : Int)), none] [] (ptW w L) := by
                      intro m
                      induction m with
                      | zero => intros; exact absurd ‹_ < 0› (Nat.not_lt_zero _)
                      | succ m ih43 =>
                        intro e c2 L hLo hps h3 h4
                        refine j_iload_n X dX10_hang_43 rfl ?_
                        refine j_iconst X dX10_hang_44 ?_
                        refine j_icmp_ge (tgt := 116) X dX10_hang_45 (by decide) ⟨by omega, by omega⟩ ⟨by omega, by omega⟩ (fun h_45 => ?_) (fun h_45 => ?_)
                        · refine inc_2 X dX10_hang_116 rfl ?_
                          refine j_goto (tgt := 33) X dX10_hang_119 (by decide) ?_
                          refine fg_3 ?_
                          refine fg_4 ?_
                          obtain rfl : e = 3 := by omega
                          exact ih33 (f + 1) _ _ hLo hps.next (by omega) (by omega)
                        · have hf : f < 4 * n * n := by omega
                          have he : e < 3 := by omega
                          have hnb := nb_b hn6 hf he
                          refine j_aload_n X dX10_hang_48 rfl ?_
                          refine j_iload_n X dX10_hang_49 rfl ?_
                          refine j_iload_n X dX10_hang_50 rfl ?_
                          refine cV2i X mf_X10_nextTo mv_X10_nextTo ml_X10_149 (by decide) rfl rfl (Nat.le_of_ble_eq_true rfl) dX10_hang_51 (sp_X10_nextTo (hnp _) hf he) (fun a_51 w_51 h_51 => ?_)
                          obtain ⟨_, _⟩ := h_51
                          subst a_51
                          subst w_51
                          refine s_4 X dX10_hang_54 rfl ?_
                          refine j_iload X dX10_hang_56 rfl ?_
                          refine j_ldc X dX10_hang_58 kc_X10_135 ?_
                          refine j_icmp_eq (tgt := 110) X dX10_hang_60 (by decide) ⟨by omega, by omega⟩ ⟨by omega, by omega⟩ (fun h_60 => ?_) (fun h_60 => ?_)
                          · refine inc_3 X dX10_hang_110 rfl ?_
                            refine j_goto (tgt := 43) X dX10_hang_113 (by decide) ?_
                            refine fg_4 ?_
                            exact ih43 (e + 1) _ _ hLo (hps.skip (fun b hb hnb _ => by omega)) (by omega) (by omega)
                          · obtain ⟨j, hj, hjN⟩ := (nb_rg hn6 hf he).resolve_left h_60
                            rw [hj]
                            have hfj := hfe j (by omega)
                            have hff := hfe f (by omega)
                            have hrj := hLo.rg hjN
                            have hrf := hLo.rg hf
                            refine j_aload_n X dX10_hang_63 rfl ?_
                            refine j_getR X dX10_hang_64 ff_X10_57 rfl rfl ?_
                            refine j_iload_n X dX10_hang_67 rfl ?_
                            refine j_zaldk X dX10_hang_68 rfl (by omega) (by decide) ?_
                            rw [show ptW w L 68 f = w 68 f from congrFun (ptW_o (by decide)) f]
                            refine j_aload_n X dX10_hang_69 rfl ?_
                            refine j_getR X dX10_hang_70 ff_X10_57 rfl rfl ?_
                            refine j_iload X dX10_hang_73 rfl ?_
                            refine j_zaldk X dX10_hang_75 rfl (by omega) (by decide) ?_
                            rw [show ptW w L 68 j = w 68 j from congrFun (ptW_o (by decide)) j]
                            refine j_icmp_ne (tgt := 110) X dX10_hang_76 (by decide) ⟨by omega, by omega⟩ ⟨by omega, by omega⟩ (fun h_76 => ?_) (fun h_76 => ?_)
                            · refine inc_3 X dX10_hang_110 rfl ?_
                              refine j_goto (tgt := 43) X dX10_hang_113 (by decide) ?_
                              refine fg_4 ?_
                              exact ih43 (e + 1) _ _ hLo (hps.skip (fun b hb hnb hF => by have hbj : b = j := (by omega); subst hbj; exact absurd hF h_76)) (by omega) (by omega)
                            · refine j_aload_n X dX10_hang_79 rfl ?_
                              refine j_getR X dX10_hang_80 ff_X10_63 rfl rfl ?_
                              refine j_iload X dX10_hang_83 rfl ?_
                              refine j_ialdk X dX10_hang_85 rfl (by omega) (by decide) ?_
                              rw [show ptW w L 70 j = L j from rfl]
                              refine j_aload_n X dX10_hang_86 rfl ?_
                              refine j_getR X dX10_hang_87 ff_X10_63 rfl rfl ?_
                              refine j_iload_n X dX10_hang_90 rfl ?_
                              refine j_ialdk X dX10_hang_91 rfl (by omega) (by decide) ?_
                              rw [show ptW w L 70 f = L f from rfl]
                              refine j_icmp_ge (tgt := 110) X dX10_hang_92 (by decide) ⟨by omega, by omega⟩ ⟨by omega, by omega⟩ (fun h_92 => ?_) (fun h_92 => ?_)
                              · refine inc_3 X dX10_hang_110 rfl ?_
                                refine j_goto (tgt := 43) X dX10_hang_113 (by decide) ?_
                                refine fg_4 ?_
                                exact ih43 (e + 1) _ _ hLo (hps.skip (fun b hb hnb hF => by have hbj : b = j := (by omega); subst hbj; omega)) (by omega) (by omega)
                              · refine j_aload_n X dX10_hang_95 rfl ?_
                                refine j_getR X dX10_hang_96 ff_X10_63 rfl rfl ?_
                                refine j_iload_n X dX10_hang_99 rfl ?_
                                refine j_aload_n X dX10_hang_100 rfl ?_
                                refine j_getR X dX10_hang_101 ff_X10_63 rfl rfl ?_
                                refine j_iload X dX10_hang_104 rfl ?_
                                refine j_ialdk X dX10_hang_106 rfl (by omega) (by decide) ?_
                                rw [show ptW w L 70 j = L j from rfl]
                                refine j_iastk X dX10_hang_107 rfl (by omega) (by decide) ?_
                                refine j_iconst X dX10_hang_108 ?_
                                refine s_1 X dX10_hang_109 rfl ?_
                                refine inc_3 X dX10_hang_110 rfl ?_
                                refine j_goto (tgt := 43) X dX10_hang_113 (by decide) ?_
                                refine fg_4 ?_
                                rw [ptW_L]
                                exact ih43 (e + 1) _ _ (hLo.put hf he hjN hj h_76 (by omega)) (hps.put hf (by omega)) (by omega) (by omega)
                    exact L_43 4 0 c2 L hLo hps (by omega) (by omega)
              exact L_33 (4 * n * n + 1) 0 0 L0 hL0 (ptPs.first _ _ _) (by omega) (by omega)
        have hlo0 : ptLo n (w 68) L := fun a ha => ⟨a, hL a (by omega), by omega, fun g hg => rfl⟩
        exact L_25 ((2 * sm L (4 * n * n) + 1).toNat + 1) 1 L hlo0 (Or.inl rfl) (by omega)
      · refine j_aload_n X dX10_hang_10 rfl ?_
        refine j_getR X dX10_hang_11 ff_X10_63 rfl rfl ?_
        refine j_iload_n X dX10_hang_14 rfl ?_
        refine j_iload_n X dX10_hang_15 rfl ?_
        refine j_iastk X dX10_hang_16 rfl (by omega) (by decide) ?_
        refine inc_1 X dX10_hang_17 rfl ?_
        refine j_goto (tgt := 2) X dX10_hang_20 (by decide) ?_
        rw [ptW_L]
        exact ih2 (k + 1) _ (fun j hj => by by_cases z : j = k; subst z; simp [w1]; simp [w1, z]; exact hL j (by omega)) (by omega) (by omega)
  have h9 := L_2 (4 * n * n + 1) 0 (w 70) (fun j hj => absurd hj (Nat.not_lt_zero _)) (by omega) (by omega)
  rw [ptW_id] at h9
  exact h9
set_option maxHeartbeats 4000000 in
set_option maxRecDepth 20000 in
theorem sp_X10_pieces {n : Nat} {w : wd} (hm : MI n w) {b : Int} (hb : b = 0 ∨ b = 1) : CalI yX10_pieces cX10_pieces 4 .int 4 LAY w [vR 54, vI b] (fun a w' => ∃ L, w' = ptW w L ∧ Lab n (w 68) L ∧ a = sm (fun k => ib (L k = (k : Int) ∧ ¬ w 68 k = b)) (4 * n * n)) := by
  obtain ⟨hn, ht0, hp, hcr, hfe, hfi, hic, hfo, hkn⟩ := id hm
  have hN := nn_le hn.1.2
  have hn1 := hn.2
  have hn6 := hn.1
  have hnp : ∀ L, nOk n (ptW w L) := fun L => ⟨hn.1, hn1⟩
  have hfp : ∀ L, ptW w L 68 = w 68 := fun L => ptW_o (by decide)
  refine calI_intro (ls := [some (vR 54), some (vI b), none, none]) (by decide) (Nat.le_of_ble_eq_true rfl) rfl (fun κ ad X hR => ?_)
  refine j_aload_n X dX10_pieces_0 rfl ?_
  refine j_iconst X dX10_pieces_1 ?_
  refine j_putI X dX10_pieces_2 fp_X10_94 rfl rfl ?_
  rw [thr0 ht0]
  refine j_aload_n X dX10_pieces_5 rfl ?_
  refine cV0v X mf_X10_hang mv_X10_hang ml_X10_196 (by decide) rfl rfl (Nat.le_of_ble_eq_true rfl) dX10_pieces_6 (sp_X10_hang hn hfe) (fun w_6 h_6 => ?_)
  obtain ⟨L, rfl, hLab⟩ := h_6
  have hLr : ∀ a, a < 4 * n * n → 0 ≤ L a ∧ L a ≤ (a : Int) := fun a ha => by obtain ⟨r, z1, z2, _⟩ := (hLab a ha).1; omega
  refine j_iconst X dX10_pieces_9 ?_
  refine s_2 X dX10_pieces_10 rfl ?_
  refine j_iconst X dX10_pieces_11 ?_
  refine s_3 X dX10_pieces_12 rfl ?_
  have L_13 : ∀ (m : Nat) (k : Nat) (c : Int) (_ : c = sm (fun k => ib (L k = (k : Int) ∧ ¬ w 68 k = b)) k) (_ : k ≤ 4 * n * n) (_ : 4 * n * n - k < m), J κ LAY ad 0 0 13 [some (vR 54), some (vI b), some (vI c), some (vI (k : Int))] [] (ptW w L) := by
    intro m
    induction m with
    | zero => intros; exact absurd ‹_ < 0› (Nat.not_lt_zero _)
    | succ m ih13 =>
      intro k c hc h1 h2
      refine j_iload_n X dX10_pieces_13 rfl ?_
      refine j_aload_n X dX10_pieces_14 rfl ?_
      refine cV0i X mf_X10_facets mv_X10_facets ml_X10_97 (by decide) rfl rfl (Nat.le_of_ble_eq_true rfl) dX10_pieces_15 (sp_X10_facets (hnp _)) (fun a_15 w_15 h_15 => ?_)
      obtain ⟨_, _⟩ := h_15
      subst a_15
      subst w_15
      refine j_icmp_ge (tgt := 55) X dX10_pieces_18 (by decide) ⟨by omega, by omega⟩ ⟨by omega, by omega⟩ (fun h_18 => ?_) (fun h_18 => ?_)
      · refine j_iload_n X dX10_pieces_55 rfl ?_
        exact j_ireturn X hR dX10_pieces_56 ⟨L, rfl, hLab, by rw [hc, show k = 4 * n * n by omega]⟩
      · have hrk := hLr k (by omega)
        have h68 := hfe k (by omega)
        refine j_iload_n X dX10_pieces_21 rfl ?_
        refine j_aload_n X dX10_pieces_22 rfl ?_
        refine j_getR X dX10_pieces_23 ff_X10_63 rfl rfl ?_
        refine j_iload_n X dX10_pieces_26 rfl ?_
        refine j_ialdk X dX10_pieces_27 rfl (by omega) (by decide) ?_
        rw [show ptW w L 70 k = L k from rfl]
        refine j_iload_n X dX10_pieces_28 rfl ?_
        refine j_icmp_ne (tgt := 46) X dX10_pieces_29 (by decide) ⟨by omega, by omega⟩ ⟨by omega, by omega⟩ (fun h_29 => ?_) (fun h_29 => ?_)
        · refine j_iconst X dX10_pieces_46 ?_
          refine j_iadd X dX10_pieces_47 ?_
          refine s_2 X dX10_pieces_48 rfl ?_
          refine inc_3 X dX10_pieces_49 rfl ?_
          refine j_goto (tgt := 13) X dX10_pieces_52 (by decide) ?_
          exact ih13 (k + 1) _ (ac0_f hc (ib_f (fun q => h_29 q.1))) (by omega) (by omega)
        · refine j_aload_n X dX10_pieces_32 rfl ?_
          refine j_getR X dX10_pieces_33 ff_X10_57 rfl rfl ?_
          refine j_iload_n X dX10_pieces_36 rfl ?_
          refine j_zaldk X dX10_pieces_37 rfl (by omega) (by decide) ?_
          rw [hfp]
          refine j_iload_n X dX10_pieces_38 rfl ?_
          refine j_icmp_eq (tgt := 46) X dX10_pieces_39 (by decide) ⟨by omega, by omega⟩ ⟨by omega, by omega⟩ (fun h_39 => ?_) (fun h_39 => ?_)
          · refine j_iconst X dX10_pieces_46 ?_
            refine j_iadd X dX10_pieces_47 ?_
            refine s_2 X dX10_pieces_48 rfl ?_
            refine inc_3 X dX10_pieces_49 rfl ?_
            refine j_goto (tgt := 13) X dX10_pieces_52 (by decide) ?_
            exact ih13 (k + 1) _ (ac0_f hc (ib_f (fun q => q.2 h_39))) (by omega) (by omega)
          · refine j_iconst X dX10_pieces_42 ?_
            refine j_goto (tgt := 47) X dX10_pieces_43 (by decide) ?_
            refine j_iadd X dX10_pieces_47 ?_
            refine s_2 X dX10_pieces_48 rfl ?_
            refine inc_3 X dX10_pieces_49 rfl ?_
            refine j_goto (tgt := 13) X dX10_pieces_52 (by decide) ?_
            exact ih13 (k + 1) _ (ac0_t hc (ib_t ⟨h_29, h_39⟩)) (by omega) (by omega)
  exact L_13 (4 * n * n + 1) 0 0 rfl (by omega) (by omega)
set_option maxHeartbeats 4000000 in
set_option maxRecDepth 20000 in
theorem sp_X10_holes {n : Nat} {w : wd} (hm : MI n w) : CalI yX10_holes cX10_holes 5 .int 4 LAY w [vR 54] (fun a w' => ∃ L, w' = ptW w L ∧ Lab n (w 68) L ∧ a = sm (fun k => ib ((L k = (k : Int) ∧ w 68 k = 1) ∧ ∀ j, j < 4 * n * n → ¬ (L j = (k : Int) ∧ nb n j 0 = -99999))) (4 * n * n)) := by
  obtain ⟨hn, ht0, hp, hcr, hfe, hfi, hic, hfo, hkn⟩ := id hm
  have hN := nn_le hn.1.2
  have hn1 := hn.2
  have hn6 := hn.1
  have hnp : ∀ L, nOk n (ptW w L) := fun L => ⟨hn.1, hn1⟩
  have hfp : ∀ L, ptW w L 68 = w 68 := fun L => ptW_o (by decide)
  refine calI_intro (ls := [some (vR 54), none, none, none, none]) (by decide) (Nat.le_of_ble_eq_true rfl) rfl (fun κ ad X hR => ?_)
  refine j_aload_n X dX10_holes_0 rfl ?_
  refine j_iconst X dX10_holes_1 ?_
  refine j_putI X dX10_holes_2 fp_X10_94 rfl rfl ?_
  rw [thr0 ht0]
  refine j_aload_n X dX10_holes_5 rfl ?_
  refine cV0v X mf_X10_hang mv_X10_hang ml_X10_196 (by decide) rfl rfl (Nat.le_of_ble_eq_true rfl) dX10_holes_6 (sp_X10_hang hn hfe) (fun w_6 h_6 => ?_)
  obtain ⟨L, rfl, hLab⟩ := h_6
  have hLr : ∀ a, a < 4 * n * n → 0 ≤ L a ∧ L a ≤ (a : Int) := fun a ha => by obtain ⟨r, z1, z2, _⟩ := (hLab a ha).1; omega
  refine j_iconst X dX10_holes_9 ?_
  refine s_1 X dX10_holes_10 rfl ?_
  refine j_iconst X dX10_holes_11 ?_
  refine s_2 X dX10_holes_12 rfl ?_
  have L_13 : ∀ (m : Nat) (k : Nat) (c : Int) (_ : c = sm (fun k => ib ((L k = (k : Int) ∧ w 68 k = 1) ∧ ∀ j, j < 4 * n * n → ¬ (L j = (k : Int) ∧ nb n j 0 = -99999))) k) (_ : k ≤ 4 * n * n) (_ : 4 * n * n - k < m), J κ LAY ad 0 0 13 [some (vR 54), some (vI c), some (vI (k : Int)), none, none] [] (ptW w L) := by
    intro m
    induction m with
    | zero => intros; exact absurd ‹_ < 0› (Nat.not_lt_zero _)
    | succ m ih13 =>
      intro k c hc h1 h2
      refine j_iload_n X dX10_holes_13 rfl ?_
      refine j_aload_n X dX10_holes_14 rfl ?_
      refine cV0i X mf_X10_facets mv_X10_facets ml_X10_97 (by decide) rfl rfl (Nat.le_of_ble_eq_true rfl) dX10_holes_15 (sp_X10_facets (hnp _)) (fun a_15 w_15 h_15 => ?_)
      obtain ⟨_, _⟩ := h_15
      subst a_15
      subst w_15
      refine j_icmp_ge (tgt := 115) X dX10_holes_18 (by decide) ⟨by omega, by omega⟩ ⟨by omega, by omega⟩ (fun h_18 => ?_) (fun h_18 => ?_)
      · refine j_iload_n X dX10_holes_115 rfl ?_
        exact j_ireturn X hR dX10_holes_116 ⟨L, rfl, hLab, by rw [hc, show k = 4 * n * n by omega]⟩
      · have hk : k < 4 * n * n := by omega
        have hrk := hLr k hk
        have h68 := hfe k (by omega)
        refine j_aload_n X dX10_holes_21 rfl ?_
        refine j_getR X dX10_holes_22 ff_X10_63 rfl rfl ?_
        refine j_iload_n X dX10_holes_25 rfl ?_
        refine j_ialdk X dX10_holes_26 rfl (by omega) (by decide) ?_
        refine j_iload_n X dX10_holes_27 rfl ?_
        have C_45 : ∀ c0 : Int, c0 = ib (L k = (k : Int) ∧ w 68 k = 1) → J κ LAY ad 0 0 45 [some (vR 54), some (vI c), some (vI (k : Int)), none, none] [vI c0] (ptW w L) := by
          intro c0 hc00
          refine s_3 X dX10_holes_45 rfl ?_
          refine j_iconst X dX10_holes_46 ?_
          refine s_4 X dX10_holes_47 rfl ?_
          have L_49 : ∀ (m : Nat) (g : Nat) (d : Int) (_ : d = ib ((L k = (k : Int) ∧ w 68 k = 1) ∧ ∀ j, j < g → ¬ (L j = (k : Int) ∧ nb n j 0 = -99999))) (_ : g ≤ 4 * n * n) (_ : 4 * n * n - g < m), J κ LAY ad 0 0 49 [some (vR 54), some (vI c), some (vI (k : Int)), some (vI d), some (vI (g : Int))] [] (ptW w L) := by
            intro m
            induction m with
            | zero => intros; exact absurd ‹_ < 0› (Nat.not_lt_zero _)
            | succ m ih49 =>
              intro g d hd h3 h4
              have hdb : d = 0 ∨ d = 1 := by rw [hd]; exact ib_01
              refine j_iload X dX10_holes_49 rfl ?_
              refine j_aload_n X dX10_holes_51 rfl ?_
              refine cV0i X mf_X10_facets mv_X10_facets ml_X10_97 (by decide) rfl rfl (Nat.le_of_ble_eq_true rfl) dX10_holes_52 (sp_X10_facets (hnp _)) (fun a_52 w_52 h_52 => ?_)
              obtain ⟨_, _⟩ := h_52
              subst a_52
              subst w_52
              refine j_icmp_ge (tgt := 97) X dX10_holes_55 (by decide) ⟨by omega, by omega⟩ ⟨by omega, by omega⟩ (fun h_55 => ?_) (fun h_55 => ?_)
              · refine j_iload_n X dX10_holes_97 rfl ?_
                refine j_iload_n X dX10_holes_98 rfl ?_
                refine j_if_eq (tgt := 106) X dX10_holes_99 (by decide) ⟨by omega, by omega⟩ (fun h_99 => ?_) (fun h_99 => ?_)
                · refine j_iconst X dX10_holes_106 ?_
                  refine j_iadd X dX10_holes_107 ?_
                  refine s_1 X dX10_holes_108 rfl ?_
                  refine inc_2 X dX10_holes_109 rfl ?_
                  refine j_goto (tgt := 13) X dX10_holes_112 (by decide) ?_
                  refine fg_3 ?_
                  refine fg_4 ?_
                  exact ih13 (k + 1) _ (ac0_f hc ((al2_e hd h3 (by omega)).symm.trans h_99)) (by omega) (by omega)
                · refine j_iconst X dX10_holes_102 ?_
                  refine j_goto (tgt := 107) X dX10_holes_103 (by decide) ?_
                  refine j_iadd X dX10_holes_107 ?_
                  refine s_1 X dX10_holes_108 rfl ?_
                  refine inc_2 X dX10_holes_109 rfl ?_
                  refine j_goto (tgt := 13) X dX10_holes_112 (by decide) ?_
                  refine fg_3 ?_
                  refine fg_4 ?_
                  exact ih13 (k + 1) _ (ac0_t hc ((al2_e hd h3 (by omega)).symm.trans (by omega))) (by omega) (by omega)
              · refine j_iload_n X dX10_holes_58 rfl ?_
                refine j_if_eq (tgt := 97) X dX10_holes_59 (by decide) ⟨by omega, by omega⟩ (fun h_59 => ?_) (fun h_59 => ?_)
                · refine j_iload_n X dX10_holes_97 rfl ?_
                  refine j_iload_n X dX10_holes_98 rfl ?_
                  refine j_if_eq (tgt := 106) X dX10_holes_99 (by decide) ⟨by omega, by omega⟩ (fun h_99 => ?_) (fun h_99 => ?_)
                  · refine j_iconst X dX10_holes_106 ?_
                    refine j_iadd X dX10_holes_107 ?_
                    refine s_1 X dX10_holes_108 rfl ?_
                    refine inc_2 X dX10_holes_109 rfl ?_
                    refine j_goto (tgt := 13) X dX10_holes_112 (by decide) ?_
                    refine fg_3 ?_
                    refine fg_4 ?_
                    exact ih13 (k + 1) _ (ac0_f hc ((al2_e hd h3 (by omega)).symm.trans h_99)) (by omega) (by omega)
                  · refine j_iconst X dX10_holes_102 ?_
                    refine j_goto (tgt := 107) X dX10_holes_103 (by decide) ?_
                    refine j_iadd X dX10_holes_107 ?_
                    refine s_1 X dX10_holes_108 rfl ?_
                    refine inc_2 X dX10_holes_109 rfl ?_
                    refine j_goto (tgt := 13) X dX10_holes_112 (by decide) ?_
                    refine fg_3 ?_
                    refine fg_4 ?_
                    exact ih13 (k + 1) _ (ac0_t hc ((al2_e hd h3 (by omega)).symm.trans (by omega))) (by omega) (by omega)
                · have hg : g < 4 * n * n := by omega
                  have hrg := hLr g hg
                  have hnb := nb_b hn6 hg (show 0 < 3 by decide)
                  refine j_aload_n X dX10_holes_62 rfl ?_
                  refine j_getR X dX10_holes_63 ff_X10_63 rfl rfl ?_
                  refine j_iload X dX10_holes_66 rfl ?_
                  refine j_ialdk X dX10_holes_68 rfl (by omega) (by decide) ?_
                  rw [show ptW w L 70 g = L g from rfl]
                  refine j_iload_n X dX10_holes_69 rfl ?_
                  refine j_icmp_ne (tgt := 85) X dX10_holes_70 (by decide) ⟨by omega, by omega⟩ ⟨by omega, by omega⟩ (fun h_70 => ?_) (fun h_70 => ?_)
                  · refine j_iconst X dX10_holes_85 ?_
                    refine j_goto (tgt := 90) X dX10_holes_86 (by decide) ?_
                    refine s_3 X dX10_holes_90 rfl ?_
                    refine inc_4 X dX10_holes_91 rfl ?_
                    refine j_goto (tgt := 49) X dX10_holes_94 (by decide) ?_
                    exact ih49 (g + 1) _ (al2_s hd (by omega) (ib_t (show ¬ (L g = (k : Int) ∧ nb n g 0 = -99999) from fun q => h_70 q.1)).symm) (by omega) (by omega)
                  · refine j_aload_n X dX10_holes_73 rfl ?_
                    refine j_iload X dX10_holes_74 rfl ?_
                    refine j_iconst X dX10_holes_76 ?_
                    refine cV2i X mf_X10_nextTo mv_X10_nextTo ml_X10_149 (by decide) rfl rfl (Nat.le_of_ble_eq_true rfl) dX10_holes_77 (sp_X10_nextTo (e := 0) (hnp _) hg (by decide)) (fun a_77 w_77 h_77 => ?_)
                    obtain ⟨_, _⟩ := h_77
                    subst a_77
                    subst w_77
                    refine j_ldc X dX10_holes_80 kc_X10_135 ?_
                    refine j_icmp_eq (tgt := 89) X dX10_holes_82 (by decide) ⟨by omega, by omega⟩ ⟨by omega, by omega⟩ (fun h_82 => ?_) (fun h_82 => ?_)
                    · refine j_iconst X dX10_holes_89 ?_
                      refine s_3 X dX10_holes_90 rfl ?_
                      refine inc_4 X dX10_holes_91 rfl ?_
                      refine j_goto (tgt := 49) X dX10_holes_94 (by decide) ?_
                      exact ih49 (g + 1) _ (al2_s hd (by omega) (ib_f (fun q => q ⟨h_70, h_82⟩)).symm) (by omega) (by omega)
                    · refine j_iconst X dX10_holes_85 ?_
                      refine j_goto (tgt := 90) X dX10_holes_86 (by decide) ?_
                      refine s_3 X dX10_holes_90 rfl ?_
                      refine inc_4 X dX10_holes_91 rfl ?_
                      refine j_goto (tgt := 49) X dX10_holes_94 (by decide) ?_
                      exact ih49 (g + 1) _ (al2_s hd (by omega) (ib_t (show ¬ (L g = (k : Int) ∧ nb n g 0 = -99999) from fun q => h_82 q.2)).symm) (by omega) (by omega)
          exact L_49 (4 * n * n + 1) 0 c0 (al2_0 rfl hc00) (by omega) (by omega)
        rw [show ptW w L 70 k = L k from rfl]
        refine j_icmp_ne (tgt := 44) X dX10_holes_28 (by decide) ⟨by omega, by omega⟩ ⟨by omega, by omega⟩ (fun h_28 => ?_) (fun h_28 => ?_)
        · refine j_iconst X dX10_holes_44 ?_
          exact C_45 _ (ib_f (fun q => h_28 q.1)).symm
        · refine j_aload_n X dX10_holes_31 rfl ?_
          refine j_getR X dX10_holes_32 ff_X10_57 rfl rfl ?_
          refine j_iload_n X dX10_holes_35 rfl ?_
          refine j_zaldk X dX10_holes_36 rfl (by omega) (by decide) ?_
          rw [hfp]
          refine j_if_eq (tgt := 44) X dX10_holes_37 (by decide) ⟨by omega, by omega⟩ (fun h_37 => ?_) (fun h_37 => ?_)
          · refine j_iconst X dX10_holes_44 ?_
            exact C_45 _ (ib_f (fun q => by have := q.2; omega)).symm
          · refine j_iconst X dX10_holes_40 ?_
            refine j_goto (tgt := 45) X dX10_holes_41 (by decide) ?_
            exact C_45 _ (ib_t ⟨h_28, by omega⟩).symm
  exact L_13 (4 * n * n + 1) 0 0 rfl (by omega) (by omega)
def rbT (n : Nat) (w : wd) (b : Int) (k : Nat) : Int := sm (fun e => ib (nb n k e ≠ -99999 ∧ w 68 k = 1 ∧ ¬ w 68 (nb n k e).toNat = 1 ∧ ib (0 < e) = b)) 3
set_option maxHeartbeats 4000000 in
set_option maxRecDepth 20000 in
theorem sp_X10_rims {n : Nat} {w : wd} (hm : MI n w) {b : Int} (hb : b = 0 ∨ b = 1) : CalI yX10_rims cX10_rims 6 .int 3 LAY w [vR 54, vI b] (fun a w' => a = sm (rbT n w b) (4 * n * n) ∧ w' = w) := by
  obtain ⟨hn, ht0, hp, hcr, hfe, hfi, hic, hfo, hkn⟩ := id hm
  have hN := nn_le hn.1.2
  have hn1 := hn.2
  have hn6 := hn.1
  refine calI_intro (ls := [some (vR 54), some (vI b), none, none, none, none]) (by decide) (Nat.le_of_ble_eq_true rfl) rfl (fun κ ad X hR => ?_)
  refine j_aload_n X dX10_rims_0 rfl ?_
  refine j_iconst X dX10_rims_1 ?_
  refine j_putI X dX10_rims_2 fp_X10_94 rfl rfl ?_
  rw [thr0 ht0]
  refine j_iconst X dX10_rims_5 ?_
  refine s_2 X dX10_rims_6 rfl ?_
  refine j_iconst X dX10_rims_7 ?_
  refine s_3 X dX10_rims_8 rfl ?_
  have L_9 : ∀ (m : Nat) (k : Nat) (c : Int) (_ : c = sm (rbT n w b) k) (_ : k ≤ 4 * n * n) (_ : 4 * n * n - k < m), J κ LAY ad 0 0 9 [some (vR 54), some (vI b), some (vI c), some (vI (k : Int)), none, none] [] w := by
    intro m
    induction m with
    | zero => intros; exact absurd ‹_ < 0› (Nat.not_lt_zero _)
    | succ m ih9 =>
      intro k c hc h1 h2
      refine j_iload_n X dX10_rims_9 rfl ?_
      refine j_aload_n X dX10_rims_10 rfl ?_
      refine cV0i X mf_X10_facets mv_X10_facets ml_X10_97 (by decide) rfl rfl (Nat.le_of_ble_eq_true rfl) dX10_rims_11 (sp_X10_facets hn) (fun a_11 w_11 h_11 => ?_)
      obtain ⟨_, _⟩ := h_11
      subst a_11
      subst w_11
      refine j_icmp_ge (tgt := 95) X dX10_rims_14 (by decide) ⟨by omega, by omega⟩ ⟨by omega, by omega⟩ (fun h_14 => ?_) (fun h_14 => ?_)
      · refine j_iload_n X dX10_rims_95 rfl ?_
        exact j_ireturn X hR dX10_rims_96 ⟨by rw [hc, show k = 4 * n * n by omega], rfl⟩
      · refine j_iconst X dX10_rims_17 ?_
        refine s_4 X dX10_rims_18 rfl ?_
        have L_20 : ∀ (m : Nat) (e : Nat) (d : Int) (_ : d = c + sm (fun e => ib (nb n k e ≠ -99999 ∧ w 68 k = 1 ∧ ¬ w 68 (nb n k e).toNat = 1 ∧ ib (0 < e) = b)) e) (_ : e ≤ 3) (_ : 3 - e < m), J κ LAY ad 0 0 20 [some (vR 54), some (vI b), some (vI d), some (vI (k : Int)), some (vI (e : Int)), none] [] w := by
          intro m
          induction m with
          | zero => intros; exact absurd ‹_ < 0› (Nat.not_lt_zero _)
          | succ m ih20 =>
            intro e d hd h3 h4
            refine j_iload X dX10_rims_20 rfl ?_
            refine j_iconst X dX10_rims_22 ?_
            refine j_icmp_ge (tgt := 89) X dX10_rims_23 (by decide) ⟨by omega, by omega⟩ ⟨by omega, by omega⟩ (fun h_23 => ?_) (fun h_23 => ?_)
            · refine inc_3 X dX10_rims_89 rfl ?_
              refine j_goto (tgt := 9) X dX10_rims_92 (by decide) ?_
              refine fg_4 ?_
              refine fg_5 ?_
              exact ih9 (k + 1) _ (by rw [hd, sm_s, hc, show e = 3 by omega]; rfl) (by omega) (by omega)
            · have hk : k < 4 * n * n := by omega
              have he : e < 3 := by omega
              have hnb := nb_b hn6 hk he
              refine j_aload_n X dX10_rims_26 rfl ?_
              refine j_iload_n X dX10_rims_27 rfl ?_
              refine j_iload X dX10_rims_28 rfl ?_
              refine cV2i X mf_X10_nextTo mv_X10_nextTo ml_X10_149 (by decide) rfl rfl (Nat.le_of_ble_eq_true rfl) dX10_rims_30 (sp_X10_nextTo hn hk he) (fun a_30 w_30 h_30 => ?_)
              obtain ⟨_, _⟩ := h_30
              subst a_30
              subst w_30
              refine s_5 X dX10_rims_33 rfl ?_
              refine j_iload_n X dX10_rims_35 rfl ?_
              refine j_iload X dX10_rims_36 rfl ?_
              refine j_ldc X dX10_rims_38 kc_X10_135 ?_
              refine j_icmp_eq (tgt := 80) X dX10_rims_40 (by decide) ⟨by omega, by omega⟩ ⟨by omega, by omega⟩ (fun h_40 => ?_) (fun h_40 => ?_)
              · refine j_iconst X dX10_rims_80 ?_
                refine j_iadd X dX10_rims_81 ?_
                refine s_2 X dX10_rims_82 rfl ?_
                refine inc_4 X dX10_rims_83 rfl ?_
                refine j_goto (tgt := 20) X dX10_rims_86 (by decide) ?_
                refine fg_5 ?_
                exact ih20 (e + 1) _ (acc_f hd (ib_f (fun q => q.1 h_40))) (by omega) (by omega)
              · obtain ⟨j, hj, hjN⟩ := (nb_rg hn6 hk he).resolve_left h_40
                have hjt : (nb n k e).toNat = j := by rw [hj]; rfl
                rw [hj]
                have hfj := hfe j (by omega)
                have hff := hfe k (by omega)
                refine j_aload_n X dX10_rims_43 rfl ?_
                refine j_getR X dX10_rims_44 ff_X10_57 rfl rfl ?_
                refine j_iload_n X dX10_rims_47 rfl ?_
                refine j_zaldk X dX10_rims_48 rfl (by omega) (by decide) ?_
                refine j_if_eq (tgt := 80) X dX10_rims_49 (by decide) ⟨by omega, by omega⟩ (fun h_49 => ?_) (fun h_49 => ?_)
                · refine j_iconst X dX10_rims_80 ?_
                  refine j_iadd X dX10_rims_81 ?_
                  refine s_2 X dX10_rims_82 rfl ?_
                  refine inc_4 X dX10_rims_83 rfl ?_
                  refine j_goto (tgt := 20) X dX10_rims_86 (by decide) ?_
                  refine fg_5 ?_
                  exact ih20 (e + 1) _ (acc_f hd (ib_f (fun q => by have := q.2.1; omega))) (by omega) (by omega)
                · refine j_aload_n X dX10_rims_52 rfl ?_
                  refine j_getR X dX10_rims_53 ff_X10_57 rfl rfl ?_
                  refine j_iload X dX10_rims_56 rfl ?_
                  refine j_zaldk X dX10_rims_58 rfl (by omega) (by decide) ?_
                  refine j_if_ne (tgt := 80) X dX10_rims_59 (by decide) ⟨by omega, by omega⟩ (fun h_59 => ?_) (fun h_59 => ?_)
                  · refine j_iconst X dX10_rims_80 ?_
                    refine j_iadd X dX10_rims_81 ?_
                    refine s_2 X dX10_rims_82 rfl ?_
                    refine inc_4 X dX10_rims_83 rfl ?_
                    refine j_goto (tgt := 20) X dX10_rims_86 (by decide) ?_
                    refine fg_5 ?_
                    exact ih20 (e + 1) _ (acc_f hd (ib_f (fun q => q.2.2.1 (by rw [hjt]; omega)))) (by omega) (by omega)
                  · refine j_iload X dX10_rims_62 rfl ?_
                    refine j_if_le (tgt := 71) X dX10_rims_64 (by decide) ⟨by omega, by omega⟩ (fun h_64 => ?_) (fun h_64 => ?_)
                    · refine j_iconst X dX10_rims_71 ?_
                      refine j_iload_n X dX10_rims_72 rfl ?_
                      refine j_icmp_ne (tgt := 80) X dX10_rims_73 (by decide) ⟨by omega, by omega⟩ ⟨by omega, by omega⟩ (fun h_73 => ?_) (fun h_73 => ?_)
                      · refine j_iconst X dX10_rims_80 ?_
                        refine j_iadd X dX10_rims_81 ?_
                        refine s_2 X dX10_rims_82 rfl ?_
                        refine inc_4 X dX10_rims_83 rfl ?_
                        refine j_goto (tgt := 20) X dX10_rims_86 (by decide) ?_
                        refine fg_5 ?_
                        exact ih20 (e + 1) _ (acc_f hd (ib_f (fun q => h_73 (by rw [← q.2.2.2, ib_f (by omega)])))) (by omega) (by omega)
                      · refine j_iconst X dX10_rims_76 ?_
                        refine j_goto (tgt := 81) X dX10_rims_77 (by decide) ?_
                        refine j_iadd X dX10_rims_81 ?_
                        refine s_2 X dX10_rims_82 rfl ?_
                        refine inc_4 X dX10_rims_83 rfl ?_
                        refine j_goto (tgt := 20) X dX10_rims_86 (by decide) ?_
                        refine fg_5 ?_
                        exact ih20 (e + 1) _ (acc_t hd (ib_t ⟨h_40, by omega, by rw [hjt]; omega, by rw [ib_f (by omega)]; exact h_73⟩)) (by omega) (by omega)
                    · refine j_iconst X dX10_rims_67 ?_
                      refine j_goto (tgt := 72) X dX10_rims_68 (by decide) ?_
                      refine j_iload_n X dX10_rims_72 rfl ?_
                      refine j_icmp_ne (tgt := 80) X dX10_rims_73 (by decide) ⟨by omega, by omega⟩ ⟨by omega, by omega⟩ (fun h_73 => ?_) (fun h_73 => ?_)
                      · refine j_iconst X dX10_rims_80 ?_
                        refine j_iadd X dX10_rims_81 ?_
                        refine s_2 X dX10_rims_82 rfl ?_
                        refine inc_4 X dX10_rims_83 rfl ?_
                        refine j_goto (tgt := 20) X dX10_rims_86 (by decide) ?_
                        refine fg_5 ?_
                        exact ih20 (e + 1) _ (acc_f hd (ib_f (fun q => h_73 (by rw [← q.2.2.2, ib_t (by omega)])))) (by omega) (by omega)
                      · refine j_iconst X dX10_rims_76 ?_
                        refine j_goto (tgt := 81) X dX10_rims_77 (by decide) ?_
                        refine j_iadd X dX10_rims_81 ?_
                        refine s_2 X dX10_rims_82 rfl ?_
                        refine inc_4 X dX10_rims_83 rfl ?_
                        refine j_goto (tgt := 20) X dX10_rims_86 (by decide) ?_
                        refine fg_5 ?_
                        exact ih20 (e + 1) _ (acc_t hd (ib_t ⟨h_40, by omega, by rw [hjt]; omega, by rw [ib_t (by omega)]; exact h_73⟩)) (by omega) (by omega)
        exact L_20 4 0 c (by rw [sm_0]; omega) (by omega) (by omega)
  exact L_9 (4 * n * n + 1) 0 0 rfl (by omega) (by omega)
set_option maxHeartbeats 4000000 in
set_option maxRecDepth 20000 in
theorem sp_X10_piece {n : Nat} {w : wd} (hm : MI n w) {k : Int} (hk : rg k) : CalI yX10_piece cX10_piece 2 .int 4 LAY w [vR 54, vI k] (fun a w' => if 0 ≤ k ∧ k < ((4 * n * n : Nat) : Int) then (∃ L, w' = ptW w L ∧ Lab n (w 68) L ∧ a = L k.toNat) else a = -1 ∧ w' = w) := by
  obtain ⟨hn, ht0, hp, hcr, hfe, hfi, hic, hfo, hkn⟩ := id hm
  have hN := nn_le hn.1.2
  have hn1 := hn.2
  have hn6 := hn.1
  refine calI_intro (ls := [some (vR 54), some (vI k)]) (by decide) (Nat.le_of_ble_eq_true rfl) rfl (fun κ ad X hR => ?_)
  refine j_aload_n X dX10_piece_0 rfl ?_
  refine j_iconst X dX10_piece_1 ?_
  refine j_putI X dX10_piece_2 fp_X10_94 rfl rfl ?_
  rw [thr0 ht0]
  refine j_aload_n X dX10_piece_5 rfl ?_
  refine j_iload_n X dX10_piece_6 rfl ?_
  refine cV1i X mf_X10_noFacet mv_X10_noFacet ml_X10_160 (by decide) rfl rfl (Nat.le_of_ble_eq_true rfl) dX10_piece_7 (sp_X10_noFacet hn hk) (fun a_7 w_7 h_7 => ?_)
  obtain ⟨_, _⟩ := h_7
  subst a_7
  subst w_7
  refine jb_eq (tgt := 15) X dX10_piece_10 (by decide) (fun h_10 => ?_) (fun h_10 => ?_)
  · obtain ⟨j, rfl⟩ := Int.eq_ofNat_of_zero_le (show (0 : Int) ≤ k by omega)
    have hj : j < 4 * n * n := by omega
    have hin : 0 ≤ (j : Int) ∧ (j : Int) < ((4 * n * n : Nat) : Int) := by omega
    refine j_aload_n X dX10_piece_15 rfl ?_
    refine cV0v X mf_X10_hang mv_X10_hang ml_X10_196 (by decide) rfl rfl (Nat.le_of_ble_eq_true rfl) dX10_piece_16 (sp_X10_hang hn hfe) (fun w_16 h_16 => ?_)
    obtain ⟨L, rfl, hLab⟩ := h_16
    refine j_aload_n X dX10_piece_19 rfl ?_
    refine j_getR X dX10_piece_20 ff_X10_63 rfl rfl ?_
    refine j_iload_n X dX10_piece_23 rfl ?_
    refine j_ialdk X dX10_piece_24 rfl (by omega) (by decide) ?_
    exact j_ireturn X hR dX10_piece_25 (by rw [if_pos hin]; exact ⟨L, rfl, hLab, rfl⟩)
  · refine j_iconst X dX10_piece_13 ?_
    exact j_ireturn X hR dX10_piece_14 (by rw [if_neg (by omega)]; exact ⟨rfl, rfl⟩)
