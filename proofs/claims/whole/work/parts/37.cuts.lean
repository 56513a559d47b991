/-! ===== the reference's search: cuts ===== -/
def cuQ (s kk d t : Nat) : Prop := t < 584 ∧ (tS t < s ∨ (tS t = s ∧ (t / 8 < kk ∨ (t / 8 = kk ∧ tD t < d))))
def cpR (w : wd) (d : Nat) : wd := fun o i => if o = 78 ∧ i < d then w 77 i else w o i
theorem cpR_0 (w : wd) : cpR w 0 = w := by
  funext o i; unfold cpR; rw [if_neg (fun q => absurd q.2 (Nat.not_lt_zero _))]
theorem cpR_s (w : wd) (m : Nat) : wst (cpR w m) 78 m (w 77 m) = cpR w (m + 1) := by
  funext o i
  by_cases ho : o = 78
  · subst ho
    by_cases hi : i = m
    · subst hi; simp [wst, w1, cpR]
    · have : i < m ↔ i < m + 1 := by omega
      simp [wst, w1, cpR, hi, this]
  · simp [wst, cpR, ho]
theorem cpR_o {w : wd} {d o : Nat} (h : o ≠ 78) : cpR w d o = w o := by
  funext i; unfold cpR; rw [if_neg (fun q => h q.1)]
theorem cu_0 {P : Nat → Prop} : beS P (cuQ 0 0 0) (-99999) := Or.inl ⟨rfl, fun t ht => by unfold cuQ at ht; omega⟩
theorem cu_d {P : Nat → Prop} {b : Int} {s kk d : Nat} (hs : s < 4) (hk : kk < 73) (hd : d < 2) (h : beS P (fun t => cuQ s kk d t ∨ t = 8 * kk + 2 * s + d) b) : beS P (cuQ s kk (d + 1)) b := h.cong (fun t ht => by unfold cuQ tS tD; omega) (fun t ht => by rcases ht with z | z; exact z.1; omega) (fun t ht => ht.1)
theorem cu_k {P : Nat → Prop} {b : Int} {s kk : Nat} (h : beS P (cuQ s kk 2) b) : beS P (cuQ s (kk + 1) 0) b := h.cong (fun t ht => by unfold cuQ tS tD; omega) (fun t ht => ht.1) (fun t ht => ht.1)
theorem cu_s {P : Nat → Prop} {b : Int} {s : Nat} (h : beS P (cuQ s 73 0) b) : beS P (cuQ (s + 1) 0 0) b := h.cong (fun t ht => by unfold cuQ tS tD; omega) (fun t ht => ht.1) (fun t ht => ht.1)
theorem cu_e {P : Nat → Prop} {b : Int} (h : beS P (cuQ 4 0 0) b) : beS P (fun t => t < 584) b := h.cong (fun t ht => by unfold cuQ tS tD; omega) (fun t ht => ht.1) (fun t ht => ht)
def ctW (N : Nat) (S : lys) (w : wd) (d : Nat) : wd := if 0 < cutN N (w 69) S ∧ w 54 31 = 0 then wst (cpR w d) 78 d ((lstT (cutOk N (w 69) S) 584 : Nat) : Int) else w
set_option maxHeartbeats 4000000 in
set_option maxRecDepth 20000 in
theorem sp_X10_cuts {n d : Nat} {w : wd} {S : lys} (hn : nOk n w) (hd : d ≤ 3) (hS : ∀ f, f < 4 * n * n → rS w d f = S f) (hF : ∀ f, f < 144 → w 69 f = 0 ∨ w 69 f = 1) (hok : ∀ f, f < 4 * n * n → okp 100 (S f)) (hr31 : rg (w 54 31)) : CalI yX10_cuts cX10_cuts 13 .int 2 LAY w [vR 54, vI (d : Int)] (fun a w' => a = cutN (4 * n * n) (w 69) S ∧ w' = ctW (4 * n * n) S w d) := by
  have hN := nn_le hn.1.2
  have hn1 := hn.2
  refine calI_intro (ls := [some (vR 54), some (vI (d : Int)), none, none, none, none, none, none, none, none, none, none, none]) (by decide) (Nat.le_of_ble_eq_true rfl) rfl (fun κ ad X hR => ?_)
  refine j_iconst X dX10_cuts_0 ?_
  refine s_2 X dX10_cuts_1 rfl ?_
  refine j_ldc X dX10_cuts_2 kc_X10_135 ?_
  refine s_3 X dX10_cuts_4 rfl ?_
  refine j_iconst X dX10_cuts_5 ?_
  refine s_4 X dX10_cuts_6 rfl ?_
  have L_8 : ∀ (m : Nat) (s : Nat) (c b : Int) (_ : c = sm (fun s => sm (fun kk => sm (fun d => ib (cuO (4 * n * n) (w 69) S s d kk)) 2) 73) s) (_ : beS (cutOk (4 * n * n) (w 69) S) (cuQ s 0 0) b) (_ : s ≤ 4) (_ : 4 - s < m), J κ LAY ad 0 0 8 [some (vR 54), some (vI (d : Int)), some (vI c), some (vI b), some (vI (s : Int)), none, none, none, none, none, none, none, none] [] w := by
    intro m
    induction m with
    | zero => intros; exact absurd ‹_ < 0› (Nat.not_lt_zero _)
    | succ m ih8 =>
      intro s c b hc hb0 h1 h2
      refine j_iload X dX10_cuts_8 rfl ?_
      refine j_iconst X dX10_cuts_10 ?_
      refine j_icmp_ge (tgt := 325) X dX10_cuts_11 (by decide) ⟨by omega, by omega⟩ ⟨by omega, by omega⟩ (fun h_11 => ?_) (fun h_11 => ?_)
      · obtain rfl : s = 4 := by omega
        have hcN : c = cutN (4 * n * n) (w 69) S := hc.trans (cutN_sm _ _ _)
        have hcr := cutN_rg (4 * n * n) (w 69) S
        rw [← hcN] at hcr
        have hbe := cu_e hb0
        refine j_iload_n X dX10_cuts_325 rfl ?_
        refine j_if_le (tgt := 372) X dX10_cuts_326 (by decide) ⟨by omega, by omega⟩ (fun h_326 => ?_) (fun h_326 => ?_)
        · refine j_iload_n X dX10_cuts_372 rfl ?_
          exact j_ireturn X hR dX10_cuts_373 ⟨hcN, by unfold ctW; rw [if_neg (fun z => by have := z.1; omega)]⟩
        · refine j_aload_n X dX10_cuts_329 rfl ?_
          refine j_getI X dX10_cuts_330 ff_X10_210 rfl rfl ?_
          refine j_if_ne (tgt := 372) X dX10_cuts_333 (by decide) ⟨by omega, by omega⟩ (fun h_333 => ?_) (fun h_333 => ?_)
          · refine j_iload_n X dX10_cuts_372 rfl ?_
            exact j_ireturn X hR dX10_cuts_373 ⟨hcN, by unfold ctW; rw [if_neg (fun z => by have := z.2; omega)]⟩
          · refine j_iconst X dX10_cuts_336 ?_
            refine s_4 X dX10_cuts_337 rfl ?_
            have L_339 : ∀ (m : Nat) (i : Nat) (_ : i ≤ d) (_ : d - i < m), J κ LAY ad 0 0 339 [some (vR 54), some (vI (d : Int)), some (vI c), some (vI b), some (vI (i : Int)), none, none, none, none, none, none, none, none] [] (cpR w i) := by
              intro m
              induction m with
              | zero => intros; exact absurd ‹_ < 0› (Nat.not_lt_zero _)
              | succ m ih339 =>
                intro i h3 h4
                refine j_iload X dX10_cuts_339 rfl ?_
                refine j_iload_n X dX10_cuts_341 rfl ?_
                refine j_icmp_ge (tgt := 365) X dX10_cuts_342 (by decide) ⟨by omega, by omega⟩ ⟨by omega, by omega⟩ (fun h_342 => ?_) (fun h_342 => ?_)
                · obtain rfl : i = d := by omega
                  refine j_aload_n X dX10_cuts_365 rfl ?_
                  refine j_getR X dX10_cuts_366 ff_X10_87 rfl rfl ?_
                  refine j_iload_n X dX10_cuts_369 rfl ?_
                  refine j_iload_n X dX10_cuts_370 rfl ?_
                  refine j_iastk X dX10_cuts_371 rfl (by omega) (by decide) ?_
                  refine j_iload_n X dX10_cuts_372 rfl ?_
                  exact j_ireturn X hR dX10_cuts_373 ⟨hcN, by unfold ctW; rw [if_pos ⟨by omega, by omega⟩, hbe.first (by omega)]⟩
                · refine j_aload_n X dX10_cuts_345 rfl ?_
                  refine j_getR X dX10_cuts_346 ff_X10_87 rfl rfl ?_
                  refine j_iload X dX10_cuts_349 rfl ?_
                  refine j_aload_n X dX10_cuts_351 rfl ?_
                  refine j_getR X dX10_cuts_352 ff_X10_84 rfl rfl ?_
                  refine j_iload X dX10_cuts_355 rfl ?_
                  refine j_ialdk X dX10_cuts_357 rfl (by omega) (by decide) ?_
                  rw [show cpR w i 77 i = w 77 i from congrFun (cpR_o (by decide)) i]
                  refine j_iastk X dX10_cuts_358 rfl (by omega) (by decide) ?_
                  refine inc_4 X dX10_cuts_359 rfl ?_
                  refine j_goto (tgt := 339) X dX10_cuts_362 (by decide) ?_
                  rw [cpR_s]
                  exact ih339 (i + 1) (by omega) (by omega)
            have h9 := L_339 (d + 1) 0 (by omega) (by omega)
            rw [cpR_0] at h9
            exact h9
      · have hs : s < 4 := by omega
        refine j_ldc X dX10_cuts_14 kc_X10_205 ?_
        refine s_5 X dX10_cuts_16 rfl ?_
        refine j_ldc X dX10_cuts_18 kc_X10_206 ?_
        refine s_6 X dX10_cuts_20 rfl ?_
        refine j_ldc X dX10_cuts_22 kc_X10_205 ?_
        refine s_7 X dX10_cuts_24 rfl ?_
        refine j_ldc X dX10_cuts_26 kc_X10_206 ?_
        refine s_8 X dX10_cuts_28 rfl ?_
        refine j_iconst X dX10_cuts_30 ?_
        refine s_9 X dX10_cuts_31 rfl ?_
        have L_33 : ∀ (m : Nat) (f : Nat) (x5 x6 x7 x8 : Int) (_ : x5 = loP (fun f => w 69 f = 1) (s : Int) S f) (_ : x6 = hiP (fun f => w 69 f = 1) (s : Int) S f) (_ : x7 = loP (fun f => ¬ w 69 f = 1) (s : Int) S f) (_ : x8 = hiP (fun f => ¬ w 69 f = 1) (s : Int) S f) (_ : f ≤ 4 * n * n) (_ : 4 * n * n - f < m), J κ LAY ad 0 0 33 [some (vR 54), some (vI (d : Int)), some (vI c), some (vI b), some (vI (s : Int)), some (vI (x5)), some (vI (x6)), some (vI (x7)), some (vI (x8)), some (vI ((f : Int))), none, none, none] [] w := by
          intro m
          induction m with
          | zero => intros; exact absurd ‹_ < 0› (Nat.not_lt_zero _)
          | succ m ih33 =>
            intro f x5 x6 x7 x8 e5 e6 e7 e8 h3 h4
            have y5 := lo_b (P := fun f => w 69 f = 1) (s := (s : Int)) (S := S) (n := f) (fun g hg => (al_b ⟨by omega, by omega⟩ (hok g (by omega))).1)
            have y7 := lo_b (P := fun f => ¬ w 69 f = 1) (s := (s : Int)) (S := S) (n := f) (fun g hg => (al_b ⟨by omega, by omega⟩ (hok g (by omega))).1)
            have y6 := hi_b (P := fun f => w 69 f = 1) (s := (s : Int)) (S := S) (n := f) (fun g hg => (al_b ⟨by omega, by omega⟩ (hok g (by omega))).2)
            have y8 := hi_b (P := fun f => ¬ w 69 f = 1) (s := (s : Int)) (S := S) (n := f) (fun g hg => (al_b ⟨by omega, by omega⟩ (hok g (by omega))).2)
            rw [← e5] at y5
            rw [← e6] at y6
            rw [← e7] at y7
            rw [← e8] at y8
            refine j_iload X dX10_cuts_33 rfl ?_
            refine j_aload_n X dX10_cuts_35 rfl ?_
            refine cV0i X mf_X10_facets mv_X10_facets ml_X10_97 (by decide) rfl rfl (Nat.le_of_ble_eq_true rfl) dX10_cuts_36 (sp_X10_facets hn) (fun a_36 w_36 h_36 => ?_)
            obtain ⟨_, _⟩ := h_36
            subst a_36
            subst w_36
            refine j_icmp_ge (tgt := 171) X dX10_cuts_39 (by decide) ⟨by omega, by omega⟩ ⟨by omega, by omega⟩ (fun h_39 => ?_) (fun h_39 => ?_)
            · obtain rfl : f = 4 * n * n := by omega
              refine j_bipush X dX10_cuts_171 (by decide +kernel) ?_
              refine s_9 X dX10_cuts_173 rfl ?_
              have L_175 : ∀ (m : Nat) (kk : Nat) (c2 b2 l : Int) (_ : c2 = c + sm (fun kk => sm (fun d => ib (cuO (4 * n * n) (w 69) S s d kk)) 2) kk) (_ : beS (cutOk (4 * n * n) (w 69) S) (cuQ s kk 0) b2) (_ : l = (kk : Int) - 24) (_ : kk ≤ 73) (_ : 73 - kk < m), J κ LAY ad 0 0 175 [some (vR 54), some (vI (d : Int)), some (vI c2), some (vI b2), some (vI (s : Int)), some (vI (x5)), some (vI (x6)), some (vI (x7)), some (vI (x8)), some (vI (l)), none, none, none] [] w := by
                intro m
                induction m with
                | zero => intros; exact absurd ‹_ < 0› (Nat.not_lt_zero _)
                | succ m ih175 =>
                  intro kk c2 b2 l hc2 hb2 hkl h5 h6
                  subst hkl
                  refine j_iload X dX10_cuts_175 rfl ?_
                  refine j_bipush X dX10_cuts_177 (by decide +kernel) ?_
                  refine j_icmp_gt (tgt := 319) X dX10_cuts_179 (by decide) ⟨by omega, by omega⟩ ⟨by omega, by omega⟩ (fun h_179 => ?_) (fun h_179 => ?_)
                  · refine inc_4 X dX10_cuts_319 rfl ?_
                    refine j_goto (tgt := 8) X dX10_cuts_322 (by decide) ?_
                    refine fg_5 ?_
                    refine fg_6 ?_
                    refine fg_7 ?_
                    refine fg_8 ?_
                    refine fg_9 ?_
                    refine fg_10 ?_
                    refine fg_11 ?_
                    refine fg_12 ?_
                    obtain rfl : kk = 73 := by omega
                    exact ih8 (s + 1) _ _ (by rw [sm_s, hc2, hc]) (cu_s hb2) (by omega) (by omega)
                  · have hkk : kk < 73 := by omega
                    refine j_iconst X dX10_cuts_182 ?_
                    refine s_10 X dX10_cuts_183 rfl ?_
                    have L_185 : ∀ (m : Nat) (e : Nat) (c3 b3 : Int) (_ : c3 = c2 + sm (fun d => ib (cuO (4 * n * n) (w 69) S s d kk)) e) (_ : beS (cutOk (4 * n * n) (w 69) S) (cuQ s kk e) b3) (_ : e ≤ 2) (_ : 2 - e < m), J κ LAY ad 0 0 185 [some (vR 54), some (vI (d : Int)), some (vI c3), some (vI b3), some (vI (s : Int)), some (vI (x5)), some (vI (x6)), some (vI (x7)), some (vI (x8)), some (vI ((kk : Int) - 24)), some (vI ((e : Int))), none, none] [] w := by
                      intro m
                      induction m with
                      | zero => intros; exact absurd ‹_ < 0› (Nat.not_lt_zero _)
                      | succ m ih185 =>
                        intro e c3 b3 hc3 hb3 h7 h8
                        have hbr := hb3.rg
                        refine j_iload X dX10_cuts_185 rfl ?_
                        refine j_iconst X dX10_cuts_187 ?_
                        refine j_icmp_ge (tgt := 313) X dX10_cuts_188 (by decide) ⟨by omega, by omega⟩ ⟨by omega, by omega⟩ (fun h_188 => ?_) (fun h_188 => ?_)
                        · refine inc_9 X dX10_cuts_313 rfl ?_
                          refine j_goto (tgt := 175) X dX10_cuts_316 (by decide) ?_
                          refine fg_10 ?_
                          refine fg_11 ?_
                          refine fg_12 ?_
                          obtain rfl : e = 2 := by omega
                          exact ih175 (kk + 1) _ _ _ (by rw [sm_s, hc3, hc2]; omega) (cu_k hb3) (by omega) (by omega) (by omega)
                        · have he : e < 2 := by omega
                          have hcu := ctOk_is (N := 4 * n * n) (F := w 69) (S := S) (fun f hf => hF f (by omega)) hs he hkk hok
                          have hcu0 : ¬ (e : Int) = 1 → (x6 < (6 * ((kk : Int) - 24)) ∧ (6 * ((kk : Int) - 24)) < x7 ↔ cuO (4 * n * n) (w 69) S s e kk) := fun h => by have h9 := hcu; unfold ctOk at h9; rw [if_neg h] at h9; rw [e6, e7]; exact h9
                          have hcu1 : (e : Int) = 1 → (x8 < (6 * ((kk : Int) - 24)) ∧ (6 * ((kk : Int) - 24)) < x5 ↔ cuO (4 * n * n) (w 69) S s e kk) := fun h => by have h9 := hcu; unfold ctOk at h9; rw [if_pos h] at h9; rw [e8, e5]; exact h9
                          have hpk : (cutOk (4 * n * n) (w 69) S) (8 * kk + 2 * s + e) ↔ cuO (4 * n * n) (w 69) S s e kk := by
                            obtain ⟨t1, t2, t3⟩ := T_dec (kk := kk) hs he
                            show (_ ≤ _ ∧ _ ≤ _) ↔ _
                            rw [t1, t2, t3]
                          refine j_iload X dX10_cuts_191 rfl ?_
                          have C_250 : J κ LAY ad 0 0 250 [some (vR 54), some (vI (d : Int)), some (vI c3), some (vI b3), some (vI (s : Int)), some (vI (x5)), some (vI (x6)), some (vI (x7)), some (vI (x8)), some (vI ((kk : Int) - 24)), some (vI ((e : Int))), none, none] [vI (ib (cuO (4 * n * n) (w 69) S s e kk))] w := by
                            skip
                            refine s_11 X dX10_cuts_250 rfl ?_
                            refine j_bipush X dX10_cuts_252 (by decide +kernel) ?_
                            refine j_iload X dX10_cuts_254 rfl ?_
                            refine j_bipush X dX10_cuts_256 (by decide +kernel) ?_
                            refine j_isub X dX10_cuts_258 ?_
                            refine j_imul X dX10_cuts_259 ?_
                            refine j_iconst X dX10_cuts_260 ?_
                            refine j_iload X dX10_cuts_261 rfl ?_
                            refine j_imul X dX10_cuts_263 ?_
                            refine j_iadd X dX10_cuts_264 ?_
                            refine j_iload X dX10_cuts_265 rfl ?_
                            refine j_iadd X dX10_cuts_267 ?_
                            rw [show 8 * ((kk : Int) - 24 - -24) + 2 * (s : Int) + (e : Int) = ((8 * kk + 2 * s + e : Nat) : Int) by omega]
                            refine s_12 X dX10_cuts_268 rfl ?_
                            refine j_iload_n X dX10_cuts_270 rfl ?_
                            refine j_iload X dX10_cuts_271 rfl ?_
                            refine jb_eq (tgt := 280) X dX10_cuts_273 (by decide) (fun h_273 => ?_) (fun h_273 => ?_)
                            · refine j_iconst X dX10_cuts_280 ?_
                              refine j_iadd X dX10_cuts_281 ?_
                              refine s_2 X dX10_cuts_282 rfl ?_
                              refine j_iload X dX10_cuts_283 rfl ?_
                              refine jt_if_eq (tgt := 305) X dX10_cuts_285 (by decide) ib_rg (ib_f h_273) ?_
                              refine j_iload_n X dX10_cuts_305 rfl ?_
                              refine s_3 X dX10_cuts_306 rfl ?_
                              refine inc_10 X dX10_cuts_307 rfl ?_
                              refine j_goto (tgt := 185) X dX10_cuts_310 (by decide) ?_
                              refine fg_11 ?_
                              refine fg_12 ?_
                              exact ih185 (e + 1) _ _ (acc_f hc3 (ib_f h_273)) (cu_d hs hkk he (hb3.no (fun z => h_273 (hpk.mp z)))) (by omega) (by omega)
                            · refine j_iconst X dX10_cuts_276 ?_
                              refine j_goto (tgt := 281) X dX10_cuts_277 (by decide) ?_
                              refine j_iadd X dX10_cuts_281 ?_
                              refine s_2 X dX10_cuts_282 rfl ?_
                              refine j_iload X dX10_cuts_283 rfl ?_
                              refine jf_if_eq (tgt := 305) X dX10_cuts_285 (by decide) ib_rg (fun z => by rw [ib_t h_273] at z; exact absurd z (by decide)) ?_
                              refine j_iload_n X dX10_cuts_288 rfl ?_
                              refine j_ldc X dX10_cuts_289 kc_X10_135 ?_
                              refine j_icmp_eq (tgt := 300) X dX10_cuts_291 (by decide) ⟨by omega, by omega⟩ ⟨by omega, by omega⟩ (fun h_291 => ?_) (fun h_291 => ?_)
                              · refine j_iload X dX10_cuts_300 rfl ?_
                                refine j_goto (tgt := 306) X dX10_cuts_302 (by decide) ?_
                                refine s_3 X dX10_cuts_306 rfl ?_
                                refine inc_10 X dX10_cuts_307 rfl ?_
                                refine j_goto (tgt := 185) X dX10_cuts_310 (by decide) ?_
                                refine fg_11 ?_
                                refine fg_12 ?_
                                exact ih185 (e + 1) _ _ (acc_t hc3 (ib_t h_273)) (cu_d hs hkk he (hb3.take (hpk.mpr h_273) (by omega) (Or.inl (by omega)))) (by omega) (by omega)
                              · refine j_iload X dX10_cuts_294 rfl ?_
                                refine j_iload_n X dX10_cuts_296 rfl ?_
                                refine j_icmp_ge (tgt := 305) X dX10_cuts_297 (by decide) ⟨by omega, by omega⟩ ⟨by omega, by omega⟩ (fun h_297 => ?_) (fun h_297 => ?_)
                                · refine j_iload_n X dX10_cuts_305 rfl ?_
                                  refine s_3 X dX10_cuts_306 rfl ?_
                                  refine inc_10 X dX10_cuts_307 rfl ?_
                                  refine j_goto (tgt := 185) X dX10_cuts_310 (by decide) ?_
                                  refine fg_11 ?_
                                  refine fg_12 ?_
                                  exact ih185 (e + 1) _ _ (acc_t hc3 (ib_t h_273)) (cu_d hs hkk he (hb3.keep (by omega) (by omega))) (by omega) (by omega)
                                · refine j_iload X dX10_cuts_300 rfl ?_
                                  refine j_goto (tgt := 306) X dX10_cuts_302 (by decide) ?_
                                  refine s_3 X dX10_cuts_306 rfl ?_
                                  refine inc_10 X dX10_cuts_307 rfl ?_
                                  refine j_goto (tgt := 185) X dX10_cuts_310 (by decide) ?_
                                  refine fg_11 ?_
                                  refine fg_12 ?_
                                  exact ih185 (e + 1) _ _ (acc_t hc3 (ib_t h_273)) (cu_d hs hkk he (hb3.take (hpk.mpr h_273) (by omega) (Or.inr (by omega)))) (by omega) (by omega)
                          refine j_iconst X dX10_cuts_193 ?_
                          refine j_icmp_ne (tgt := 225) X dX10_cuts_194 (by decide) ⟨by omega, by omega⟩ ⟨by omega, by omega⟩ (fun h_194 => ?_) (fun h_194 => ?_)
                          · refine j_iload X dX10_cuts_225 rfl ?_
                            refine j_bipush X dX10_cuts_227 (by decide +kernel) ?_
                            refine j_iload X dX10_cuts_229 rfl ?_
                            refine j_imul X dX10_cuts_231 ?_
                            refine j_icmp_ge (tgt := 249) X dX10_cuts_232 (by decide) ⟨by omega, by omega⟩ ⟨by omega, by omega⟩ (fun h_232 => ?_) (fun h_232 => ?_)
                            · refine j_iconst X dX10_cuts_249 ?_
                              rw [ib_f (fun z => absurd ((hcu0 (by omega)).mpr z).1 (by omega))] at C_250
                              exact C_250
                            · refine j_bipush X dX10_cuts_235 (by decide +kernel) ?_
                              refine j_iload X dX10_cuts_237 rfl ?_
                              refine j_imul X dX10_cuts_239 ?_
                              refine j_iload X dX10_cuts_240 rfl ?_
                              refine j_icmp_ge (tgt := 249) X dX10_cuts_242 (by decide) ⟨by omega, by omega⟩ ⟨by omega, by omega⟩ (fun h_242 => ?_) (fun h_242 => ?_)
                              · refine j_iconst X dX10_cuts_249 ?_
                                rw [ib_f (fun z => absurd ((hcu0 (by omega)).mpr z).2 (by omega))] at C_250
                                exact C_250
                              · refine j_iconst X dX10_cuts_245 ?_
                                refine j_goto (tgt := 250) X dX10_cuts_246 (by decide) ?_
                                rw [ib_t ((hcu0 (by omega)).mp ⟨by omega, by omega⟩)] at C_250
                                exact C_250
                          · refine j_iload X dX10_cuts_197 rfl ?_
                            refine j_bipush X dX10_cuts_199 (by decide +kernel) ?_
                            refine j_iload X dX10_cuts_201 rfl ?_
                            refine j_imul X dX10_cuts_203 ?_
                            refine j_icmp_ge (tgt := 221) X dX10_cuts_204 (by decide) ⟨by omega, by omega⟩ ⟨by omega, by omega⟩ (fun h_204 => ?_) (fun h_204 => ?_)
                            · refine j_iconst X dX10_cuts_221 ?_
                              refine j_goto (tgt := 250) X dX10_cuts_222 (by decide) ?_
                              rw [ib_f (fun z => absurd ((hcu1 (by omega)).mpr z).1 (by omega))] at C_250
                              exact C_250
                            · refine j_bipush X dX10_cuts_207 (by decide +kernel) ?_
                              refine j_iload X dX10_cuts_209 rfl ?_
                              refine j_imul X dX10_cuts_211 ?_
                              refine j_iload X dX10_cuts_212 rfl ?_
                              refine j_icmp_ge (tgt := 221) X dX10_cuts_214 (by decide) ⟨by omega, by omega⟩ ⟨by omega, by omega⟩ (fun h_214 => ?_) (fun h_214 => ?_)
                              · refine j_iconst X dX10_cuts_221 ?_
                                refine j_goto (tgt := 250) X dX10_cuts_222 (by decide) ?_
                                rw [ib_f (fun z => absurd ((hcu1 (by omega)).mpr z).2 (by omega))] at C_250
                                exact C_250
                              · refine j_iconst X dX10_cuts_217 ?_
                                refine j_goto (tgt := 250) X dX10_cuts_218 (by decide) ?_
                                rw [ib_t ((hcu1 (by omega)).mp ⟨by omega, by omega⟩)] at C_250
                                exact C_250
                    exact L_185 3 0 c2 b2 (by rw [sm_0]; omega) hb2 (by omega) (by omega)
              refine fg_10 ?_
              exact L_175 74 0 c b _ (by rw [sm_0]; omega) hb0 (by omega) (by omega) (by omega)
            · have hf : f < 4 * n * n := by omega
              have hab := al_b (s := (s : Int)) ⟨by omega, by omega⟩ (hok f hf)
              obtain ⟨p1, p2, p3⟩ := hok f hf
              have h69b := hF f (by omega)
              have hrow := hS f hf
              have h71 : w 71 (144 * d + f) = (S f).1 := congrArg (fun p : pl => p.1) hrow
              have h72 : w 72 (144 * d + f) = (S f).2.1 := congrArg (fun p : pl => p.2.1) hrow
              have h73 : w 73 (144 * d + f) = (S f).2.2 := congrArg (fun p : pl => p.2.2) hrow
              refine j_iload X dX10_cuts_42 rfl ?_
              refine j_aload_n X dX10_cuts_44 rfl ?_
              refine j_getR X dX10_cuts_45 ff_X10_66 rfl rfl ?_
              refine j_sipush X dX10_cuts_48 (by decide +kernel) ?_
              refine j_iload_n X dX10_cuts_51 rfl ?_
              refine j_imul X dX10_cuts_52 ?_
              refine j_iload X dX10_cuts_53 rfl ?_
              refine j_iadd X dX10_cuts_55 ?_
              rw [c144]
              refine j_ialdk X dX10_cuts_56 rfl (by omega) (by decide) ?_
              rw [h71]
              refine j_aload_n X dX10_cuts_57 rfl ?_
              refine j_getR X dX10_cuts_58 ff_X10_69 rfl rfl ?_
              refine j_sipush X dX10_cuts_61 (by decide +kernel) ?_
              refine j_iload_n X dX10_cuts_64 rfl ?_
              refine j_imul X dX10_cuts_65 ?_
              refine j_iload X dX10_cuts_66 rfl ?_
              refine j_iadd X dX10_cuts_68 ?_
              rw [c144]
              refine j_ialdk X dX10_cuts_69 rfl (by omega) (by decide) ?_
              rw [h72]
              refine j_aload_n X dX10_cuts_70 rfl ?_
              refine j_getR X dX10_cuts_71 ff_X10_72 rfl rfl ?_
              refine j_sipush X dX10_cuts_74 (by decide +kernel) ?_
              refine j_iload_n X dX10_cuts_77 rfl ?_
              refine j_imul X dX10_cuts_78 ?_
              refine j_iload X dX10_cuts_79 rfl ?_
              refine j_iadd X dX10_cuts_81 ?_
              rw [c144]
              refine j_ialdk X dX10_cuts_82 rfl (by omega) (by decide) ?_
              rw [h73]
              refine cS4i X mf_X10_along ms_X10_along ml_X10_118 (by decide) (Nat.le_of_ble_eq_true rfl) dX10_cuts_83 (sp_X10_along ⟨by omega, by omega⟩ ⟨by omega, by omega⟩) (fun a_83 w_83 h_83 => ?_)
              obtain ⟨_, _⟩ := h_83
              subst a_83
              subst w_83
              rw [show alo (s : Int) (S f).1 (S f).2.1 (S f).2.2 = al (s : Int) (S f) from rfl]
              refine s_10 X dX10_cuts_86 rfl ?_
              refine j_aload_n X dX10_cuts_88 rfl ?_
              refine j_getR X dX10_cuts_89 ff_X10_60 rfl rfl ?_
              refine j_iload X dX10_cuts_92 rfl ?_
              refine j_zaldk X dX10_cuts_94 rfl (by omega) (by decide) ?_
              refine j_if_eq (tgt := 133) X dX10_cuts_95 (by decide) ⟨by omega, by omega⟩ (fun h_95 => ?_) (fun h_95 => ?_)
              · have h69 : ¬ w 69 f = 1 := by omega
                refine j_iload X dX10_cuts_133 rfl ?_
                have C_147 : J κ LAY ad 0 0 147 [some (vR 54), some (vI (d : Int)), some (vI c), some (vI b), some (vI (s : Int)), some (vI (x5)), some (vI (x6)), some (vI (x7)), some (vI (x8)), some (vI ((f : Int))), some (vI (al (s : Int) (S f))), none, none] [vI (min x7 (al (s : Int) (S f)))] w := by
                  skip
                  refine s_7 X dX10_cuts_147 rfl ?_
                  have C_163 : J κ LAY ad 0 0 163 [some (vR 54), some (vI (d : Int)), some (vI c), some (vI b), some (vI (s : Int)), some (vI (x5)), some (vI (x6)), some (vI (min x7 (al (s : Int) (S f)))), some (vI (x8)), some (vI ((f : Int))), some (vI (al (s : Int) (S f))), none, none] [vI (max x8 (al (s : Int) (S f)))] w := by
                    skip
                    refine s_8 X dX10_cuts_163 rfl ?_
                    refine inc_9 X dX10_cuts_165 rfl ?_
                    refine j_goto (tgt := 33) X dX10_cuts_168 (by decide) ?_
                    refine fg_10 ?_
                    exact ih33 (f + 1) _ _ _ _ (by simp only [loP, if_neg h69]; exact e5) (by simp only [hiP, if_neg h69]; exact e6) (by simp only [loP]; rw [if_pos h69, ← e7]) (by simp only [hiP]; rw [if_pos h69, ← e8]) (by omega) (by omega)
                  refine j_iload X dX10_cuts_149 rfl ?_
                  refine j_iload X dX10_cuts_151 rfl ?_
                  refine j_icmp_le (tgt := 161) X dX10_cuts_153 (by decide) ⟨by omega, by omega⟩ ⟨by omega, by omega⟩ (fun h_153 => ?_) (fun h_153 => ?_)
                  · refine j_iload X dX10_cuts_161 rfl ?_
                    rw [Int.max_eq_left (by omega)] at C_163
                    exact C_163
                  · refine j_iload X dX10_cuts_156 rfl ?_
                    refine j_goto (tgt := 163) X dX10_cuts_158 (by decide) ?_
                    rw [Int.max_eq_right (by omega)] at C_163
                    exact C_163
                refine j_iload X dX10_cuts_135 rfl ?_
                refine j_icmp_ge (tgt := 145) X dX10_cuts_137 (by decide) ⟨by omega, by omega⟩ ⟨by omega, by omega⟩ (fun h_137 => ?_) (fun h_137 => ?_)
                · refine j_iload X dX10_cuts_145 rfl ?_
                  rw [Int.min_eq_left (by omega)] at C_147
                  exact C_147
                · refine j_iload X dX10_cuts_140 rfl ?_
                  refine j_goto (tgt := 147) X dX10_cuts_142 (by decide) ?_
                  rw [Int.min_eq_right (by omega)] at C_147
                  exact C_147
              · have h69 : w 69 f = 1 := by omega
                refine j_iload X dX10_cuts_98 rfl ?_
                have C_112 : J κ LAY ad 0 0 112 [some (vR 54), some (vI (d : Int)), some (vI c), some (vI b), some (vI (s : Int)), some (vI (x5)), some (vI (x6)), some (vI (x7)), some (vI (x8)), some (vI ((f : Int))), some (vI (al (s : Int) (S f))), none, none] [vI (min x5 (al (s : Int) (S f)))] w := by
                  skip
                  refine s_5 X dX10_cuts_112 rfl ?_
                  have C_128 : J κ LAY ad 0 0 128 [some (vR 54), some (vI (d : Int)), some (vI c), some (vI b), some (vI (s : Int)), some (vI (min x5 (al (s : Int) (S f)))), some (vI (x6)), some (vI (x7)), some (vI (x8)), some (vI ((f : Int))), some (vI (al (s : Int) (S f))), none, none] [vI (max x6 (al (s : Int) (S f)))] w := by
                    skip
                    refine s_6 X dX10_cuts_128 rfl ?_
                    refine j_goto (tgt := 165) X dX10_cuts_130 (by decide) ?_
                    refine inc_9 X dX10_cuts_165 rfl ?_
                    refine j_goto (tgt := 33) X dX10_cuts_168 (by decide) ?_
                    refine fg_10 ?_
                    exact ih33 (f + 1) _ _ _ _ (by simp only [loP]; rw [if_pos h69, ← e5]) (by simp only [hiP]; rw [if_pos h69, ← e6]) (by simp only [loP]; rw [if_neg (fun z => z h69), ← e7]) (by simp only [hiP]; rw [if_neg (fun z => z h69), ← e8]) (by omega) (by omega)
                  refine j_iload X dX10_cuts_114 rfl ?_
                  refine j_iload X dX10_cuts_116 rfl ?_
                  refine j_icmp_le (tgt := 126) X dX10_cuts_118 (by decide) ⟨by omega, by omega⟩ ⟨by omega, by omega⟩ (fun h_118 => ?_) (fun h_118 => ?_)
                  · refine j_iload X dX10_cuts_126 rfl ?_
                    rw [Int.max_eq_left (by omega)] at C_128
                    exact C_128
                  · refine j_iload X dX10_cuts_121 rfl ?_
                    refine j_goto (tgt := 128) X dX10_cuts_123 (by decide) ?_
                    rw [Int.max_eq_right (by omega)] at C_128
                    exact C_128
                refine j_iload X dX10_cuts_100 rfl ?_
                refine j_icmp_ge (tgt := 110) X dX10_cuts_102 (by decide) ⟨by omega, by omega⟩ ⟨by omega, by omega⟩ (fun h_102 => ?_) (fun h_102 => ?_)
                · refine j_iload X dX10_cuts_110 rfl ?_
                  rw [Int.min_eq_left (by omega)] at C_112
                  exact C_112
                · refine j_iload X dX10_cuts_105 rfl ?_
                  refine j_goto (tgt := 112) X dX10_cuts_107 (by decide) ?_
                  rw [Int.min_eq_right (by omega)] at C_112
                  exact C_112
        exact L_33 (4 * n * n + 1) 0 _ _ _ _ rfl rfl rfl rfl (by omega) (by omega)
  exact L_8 5 0 0 (-99999) rfl cu_0 (by omega) (by omega)
