theorem CSt_pre {dep us2 sp2 : Nat} {u u2 : wd} {x : Int} (hd : dep ≤ 2) (hq : LQS dep u) (h2 : ∀ o, o ≠ 25 + dep → (o < 40 - 6 * dep ∨ 40 - 6 * dep + 5 < o) → u2 o = wst u 52 dep x o) (hL : LR u2 (25 + dep) (40 - 6 * dep) us2 sp2) : LQS (dep + 1) u2 ∧ u2 23 = u 23 ∧ u2 53 = u 53 ∧ LQ u2 (25 + dep) (40 - 6 * dep) := by
  refine ⟨hq.up.cong (fun o ho => ?_), by rw [h2 23 (by omega) (by omega)]; rfl, by rw [h2 53 (by omega) (by omega)]; rfl, hL.lq⟩
  rw [h2 o (by omega) (by omega)]
  have : ¬ o = 52 := by omega
  funext i
  simp [wst, this]
set_option maxHeartbeats 4000000 in
set_option maxRecDepth 20000 in
theorem sp_X6_lenW_3 {N g : Nat} {F : Nat → Int} {S : lys} {r : Nat → Int} {a : acT} {w : wd} (hN : 1 ≤ N) (hF : ∀ f, f < N → F f = 0 ∨ F f = 1) (hbx : BOX 20 N S) (hcn : CNS N F S) (hg : w 23 5 = (g : Int)) (hg3 : g ≤ 3) (hdg : 3 ≤ g) (h6 : w 23 6 = 0) (h7 : 0 ≤ w 23 7 ∧ w 23 7 ≤ 3000) (hrc : RcA g w a) (hrow : ∀ i, i < 3 → w 52 i = tl (r i)) (hq : LQS 3 w) (hbd : a.1 + 584 * cnt N F (g - 3) S ≤ 2000000000) (hrp : RpP 3 w N F S) (hrd : 3 < g → RpD 3 w N F S) : CalV yX6_lengthen cX6_lengthen 11 6 LAY w [vR 23, vR 27, vI 3] (fun w' => FRM 3 w w' ∧ LQS 3 w' ∧ w' 23 7 = w 23 7 ∧ RcA g w' (accD N F g (g - 3) S r a)) := by
  refine calV_intro (ls := [some (vR 23), some (vR 27), some (vI 3), none, none, none, none, none, none, none, none]) (by decide) (Nat.le_of_ble_eq_true rfl) rfl (fun κ ad X hR => ?_)
  refine j_aload_n X dX6_lengthen_0 rfl ?_
  refine j_getN X dX6_lengthen_1 ff_X6_77 rfl rfl ?_
  refine j_astore_nN (i := 3) X dX6_lengthen_4 rfl (by decide) rfl ?_
  refine j_iload_n X dX6_lengthen_5 rfl ?_
  refine j_aload_n X dX6_lengthen_6 rfl ?_
  refine j_getI X dX6_lengthen_7 ff_X6_66 rfl rfl ?_
  refine jt_icmp_ge (tgt := 17) X dX6_lengthen_10 (by decide) ⟨by omega, by omega⟩ ⟨by omega, by omega⟩ (by first | decide | omega) ?_
  refine j_aload_n X dX6_lengthen_17 rfl ?_
  refine j_aload_n X dX6_lengthen_18 rfl ?_
  refine cV1v X mf_X6_weigh mv_X6_weigh ml_X6_80 (by decide) rfl rfl (Nat.le_of_ble_eq_true rfl) dX6_lengthen_19 (sp_X6_weigh_27 (g := g) (by obtain ⟨us, sp, hL, _⟩ := hrp; exact hL.2.2.2.1) hg hg3 (by omega) (by have h1 := hrc.1; have h2 := hrc.2.1; have h3 := cnt_nn N F (g - 3) S; constructor <;> omega)) (fun w_19 h_19 => ?_)
  change _ = _ at h_19
  rw [if_pos h6] at h_19
  have hok := wei_ok (dep := 3) (by decide) (by omega) hrp hrc hrow hq
  simp only [show 46 - 6 * 3 = 28 from rfl] at hok
  rw [← h_19] at hok
  exact j_return X hR dX6_lengthen_22 ⟨hok.1, hok.2.1, hok.2.2.1, by rw [show g - 3 = 0 by omega]; exact hok.2.2.2⟩
set_option maxHeartbeats 4000000 in
set_option maxRecDepth 20000 in
theorem sp_X6_lenW_2 {N g : Nat} {F : Nat → Int} {S : lys} {r : Nat → Int} {a : acT} {w : wd} (hN : 1 ≤ N) (hF : ∀ f, f < N → F f = 0 ∨ F f = 1) (hbx : BOX 15 N S) (hcn : CNS N F S) (hg : w 23 5 = (g : Int)) (hg3 : g ≤ 3) (hdg : 2 ≤ g) (h6 : w 23 6 = 0) (h7 : 0 ≤ w 23 7 ∧ w 23 7 ≤ 3000) (hrc : RcA g w a) (hrow : ∀ i, i < 2 → w 52 i = tl (r i)) (hq : LQS 2 w) (hbd : a.1 + 584 * cnt N F (g - 2) S ≤ 2000000000) (hrp : RpP 2 w N F S) (hrd : 2 < g → RpD 2 w N F S) : CalV yX6_lengthen cX6_lengthen 11 7 LAY w [vR 23, vR 26, vI 2] (fun w' => FRM 2 w w' ∧ LQS 2 w' ∧ w' 23 7 = w 23 7 ∧ RcA g w' (accD N F g (g - 2) S r a)) := by
  refine calV_intro (ls := [some (vR 23), some (vR 26), some (vI 2), none, none, none, none, none, none, none, none]) (by decide) (Nat.le_of_ble_eq_true rfl) rfl (fun κ ad X hR => ?_)
  refine j_aload_n X dX6_lengthen_0 rfl ?_
  refine j_getR X dX6_lengthen_1 ff_X6_77 rfl rfl ?_
  refine sa_3 X dX6_lengthen_4 rfl ?_
  refine j_iload_n X dX6_lengthen_5 rfl ?_
  refine j_aload_n X dX6_lengthen_6 rfl ?_
  refine j_getI X dX6_lengthen_7 ff_X6_66 rfl rfl ?_
  refine j_icmp_ge (tgt := 17) X dX6_lengthen_10 (by decide) ⟨by omega, by omega⟩ ⟨by omega, by omega⟩ (fun h_10 => ?_) (fun h_10 => ?_)
  · refine j_aload_n X dX6_lengthen_17 rfl ?_
    refine j_aload_n X dX6_lengthen_18 rfl ?_
    refine cV1v X mf_X6_weigh mv_X6_weigh ml_X6_80 (by decide) rfl rfl (Nat.le_of_ble_eq_true rfl) dX6_lengthen_19 (sp_X6_weigh_26 (g := g) (by obtain ⟨us, sp, hL, _⟩ := hrp; exact hL.2.2.2.1) hg hg3 (by omega) (by have h1 := hrc.1; have h2 := hrc.2.1; have h3 := cnt_nn N F (g - 2) S; constructor <;> omega)) (fun w_19 h_19 => ?_)
    change _ = _ at h_19
    rw [if_pos h6] at h_19
    have hok := wei_ok (dep := 2) (by decide) (by omega) hrp hrc hrow hq
    simp only [show 46 - 6 * 2 = 34 from rfl] at hok
    rw [← h_19] at hok
    exact j_return X hR dX6_lengthen_22 ⟨hok.1, hok.2.1, hok.2.2.1, by rw [show g - 2 = 0 by omega]; exact hok.2.2.2⟩
  · refine j_aload_n X dX6_lengthen_13 rfl ?_
    refine j_ifnonnull (tgt := 23) X dX6_lengthen_14 (by decide) ?_
    obtain ⟨us, sp, hL, hA, hB⟩ := hrd (by omega)
    simp only [show 24 + 2 = 26 from rfl, show 46 - 6 * 2 = 34 from rfl] at hL hA hB
    have hzw : LzO w 34 := hL.2.2.2.1
    obtain ⟨rem, hrem⟩ : ∃ rem, g = rem + 1 + 2 := ⟨g - 1 - 2, by omega⟩
    refine j_iload_n X dX6_lengthen_23 rfl ?_
    have C_38 : ∀ l : Int, (l = 0 ∨ l = 1) → (l = 1 → 2 + 1 = g) → (l = 0 → 2 + 1 ≠ g) → J κ LAY ad 0 0 38 [some (vR 23), some (vR 26), some (vI 2), some (vR 27), none, none, none, none, none, none, none] [vI l] w := by
      intro l hl01 hl1 hl0
      refine s_4 X dX6_lengthen_38 rfl ?_
      have hlf := fl_rg hzw 4 (by decide)
      have hft := fst_le hF hN hbx hL hB
      refine j_aload_n X dX6_lengthen_40 rfl ?_
      refine cV0i X mf_X2_lastStrip mv_X2_lastStrip ml_X6_83 (by decide) rfl rfl (Nat.le_of_ble_eq_true rfl) dX6_lengthen_41 (sp_X2_lastStrip_26 hzw) (fun a_41 w_41 h_41 => ?_)
      obtain ⟨_, _⟩ := h_41
      subst a_41
      subst w_41
      refine j_bipush X dX6_lengthen_44 (by decide +kernel) ?_
      refine j_mmin X csOk_0 mt_X6_89 (by decide) (Nat.le_of_ble_eq_true rfl) dX6_lengthen_46 ⟨by omega, by omega⟩ ⟨by omega, by omega⟩ ?_
      refine s_5 X dX6_lengthen_49 rfl ?_
      refine j_aload_n X dX6_lengthen_51 rfl ?_
      refine cV0i X mf_X2_firstStrip mv_X2_firstStrip ml_X6_95 (by decide) rfl rfl (Nat.le_of_ble_eq_true rfl) dX6_lengthen_52 (sp_X2_firstStrip_26 hzw) (fun a_52 w_52 h_52 => ?_)
      obtain ⟨_, _⟩ := h_52
      subst a_52
      subst w_52
      refine j_iconst X dX6_lengthen_55 ?_
      refine j_iadd X dX6_lengthen_56 ?_
      refine j_bipush X dX6_lengthen_57 (by decide +kernel) ?_
      refine j_mmax X csOk_0 mt_X6_98 (by decide) (Nat.le_of_ble_eq_true rfl) dX6_lengthen_59 ⟨by omega, by omega⟩ ⟨by omega, by omega⟩ ?_
      refine s_6 X dX6_lengthen_62 rfl ?_
      have L_64 : ∀ (m : Nat) (kk : Nat) (u : wd) (_ : WS 2 g rem N F S r a w (8 * kk) u) (_ : kk ≤ 73) (_ : 73 - kk < m), J κ LAY ad 0 0 64 [some (vR 23), some (vR 26), some (vI 2), some (vR 27), some (vI l), some (vI (min (lstP w 34 4) 48)), some (vI ((kk : Int) - 24)), none, none, none, none] [] u := by
        intro m
        induction m with
        | zero => intro kk u hW h1 h2; exact absurd h2 (Nat.not_lt_zero _)
        | succ m ih64 =>
          intro kk u hW h1 h2
          refine j_iload X dX6_lengthen_64 rfl ?_
          refine j_iload X dX6_lengthen_66 rfl ?_
          refine j_icmp_gt (tgt := 237) X dX6_lengthen_68 (by decide) ⟨by omega, by omega⟩ ⟨by omega, by omega⟩ (fun h_68 => ?_) (fun h_68 => ?_)
          · exact j_return X hR dX6_lengthen_237 (by
              have hfin := hW.skip (584 - 8 * kk) (fun t q1 q2 => no_lo hF hL hA hB (by omega) (Or.inr (by unfold tK; omega)))
              rw [show 8 * kk + (584 - 8 * kk) = 584 by omega] at hfin
              refine ⟨hfin.1, hfin.2.1, hfin.2.2.1, ?_⟩
              rw [show g - 2 = rem + 1 by omega, accD_s (dep := 2) (by omega)]
              exact hfin.2.2.2)
          · refine j_iconst X dX6_lengthen_71 ?_
            refine s_7 X dX6_lengthen_72 rfl ?_
            have L_74 : ∀ (m : Nat) (s : Nat) (u : wd) (_ : WS 2 g rem N F S r a w (8 * kk + 2 * s) u) (_ : s ≤ 4) (_ : 4 - s < m), J κ LAY ad 0 0 74 [some (vR 23), some (vR 26), some (vI 2), some (vR 27), some (vI l), some (vI (min (lstP w 34 4) 48)), some (vI ((kk : Int) - 24)), some (vI (s : Int)), none, none, none] [] u := by
              intro m
              induction m with
              | zero => intro s u hW h3 h4; exact absurd h4 (Nat.not_lt_zero _)
              | succ m ih74 =>
                intro s u hW h3 h4
                obtain ⟨hLu, hAu, hBu⟩ := FRM.rep (dep := 2) (by decide) hW.1 hL hA hB
                simp only [show 24 + 2 = 26 from rfl, show 46 - 6 * 2 = 34 from rfl] at hLu hAu hBu
                have hz : LzO u 34 := hLu.2.2.2.1
                have hu7 : 0 ≤ u 23 7 ∧ u 23 7 ≤ 3000 := by rw [hW.2.2.1]; exact h7
                have hu6 : u 23 6 = 0 := by rw [hW.1.2.1 6 (by decide) (by decide)]; exact h6
                have hu5 : u 23 5 = (g : Int) := by rw [hW.1.2.1 5 (by decide) (by decide)]; exact hg
                refine j_iload X dX6_lengthen_74 rfl ?_
                refine j_iconst X dX6_lengthen_76 ?_
                refine j_icmp_ge (tgt := 231) X dX6_lengthen_77 (by decide) ⟨by omega, by omega⟩ ⟨by omega, by omega⟩ (fun h_77 => ?_) (fun h_77 => ?_)
                · refine inc_6 X dX6_lengthen_231 rfl ?_
                  refine j_goto (tgt := 64) X dX6_lengthen_234 (by decide) ?_
                  refine fg_7 ?_
                  rw [show (kk : Int) - 24 + 1 = ((kk + 1 : Nat) : Int) - 24 by omega]
                  exact ih64 (kk + 1) u (by rw [show 8 * (kk + 1) = 8 * kk + 2 * s by omega]; exact hW) (by omega) (by omega)
                · have C_117 : ∀ v : Int, (v = 0 ∨ v = 1) → (v = 1 → goK N F S s ((kk : Int) - 24)) → (v = 0 → 3000 < u 23 7 ∨ ¬ goK N F S s ((kk : Int) - 24)) → J κ LAY ad 0 0 117 [some (vR 23), some (vR 26), some (vI 2), some (vR 27), some (vI l), some (vI (min (lstP w 34 4) 48)), some (vI ((kk : Int) - 24)), some (vI (s : Int)), none, none, none] [vI v] u := by
                    intro v hv01 hv1 hv0
                    refine s_8 X dX6_lengthen_117 rfl ?_
                    have C_141 : ∀ c : Int, (c = 0 ∨ c = 1) → (c = 1 → False) → (c = 0 → True) → J κ LAY ad 0 0 141 [some (vR 23), some (vR 26), some (vI 2), some (vR 27), some (vI l), some (vI (min (lstP w 34 4) 48)), some (vI ((kk : Int) - 24)), some (vI (s : Int)), some (vI v), none, none] [vI c] u := by
                      intro c hc01 hc1 hc0
                      have hcz : c = 0 := hc01.elim id (fun z => (hc1 z).elim)
                      refine s_9 X dX6_lengthen_141 rfl ?_
                      refine j_aload_n X dX6_lengthen_143 rfl ?_
                      refine j_dup X dX6_lengthen_144 (fun _ h => by cases h) ?_
                      refine j_getI X dX6_lengthen_145 ff_X6_39 rfl rfl ?_
                      refine j_iload X dX6_lengthen_148 rfl ?_
                      refine jt_if_eq (tgt := 157) X dX6_lengthen_150 (by decide) ⟨by omega, by omega⟩ (by first | decide | omega) ?_
                      refine j_iconst X dX6_lengthen_157 ?_
                      refine j_iadd X dX6_lengthen_158 ?_
                      refine j_putI X dX6_lengthen_159 fp_X6_39 rfl rfl ?_
                      rw [wst_add0]
                      refine j_iconst X dX6_lengthen_162 ?_
                      refine s_10 X dX6_lengthen_163 rfl ?_
                      have L_165 : ∀ (m : Nat) (dd : Nat) (u2 : wd) (_ : WS 2 g rem N F S r a w (8 * kk + 2 * s + dd) u2) (_ : dd ≤ 2) (_ : 2 - dd < m), J κ LAY ad 0 0 165 [some (vR 23), some (vR 26), some (vI 2), some (vR 27), some (vI l), some (vI (min (lstP w 34 4) 48)), some (vI ((kk : Int) - 24)), some (vI (s : Int)), some (vI v), some (vI c), some (vI (dd : Int))] [] u2 := by
                        intro m
                        induction m with
                        | zero => intro dd u2 hW2 h5 h6b; exact absurd h6b (Nat.not_lt_zero _)
                        | succ m ih165 =>
                          intro dd u2 hW2 h5 h6b
                          refine j_iload X dX6_lengthen_165 rfl ?_
                          refine j_iconst X dX6_lengthen_167 ?_
                          refine j_icmp_ge (tgt := 225) X dX6_lengthen_168 (by decide) ⟨by omega, by omega⟩ ⟨by omega, by omega⟩ (fun h_168 => ?_) (fun h_168 => ?_)
                          · refine inc_7 X dX6_lengthen_225 rfl ?_
                            refine j_goto (tgt := 74) X dX6_lengthen_228 (by decide) ?_
                            refine fg_8 ?_
                            refine fg_9 ?_
                            refine fg_10 ?_
                            exact ih74 (s + 1) u2 (by rw [show 8 * kk + 2 * (s + 1) = 8 * kk + 2 * s + dd by omega]; exact hW2) (by omega) (by omega)
                          · refine j_iload X dX6_lengthen_171 rfl ?_
                            refine j_if_eq (tgt := 225) X dX6_lengthen_173 (by decide) ⟨by omega, by omega⟩ (fun h_173 => ?_) (fun h_173 => ?_)
                            · refine inc_7 X dX6_lengthen_225 rfl ?_
                              refine j_goto (tgt := 74) X dX6_lengthen_228 (by decide) ?_
                              refine fg_8 ?_
                              refine fg_9 ?_
                              refine fg_10 ?_
                              exact ih74 (s + 1) u2 (by
                                have q : ¬ goK N F S s ((kk : Int) - 24) := (hv0 (by omega)).elim (fun z => absurd z (by omega)) id
                                have h9 := hW2.skip (2 - dd) (fun t q1 q2 z => by
                                  obtain ⟨d9, hd9, hd8⟩ : ∃ d9 : Nat, t = 8 * kk + 2 * s + d9 ∧ d9 < 2 := ⟨t - (8 * kk + 2 * s), by omega, by omega⟩
                                  rw [hd9] at z
                                  exact q ((goS_K (by omega) hd8).mp z))
                                rw [show 8 * kk + 2 * (s + 1) = 8 * kk + 2 * s + dd + (2 - dd) by omega]
                                exact h9) (by omega) (by omega)
                            · refine j_iload X dX6_lengthen_176 rfl ?_
                              refine jf_if_ne (tgt := 225) X dX6_lengthen_178 (by decide) ⟨by omega, by omega⟩ (by first | decide | omega) ?_
                              refine j_aload_n X dX6_lengthen_181 rfl ?_
                              refine j_getR X dX6_lengthen_182 ff_X6_20 rfl rfl ?_
                              refine j_iload_n X dX6_lengthen_185 rfl ?_
                              refine j_iload X dX6_lengthen_186 rfl ?_
                              refine j_iload X dX6_lengthen_188 rfl ?_
                              refine j_iload X dX6_lengthen_190 rfl ?_
                              refine cS3i X mf_X6_tell ms_X6_tell ml_X6_108 (by decide) (Nat.le_of_ble_eq_true rfl) dX6_lengthen_192 (sp_X6_tell) (fun a_192 w_192 h_192 => ?_)
                              obtain ⟨_, _⟩ := h_192
                              subst a_192
                              subst w_192
                              refine cS3v X mf_X5_put ms_X5_put ml_X6_112 (by decide) (Nat.le_of_ble_eq_true rfl) dX6_lengthen_195 (sp_putk (k := 2) rfl (by decide) (by decide)) (fun w_195 h_195 => ?_)
                              change _ = _ at h_195
                              subst w_195
                              have hc9 : True := trivial
                              obtain ⟨hLv, hAv, hBv⟩ := FRM.rep (dep := 2) (by decide) hW2.1 hL hA hB
                              simp only [show 24 + 2 = 26 from rfl, show 46 - 6 * 2 = 34 from rfl] at hLv hAv hBv
                              have hgk : goK N F S s ((kk : Int) - 24) := hv1 (by omega)
                              have hgo : goS N F S (8 * kk + 2 * s + dd) := (goS_K (by omega) (by omega)).mpr hgk
                              have hbx2 : BOX (15 + 5) N (trS S (s : Int) ((kk : Int) - 24) (dd : Int)) := hbx.trk (by omega) (by omega) hgk.1
                              have hcn2 : CNS N F (trS S (s : Int) ((kk : Int) - 24) (dd : Int)) := hcn.trk hbx (by omega) hgk.2
                              have enx : nxS S (8 * kk + 2 * s + dd) = trS S (s : Int) ((kk : Int) - 24) (dd : Int) := by
                                obtain ⟨t1, t2, t3⟩ := T_dec (kk := kk) (s := s) (d := dd) (by omega) (by omega)
                                unfold nxS
                                rw [t1, t2, t3]
                              have etl : 1000 + 100 * ((kk : Int) - 24) + 10 * (s : Int) + (dd : Int) = tl (((8 * kk + 2 * s + dd) : Nat) : Int) := by
                                obtain ⟨t1, t2, t3⟩ := T_dec (kk := kk) (s := s) (d := dd) (by omega) (by omega)
                                rw [tl_tell, t1, t2, t3]
                              rw [etl]
                              obtain ⟨us9, sp9, hu9, hus9, hK9⟩ := hW2.2.1 3 (by decide) (by decide)
                              simp only [show 24 + 3 = 27 from rfl, show 46 - 6 * 3 = 28 from rfl] at hu9 hK9
                              refine j_aload_n X dX6_lengthen_198 rfl ?_
                              refine j_aload_n X dX6_lengthen_199 rfl ?_
                              refine j_iload X dX6_lengthen_200 rfl ?_
                              refine j_iload X dX6_lengthen_202 rfl ?_
                              refine j_iload X dX6_lengthen_204 rfl ?_
                              refine j_iload X dX6_lengthen_206 rfl ?_
                              refine cV5v X mf_X2_turnInto mv_X2_turnInto ml_X6_116 (by decide) rfl rfl (Nat.le_of_ble_eq_true rfl) dX6_lengthen_208 (sp_X2_turnInto_26 (w := wst u2 52 2 (tl (((8 * kk + 2 * s + dd) : Nat) : Int))) (us := us) (sp := sp) (us9 := us9) (sp9 := sp9) (N := N) (s := s) (d := dd) (F := F) (S := S) (R := 15) (LR.cong (w := u2) (w' := wst u2 52 2 (tl (((8 * kk + 2 * s + dd) : Nat) : Int))) rfl (fun j hj => by rcases (by omega : j = 0 ∨ j = 1 ∨ j = 2 ∨ j = 3 ∨ j = 4 ∨ j = 5) with rfl | rfl | rfl | rfl | rfl | rfl <;> rfl) hLv) ((EAB.cong (w := u2) (w' := wst u2 52 2 (tl (((8 * kk + 2 * s + dd) : Nat) : Int))) rfl (fun j hj => by rcases (by omega : j = 0 ∨ j = 1 ∨ j = 2 ∨ j = 3 ∨ j = 4 ∨ j = 5) with rfl | rfl | rfl | rfl | rfl | rfl <;> rfl)).1 hAv) ((EAB.cong (w := u2) (w' := wst u2 52 2 (tl (((8 * kk + 2 * s + dd) : Nat) : Int))) rfl (fun j hj => by rcases (by omega : j = 0 ∨ j = 1 ∨ j = 2 ∨ j = 3 ∨ j = 4 ∨ j = 5) with rfl | rfl | rfl | rfl | rfl | rfl <;> rfl)).2.1 hBv) hbx ⟨by decide, by decide⟩ hgk.1 hcn2 (by omega) (by omega) ⟨by omega, by omega⟩ hl01 hu9 hus9 hK9) (fun w_208 h_208 => ?_)
                              obtain ⟨us2, sp2, hL2, hA2, hB2, hfr2⟩ := h_208
                              obtain ⟨p1, p2, p3, p4, p5⟩ := WS_pre (dep := 2) (r := r) (T := (8 * kk + 2 * s + dd)) (by decide) hW2.1 hW2.2.1 hrow hfr2 hL2
                              have hv5 : w_208 23 5 = (g : Int) := by rw [p3, hW2.1.2.1 5 (by decide) (by decide)]; exact hg
                              have hv6 : w_208 23 6 = 0 := by rw [p3, hW2.1.2.1 6 (by decide) (by decide)]; exact h6
                              refine j_aload_n X dX6_lengthen_211 rfl ?_
                              refine j_aload_n X dX6_lengthen_212 rfl ?_
                              refine j_iload_n X dX6_lengthen_213 rfl ?_
                              refine j_iconst X dX6_lengthen_214 ?_
                              refine j_iadd X dX6_lengthen_215 ?_
                              rw [show (2 : Int) + 1 = 3 from rfl]
                              refine cS3v X mf_X6_lengthen ms_X6_lengthen ml_X6_73 (by decide) (Nat.le_of_ble_eq_true rfl) dX6_lengthen_216 (sp_X6_lenW_3 (N := N) (g := g) (F := F) (S := nxS S (8 * kk + 2 * s + dd)) (r := w1 r 2 (8 * kk + 2 * s + dd)) (a := loopT (stepW N F g rem 2 S r) (8 * kk + 2 * s + dd) a) hN hF (by rw [enx]; exact hbx2) (by rw [enx]; exact hcn2) hv5 hg3 (by omega) hv6 (by rw [p3, hW2.2.2.1]; exact h7) (hW2.2.2.2.cong (by rw [p3]) p4) p2 p1 (by
                                  rw [show g - 3 = rem by omega]
                                  have hb1 := (stepW_rg N F g rem 2 S r a (8 * kk + 2 * s + dd)).2
                                  have hb2 := sm_mono (f := cfn N F rem S) (cfn_nn N F rem S) (n := (8 * kk + 2 * s + dd) + 1) (m := 584) (by omega)
                                  rw [sm_s, show cfn N F rem S (8 * kk + 2 * s + dd) = cnt N F rem (nxS S (8 * kk + 2 * s + dd)) from if_pos hgo] at hb2
                                  rw [show g - 2 = rem + 1 by omega, cnt_s] at hbd
                                  omega) (by
                                  rw [enx]
                                  refine ⟨us2, sp2, hL2, hA2, ?_⟩
                                  rcases hB2 with z | z
                                  · exact Or.inl z
                                  · exact Or.inr z.2) (fun z => by
                                  rw [enx]
                                  refine ⟨us2, sp2, hL2, hA2, ?_⟩
                                  rcases hB2 with z2 | z2
                                  · exact z2
                                  · have := hl1 z2.1
                                    omega)) (fun w_216 h_216 => ?_)
                              have hW3 := WS_go (dep := 2) (by decide) hW2 hgo hfr2 h_216.1 h_216.2.1 p5 h_216.2.2.1 (by rw [show g - 3 = rem by omega] at h_216; exact h_216.2.2.2)
                              refine inc_10 X dX6_lengthen_219 rfl ?_
                              refine j_goto (tgt := 165) X dX6_lengthen_222 (by decide) ?_
                              exact ih165 (dd + 1) _ hW3 (by omega) (by omega)
                      exact L_165 3 0 u hW (by omega) (by omega)
                    refine j_iload X dX6_lengthen_119 rfl ?_
                    refine j_if_eq (tgt := 140) X dX6_lengthen_121 (by decide) ⟨by omega, by omega⟩ (fun h_121 => ?_) (fun h_121 => ?_)
                    · refine j_iconst X dX6_lengthen_140 ?_
                      exact C_141 0 (Or.inl rfl) (fun z => absurd z (by decide)) (fun _ => trivial)
                    · refine j_iload X dX6_lengthen_124 rfl ?_
                      refine j_if_eq (tgt := 140) X dX6_lengthen_126 (by decide) ⟨by omega, by omega⟩ (fun h_126 => ?_) (fun h_126 => ?_)
                      · refine j_iconst X dX6_lengthen_140 ?_
                        exact C_141 0 (Or.inl rfl) (fun z => absurd z (by decide)) (fun _ => trivial)
                      · refine j_aload_n X dX6_lengthen_129 rfl ?_
                        refine j_getI X dX6_lengthen_130 ff_X6_69 rfl rfl ?_
                        refine jt_if_eq (tgt := 140) X dX6_lengthen_133 (by decide) ⟨by omega, by omega⟩ (by first | decide | omega) ?_
                        refine j_iconst X dX6_lengthen_140 ?_
                        exact C_141 0 (Or.inl rfl) (fun z => absurd z (by decide)) (fun _ => trivial)
                  refine j_aload_n X dX6_lengthen_80 rfl ?_
                  refine j_getI X dX6_lengthen_81 ff_X6_39 rfl rfl ?_
                  refine j_sipush X dX6_lengthen_84 (by decide +kernel) ?_
                  refine jf_icmp_gt (tgt := 116) X dX6_lengthen_87 (by decide) ⟨by omega, by omega⟩ ⟨by omega, by omega⟩ (by first | decide | omega) ?_
                  have hk9 : -24 ≤ (kk : Int) - 24 ∧ (kk : Int) - 24 ≤ 48 := by omega
                  refine j_aload_n X dX6_lengthen_90 rfl ?_
                  refine j_iload X dX6_lengthen_91 rfl ?_
                  refine j_iload X dX6_lengthen_93 rfl ?_
                  refine cV2i X mf_X2_isCrossed mv_X2_isCrossed ml_X6_101 (by decide) rfl rfl (Nat.le_of_ble_eq_true rfl) dX6_lengthen_95 (sp_X2_isCrossed_26 hz (by omega) ⟨by omega, by omega⟩) (fun a_95 w_95 h_95 => ?_)
                  obtain ⟨_, _⟩ := h_95
                  subst a_95
                  subst w_95
                  refine jb_eq (tgt := 116) X dX6_lengthen_98 (by decide) (fun h_98 => ?_) (fun h_98 => ?_)
                  · refine j_iconst X dX6_lengthen_116 ?_
                    exact C_117 0 (Or.inl rfl) (fun z => absurd z (by decide)) (fun _ => Or.inr (fun z => h_98 ((crs_is hF hLu hAu hBu (by omega) (by omega)).mpr z.1)))
                  · have hcr9 : crS N S (s : Int) ((kk : Int) - 24) := (crs_is hF hLu hAu hBu (by omega) (by omega)).mp h_98
                    refine j_aload_n X dX6_lengthen_101 rfl ?_
                    refine j_iload X dX6_lengthen_102 rfl ?_
                    refine j_iload X dX6_lengthen_104 rfl ?_
                    refine cV2i X mf_X2_fits mv_X2_fits ml_X6_105 (by decide) rfl rfl (Nat.le_of_ble_eq_true rfl) dX6_lengthen_106 (sp_X2_fits_26 (sp := sp) (us := us) hLu.1.1 hLu.1.2.1 hLu.1.2.2.1 hLu.1.2.2.2.1 hLu.1.2.2.2.2 hLu.2.1.1 ⟨by omega, by omega⟩) (fun a_106 w_106 h_106 => ?_)
                    obtain ⟨_, _⟩ := h_106
                    subst a_106
                    subst w_106
                    refine jb_eq (tgt := 116) X dX6_lengthen_109 (by decide) (fun h_109 => ?_) (fun h_109 => ?_)
                    · refine j_iconst X dX6_lengthen_116 ?_
                      exact C_117 0 (Or.inl rfl) (fun z => absurd z (by decide)) (fun _ => Or.inr (fun z => h_109 ((fit_is hF hbx hLu hAu hBu (by omega) hcr9).mpr z.2)))
                    · refine j_iconst X dX6_lengthen_112 ?_
                      refine j_goto (tgt := 117) X dX6_lengthen_113 (by decide) ?_
                      exact C_117 1 (Or.inr rfl) (fun _ => ⟨hcr9, (fit_is hF hbx hLu hAu hBu (by omega) hcr9).mp h_109⟩) (fun z => absurd z (by decide))
            exact L_74 5 0 u hW (by omega) (by omega)
      obtain ⟨kk0, hkk, hkk2⟩ : ∃ kk0 : Nat, max (fstP w 34 4 + 1) (-24) = (kk0 : Int) - 24 ∧ kk0 ≤ 73 := ⟨(max (fstP w 34 4 + 1) (-24) + 24).toNat, by omega, by omega⟩
      rw [hkk]
      exact L_64 74 kk0 w (by have h0 := (WS_0 (rem := rem) (r := r) hq hrc).skip (8 * kk0) (fun t _ ht => no_lo hF hL hA hB (by omega) (Or.inl (by unfold tK; omega))); rw [Nat.zero_add] at h0; exact h0) hkk2 (by omega)
    refine j_iconst X dX6_lengthen_24 ?_
    refine j_iadd X dX6_lengthen_25 ?_
    refine j_aload_n X dX6_lengthen_26 rfl ?_
    refine j_getI X dX6_lengthen_27 ff_X6_66 rfl rfl ?_
    refine j_icmp_ne (tgt := 37) X dX6_lengthen_30 (by decide) ⟨by omega, by omega⟩ ⟨by omega, by omega⟩ (fun h_30 => ?_) (fun h_30 => ?_)
    · refine j_iconst X dX6_lengthen_37 ?_
      exact C_38 0 (Or.inl rfl) (fun z => absurd z (by decide)) (fun _ => by omega)
    · refine j_iconst X dX6_lengthen_33 ?_
      refine j_goto (tgt := 38) X dX6_lengthen_34 (by decide) ?_
      exact C_38 1 (Or.inr rfl) (fun _ => by omega) (fun z => absurd z (by decide))
set_option maxHeartbeats 4000000 in
set_option maxRecDepth 20000 in
theorem sp_X6_lenW_1 {N g : Nat} {F : Nat → Int} {S : lys} {r : Nat → Int} {a : acT} {w : wd} (hN : 1 ≤ N) (hF : ∀ f, f < N → F f = 0 ∨ F f = 1) (hbx : BOX 10 N S) (hcn : CNS N F S) (hg : w 23 5 = (g : Int)) (hg3 : g ≤ 3) (hdg : 1 ≤ g) (h6 : w 23 6 = 0) (h7 : 0 ≤ w 23 7 ∧ w 23 7 ≤ 3000) (hrc : RcA g w a) (hrow : ∀ i, i < 1 → w 52 i = tl (r i)) (hq : LQS 1 w) (hbd : a.1 + 584 * cnt N F (g - 1) S ≤ 2000000000) (hrp : RpP 1 w N F S) (hrd : 1 < g → RpD 1 w N F S) : CalV yX6_lengthen cX6_lengthen 11 8 LAY w [vR 23, vR 25, vI 1] (fun w' => FRM 1 w w' ∧ LQS 1 w' ∧ w' 23 7 = w 23 7 ∧ RcA g w' (accD N F g (g - 1) S r a)) := by
  refine calV_intro (ls := [some (vR 23), some (vR 25), some (vI 1), none, none, none, none, none, none, none, none]) (by decide) (Nat.le_of_ble_eq_true rfl) rfl (fun κ ad X hR => ?_)
  refine j_aload_n X dX6_lengthen_0 rfl ?_
  refine j_getR X dX6_lengthen_1 ff_X6_77 rfl rfl ?_
  refine sa_3 X dX6_lengthen_4 rfl ?_
  refine j_iload_n X dX6_lengthen_5 rfl ?_
  refine j_aload_n X dX6_lengthen_6 rfl ?_
  refine j_getI X dX6_lengthen_7 ff_X6_66 rfl rfl ?_
  refine j_icmp_ge (tgt := 17) X dX6_lengthen_10 (by decide) ⟨by omega, by omega⟩ ⟨by omega, by omega⟩ (fun h_10 => ?_) (fun h_10 => ?_)
  · refine j_aload_n X dX6_lengthen_17 rfl ?_
    refine j_aload_n X dX6_lengthen_18 rfl ?_
    refine cV1v X mf_X6_weigh mv_X6_weigh ml_X6_80 (by decide) rfl rfl (Nat.le_of_ble_eq_true rfl) dX6_lengthen_19 (sp_X6_weigh_25 (g := g) (by obtain ⟨us, sp, hL, _⟩ := hrp; exact hL.2.2.2.1) hg hg3 (by omega) (by have h1 := hrc.1; have h2 := hrc.2.1; have h3 := cnt_nn N F (g - 1) S; constructor <;> omega)) (fun w_19 h_19 => ?_)
    change _ = _ at h_19
    rw [if_pos h6] at h_19
    have hok := wei_ok (dep := 1) (by decide) (by omega) hrp hrc hrow hq
    simp only [show 46 - 6 * 1 = 40 from rfl] at hok
    rw [← h_19] at hok
    exact j_return X hR dX6_lengthen_22 ⟨hok.1, hok.2.1, hok.2.2.1, by rw [show g - 1 = 0 by omega]; exact hok.2.2.2⟩
  · refine j_aload_n X dX6_lengthen_13 rfl ?_
    refine j_ifnonnull (tgt := 23) X dX6_lengthen_14 (by decide) ?_
    obtain ⟨us, sp, hL, hA, hB⟩ := hrd (by omega)
    simp only [show 24 + 1 = 25 from rfl, show 46 - 6 * 1 = 40 from rfl] at hL hA hB
    have hzw : LzO w 40 := hL.2.2.2.1
    obtain ⟨rem, hrem⟩ : ∃ rem, g = rem + 1 + 1 := ⟨g - 1 - 1, by omega⟩
    refine j_iload_n X dX6_lengthen_23 rfl ?_
    have C_38 : ∀ l : Int, (l = 0 ∨ l = 1) → (l = 1 → 1 + 1 = g) → (l = 0 → 1 + 1 ≠ g) → J κ LAY ad 0 0 38 [some (vR 23), some (vR 25), some (vI 1), some (vR 26), none, none, none, none, none, none, none] [vI l] w := by
      intro l hl01 hl1 hl0
      refine s_4 X dX6_lengthen_38 rfl ?_
      have hlf := fl_rg hzw 4 (by decide)
      have hft := fst_le hF hN hbx hL hB
      refine j_aload_n X dX6_lengthen_40 rfl ?_
      refine cV0i X mf_X2_lastStrip mv_X2_lastStrip ml_X6_83 (by decide) rfl rfl (Nat.le_of_ble_eq_true rfl) dX6_lengthen_41 (sp_X2_lastStrip_25 hzw) (fun a_41 w_41 h_41 => ?_)
      obtain ⟨_, _⟩ := h_41
      subst a_41
      subst w_41
      refine j_bipush X dX6_lengthen_44 (by decide +kernel) ?_
      refine j_mmin X csOk_0 mt_X6_89 (by decide) (Nat.le_of_ble_eq_true rfl) dX6_lengthen_46 ⟨by omega, by omega⟩ ⟨by omega, by omega⟩ ?_
      refine s_5 X dX6_lengthen_49 rfl ?_
      refine j_aload_n X dX6_lengthen_51 rfl ?_
      refine cV0i X mf_X2_firstStrip mv_X2_firstStrip ml_X6_95 (by decide) rfl rfl (Nat.le_of_ble_eq_true rfl) dX6_lengthen_52 (sp_X2_firstStrip_25 hzw) (fun a_52 w_52 h_52 => ?_)
      obtain ⟨_, _⟩ := h_52
      subst a_52
      subst w_52
      refine j_iconst X dX6_lengthen_55 ?_
      refine j_iadd X dX6_lengthen_56 ?_
      refine j_bipush X dX6_lengthen_57 (by decide +kernel) ?_
      refine j_mmax X csOk_0 mt_X6_98 (by decide) (Nat.le_of_ble_eq_true rfl) dX6_lengthen_59 ⟨by omega, by omega⟩ ⟨by omega, by omega⟩ ?_
      refine s_6 X dX6_lengthen_62 rfl ?_
      have L_64 : ∀ (m : Nat) (kk : Nat) (u : wd) (_ : WS 1 g rem N F S r a w (8 * kk) u) (_ : kk ≤ 73) (_ : 73 - kk < m), J κ LAY ad 0 0 64 [some (vR 23), some (vR 25), some (vI 1), some (vR 26), some (vI l), some (vI (min (lstP w 40 4) 48)), some (vI ((kk : Int) - 24)), none, none, none, none] [] u := by
        intro m
        induction m with
        | zero => intro kk u hW h1 h2; exact absurd h2 (Nat.not_lt_zero _)
        | succ m ih64 =>
          intro kk u hW h1 h2
          refine j_iload X dX6_lengthen_64 rfl ?_
          refine j_iload X dX6_lengthen_66 rfl ?_
          refine j_icmp_gt (tgt := 237) X dX6_lengthen_68 (by decide) ⟨by omega, by omega⟩ ⟨by omega, by omega⟩ (fun h_68 => ?_) (fun h_68 => ?_)
          · exact j_return X hR dX6_lengthen_237 (by
              have hfin := hW.skip (584 - 8 * kk) (fun t q1 q2 => no_lo hF hL hA hB (by omega) (Or.inr (by unfold tK; omega)))
              rw [show 8 * kk + (584 - 8 * kk) = 584 by omega] at hfin
              refine ⟨hfin.1, hfin.2.1, hfin.2.2.1, ?_⟩
              rw [show g - 1 = rem + 1 by omega, accD_s (dep := 1) (by omega)]
              exact hfin.2.2.2)
          · refine j_iconst X dX6_lengthen_71 ?_
            refine s_7 X dX6_lengthen_72 rfl ?_
            have L_74 : ∀ (m : Nat) (s : Nat) (u : wd) (_ : WS 1 g rem N F S r a w (8 * kk + 2 * s) u) (_ : s ≤ 4) (_ : 4 - s < m), J κ LAY ad 0 0 74 [some (vR 23), some (vR 25), some (vI 1), some (vR 26), some (vI l), some (vI (min (lstP w 40 4) 48)), some (vI ((kk : Int) - 24)), some (vI (s : Int)), none, none, none] [] u := by
              intro m
              induction m with
              | zero => intro s u hW h3 h4; exact absurd h4 (Nat.not_lt_zero _)
              | succ m ih74 =>
                intro s u hW h3 h4
                obtain ⟨hLu, hAu, hBu⟩ := FRM.rep (dep := 1) (by decide) hW.1 hL hA hB
                simp only [show 24 + 1 = 25 from rfl, show 46 - 6 * 1 = 40 from rfl] at hLu hAu hBu
                have hz : LzO u 40 := hLu.2.2.2.1
                have hu7 : 0 ≤ u 23 7 ∧ u 23 7 ≤ 3000 := by rw [hW.2.2.1]; exact h7
                have hu6 : u 23 6 = 0 := by rw [hW.1.2.1 6 (by decide) (by decide)]; exact h6
                have hu5 : u 23 5 = (g : Int) := by rw [hW.1.2.1 5 (by decide) (by decide)]; exact hg
                refine j_iload X dX6_lengthen_74 rfl ?_
                refine j_iconst X dX6_lengthen_76 ?_
                refine j_icmp_ge (tgt := 231) X dX6_lengthen_77 (by decide) ⟨by omega, by omega⟩ ⟨by omega, by omega⟩ (fun h_77 => ?_) (fun h_77 => ?_)
                · refine inc_6 X dX6_lengthen_231 rfl ?_
                  refine j_goto (tgt := 64) X dX6_lengthen_234 (by decide) ?_
                  refine fg_7 ?_
                  rw [show (kk : Int) - 24 + 1 = ((kk + 1 : Nat) : Int) - 24 by omega]
                  exact ih64 (kk + 1) u (by rw [show 8 * (kk + 1) = 8 * kk + 2 * s by omega]; exact hW) (by omega) (by omega)
                · have C_117 : ∀ v : Int, (v = 0 ∨ v = 1) → (v = 1 → goK N F S s ((kk : Int) - 24)) → (v = 0 → 3000 < u 23 7 ∨ ¬ goK N F S s ((kk : Int) - 24)) → J κ LAY ad 0 0 117 [some (vR 23), some (vR 25), some (vI 1), some (vR 26), some (vI l), some (vI (min (lstP w 40 4) 48)), some (vI ((kk : Int) - 24)), some (vI (s : Int)), none, none, none] [vI v] u := by
                    intro v hv01 hv1 hv0
                    refine s_8 X dX6_lengthen_117 rfl ?_
                    have C_141 : ∀ c : Int, (c = 0 ∨ c = 1) → (c = 1 → False) → (c = 0 → True) → J κ LAY ad 0 0 141 [some (vR 23), some (vR 25), some (vI 1), some (vR 26), some (vI l), some (vI (min (lstP w 40 4) 48)), some (vI ((kk : Int) - 24)), some (vI (s : Int)), some (vI v), none, none] [vI c] u := by
                      intro c hc01 hc1 hc0
                      have hcz : c = 0 := hc01.elim id (fun z => (hc1 z).elim)
                      refine s_9 X dX6_lengthen_141 rfl ?_
                      refine j_aload_n X dX6_lengthen_143 rfl ?_
                      refine j_dup X dX6_lengthen_144 (fun _ h => by cases h) ?_
                      refine j_getI X dX6_lengthen_145 ff_X6_39 rfl rfl ?_
                      refine j_iload X dX6_lengthen_148 rfl ?_
                      refine jt_if_eq (tgt := 157) X dX6_lengthen_150 (by decide) ⟨by omega, by omega⟩ (by first | decide | omega) ?_
                      refine j_iconst X dX6_lengthen_157 ?_
                      refine j_iadd X dX6_lengthen_158 ?_
                      refine j_putI X dX6_lengthen_159 fp_X6_39 rfl rfl ?_
                      rw [wst_add0]
                      refine j_iconst X dX6_lengthen_162 ?_
                      refine s_10 X dX6_lengthen_163 rfl ?_
                      have L_165 : ∀ (m : Nat) (dd : Nat) (u2 : wd) (_ : WS 1 g rem N F S r a w (8 * kk + 2 * s + dd) u2) (_ : dd ≤ 2) (_ : 2 - dd < m), J κ LAY ad 0 0 165 [some (vR 23), some (vR 25), some (vI 1), some (vR 26), some (vI l), some (vI (min (lstP w 40 4) 48)), some (vI ((kk : Int) - 24)), some (vI (s : Int)), some (vI v), some (vI c), some (vI (dd : Int))] [] u2 := by
                        intro m
                        induction m with
                        | zero => intro dd u2 hW2 h5 h6b; exact absurd h6b (Nat.not_lt_zero _)
                        | succ m ih165 =>
                          intro dd u2 hW2 h5 h6b
                          refine j_iload X dX6_lengthen_165 rfl ?_
                          refine j_iconst X dX6_lengthen_167 ?_
                          refine j_icmp_ge (tgt := 225) X dX6_lengthen_168 (by decide) ⟨by omega, by omega⟩ ⟨by omega, by omega⟩ (fun h_168 => ?_) (fun h_168 => ?_)
                          · refine inc_7 X dX6_lengthen_225 rfl ?_
                            refine j_goto (tgt := 74) X dX6_lengthen_228 (by decide) ?_
                            refine fg_8 ?_
                            refine fg_9 ?_
                            refine fg_10 ?_
                            exact ih74 (s + 1) u2 (by rw [show 8 * kk + 2 * (s + 1) = 8 * kk + 2 * s + dd by omega]; exact hW2) (by omega) (by omega)
                          · refine j_iload X dX6_lengthen_171 rfl ?_
                            refine j_if_eq (tgt := 225) X dX6_lengthen_173 (by decide) ⟨by omega, by omega⟩ (fun h_173 => ?_) (fun h_173 => ?_)
                            · refine inc_7 X dX6_lengthen_225 rfl ?_
                              refine j_goto (tgt := 74) X dX6_lengthen_228 (by decide) ?_
                              refine fg_8 ?_
                              refine fg_9 ?_
                              refine fg_10 ?_
                              exact ih74 (s + 1) u2 (by
                                have q : ¬ goK N F S s ((kk : Int) - 24) := (hv0 (by omega)).elim (fun z => absurd z (by omega)) id
                                have h9 := hW2.skip (2 - dd) (fun t q1 q2 z => by
                                  obtain ⟨d9, hd9, hd8⟩ : ∃ d9 : Nat, t = 8 * kk + 2 * s + d9 ∧ d9 < 2 := ⟨t - (8 * kk + 2 * s), by omega, by omega⟩
                                  rw [hd9] at z
                                  exact q ((goS_K (by omega) hd8).mp z))
                                rw [show 8 * kk + 2 * (s + 1) = 8 * kk + 2 * s + dd + (2 - dd) by omega]
                                exact h9) (by omega) (by omega)
                            · refine j_iload X dX6_lengthen_176 rfl ?_
                              refine jf_if_ne (tgt := 225) X dX6_lengthen_178 (by decide) ⟨by omega, by omega⟩ (by first | decide | omega) ?_
                              refine j_aload_n X dX6_lengthen_181 rfl ?_
                              refine j_getR X dX6_lengthen_182 ff_X6_20 rfl rfl ?_
                              refine j_iload_n X dX6_lengthen_185 rfl ?_
                              refine j_iload X dX6_lengthen_186 rfl ?_
                              refine j_iload X dX6_lengthen_188 rfl ?_
                              refine j_iload X dX6_lengthen_190 rfl ?_
                              refine cS3i X mf_X6_tell ms_X6_tell ml_X6_108 (by decide) (Nat.le_of_ble_eq_true rfl) dX6_lengthen_192 (sp_X6_tell) (fun a_192 w_192 h_192 => ?_)
                              obtain ⟨_, _⟩ := h_192
                              subst a_192
                              subst w_192
                              refine cS3v X mf_X5_put ms_X5_put ml_X6_112 (by decide) (Nat.le_of_ble_eq_true rfl) dX6_lengthen_195 (sp_putk (k := 1) rfl (by decide) (by decide)) (fun w_195 h_195 => ?_)
                              change _ = _ at h_195
                              subst w_195
                              have hc9 : True := trivial
                              obtain ⟨hLv, hAv, hBv⟩ := FRM.rep (dep := 1) (by decide) hW2.1 hL hA hB
                              simp only [show 24 + 1 = 25 from rfl, show 46 - 6 * 1 = 40 from rfl] at hLv hAv hBv
                              have hgk : goK N F S s ((kk : Int) - 24) := hv1 (by omega)
                              have hgo : goS N F S (8 * kk + 2 * s + dd) := (goS_K (by omega) (by omega)).mpr hgk
                              have hbx2 : BOX (10 + 5) N (trS S (s : Int) ((kk : Int) - 24) (dd : Int)) := hbx.trk (by omega) (by omega) hgk.1
                              have hcn2 : CNS N F (trS S (s : Int) ((kk : Int) - 24) (dd : Int)) := hcn.trk hbx (by omega) hgk.2
                              have enx : nxS S (8 * kk + 2 * s + dd) = trS S (s : Int) ((kk : Int) - 24) (dd : Int) := by
                                obtain ⟨t1, t2, t3⟩ := T_dec (kk := kk) (s := s) (d := dd) (by omega) (by omega)
                                unfold nxS
                                rw [t1, t2, t3]
                              have etl : 1000 + 100 * ((kk : Int) - 24) + 10 * (s : Int) + (dd : Int) = tl (((8 * kk + 2 * s + dd) : Nat) : Int) := by
                                obtain ⟨t1, t2, t3⟩ := T_dec (kk := kk) (s := s) (d := dd) (by omega) (by omega)
                                rw [tl_tell, t1, t2, t3]
                              rw [etl]
                              obtain ⟨us9, sp9, hu9, hus9, hK9⟩ := hW2.2.1 2 (by decide) (by decide)
                              simp only [show 24 + 2 = 26 from rfl, show 46 - 6 * 2 = 34 from rfl] at hu9 hK9
                              refine j_aload_n X dX6_lengthen_198 rfl ?_
                              refine j_aload_n X dX6_lengthen_199 rfl ?_
                              refine j_iload X dX6_lengthen_200 rfl ?_
                              refine j_iload X dX6_lengthen_202 rfl ?_
                              refine j_iload X dX6_lengthen_204 rfl ?_
                              refine j_iload X dX6_lengthen_206 rfl ?_
                              refine cV5v X mf_X2_turnInto mv_X2_turnInto ml_X6_116 (by decide) rfl rfl (Nat.le_of_ble_eq_true rfl) dX6_lengthen_208 (sp_X2_turnInto_25 (w := wst u2 52 1 (tl (((8 * kk + 2 * s + dd) : Nat) : Int))) (us := us) (sp := sp) (us9 := us9) (sp9 := sp9) (N := N) (s := s) (d := dd) (F := F) (S := S) (R := 10) (LR.cong (w := u2) (w' := wst u2 52 1 (tl (((8 * kk + 2 * s + dd) : Nat) : Int))) rfl (fun j hj => by rcases (by omega : j = 0 ∨ j = 1 ∨ j = 2 ∨ j = 3 ∨ j = 4 ∨ j = 5) with rfl | rfl | rfl | rfl | rfl | rfl <;> rfl) hLv) ((EAB.cong (w := u2) (w' := wst u2 52 1 (tl (((8 * kk + 2 * s + dd) : Nat) : Int))) rfl (fun j hj => by rcases (by omega : j = 0 ∨ j = 1 ∨ j = 2 ∨ j = 3 ∨ j = 4 ∨ j = 5) with rfl | rfl | rfl | rfl | rfl | rfl <;> rfl)).1 hAv) ((EAB.cong (w := u2) (w' := wst u2 52 1 (tl (((8 * kk + 2 * s + dd) : Nat) : Int))) rfl (fun j hj => by rcases (by omega : j = 0 ∨ j = 1 ∨ j = 2 ∨ j = 3 ∨ j = 4 ∨ j = 5) with rfl | rfl | rfl | rfl | rfl | rfl <;> rfl)).2.1 hBv) hbx ⟨by decide, by decide⟩ hgk.1 hcn2 (by omega) (by omega) ⟨by omega, by omega⟩ hl01 hu9 hus9 hK9) (fun w_208 h_208 => ?_)
                              obtain ⟨us2, sp2, hL2, hA2, hB2, hfr2⟩ := h_208
                              obtain ⟨p1, p2, p3, p4, p5⟩ := WS_pre (dep := 1) (r := r) (T := (8 * kk + 2 * s + dd)) (by decide) hW2.1 hW2.2.1 hrow hfr2 hL2
                              have hv5 : w_208 23 5 = (g : Int) := by rw [p3, hW2.1.2.1 5 (by decide) (by decide)]; exact hg
                              have hv6 : w_208 23 6 = 0 := by rw [p3, hW2.1.2.1 6 (by decide) (by decide)]; exact h6
                              refine j_aload_n X dX6_lengthen_211 rfl ?_
                              refine j_aload_n X dX6_lengthen_212 rfl ?_
                              refine j_iload_n X dX6_lengthen_213 rfl ?_
                              refine j_iconst X dX6_lengthen_214 ?_
                              refine j_iadd X dX6_lengthen_215 ?_
                              rw [show (1 : Int) + 1 = 2 from rfl]
                              refine cS3v X mf_X6_lengthen ms_X6_lengthen ml_X6_73 (by decide) (Nat.le_of_ble_eq_true rfl) dX6_lengthen_216 (sp_X6_lenW_2 (N := N) (g := g) (F := F) (S := nxS S (8 * kk + 2 * s + dd)) (r := w1 r 1 (8 * kk + 2 * s + dd)) (a := loopT (stepW N F g rem 1 S r) (8 * kk + 2 * s + dd) a) hN hF (by rw [enx]; exact hbx2) (by rw [enx]; exact hcn2) hv5 hg3 (by omega) hv6 (by rw [p3, hW2.2.2.1]; exact h7) (hW2.2.2.2.cong (by rw [p3]) p4) p2 p1 (by
                                  rw [show g - 2 = rem by omega]
                                  have hb1 := (stepW_rg N F g rem 1 S r a (8 * kk + 2 * s + dd)).2
                                  have hb2 := sm_mono (f := cfn N F rem S) (cfn_nn N F rem S) (n := (8 * kk + 2 * s + dd) + 1) (m := 584) (by omega)
                                  rw [sm_s, show cfn N F rem S (8 * kk + 2 * s + dd) = cnt N F rem (nxS S (8 * kk + 2 * s + dd)) from if_pos hgo] at hb2
                                  rw [show g - 1 = rem + 1 by omega, cnt_s] at hbd
                                  omega) (by
                                  rw [enx]
                                  refine ⟨us2, sp2, hL2, hA2, ?_⟩
                                  rcases hB2 with z | z
                                  · exact Or.inl z
                                  · exact Or.inr z.2) (fun z => by
                                  rw [enx]
                                  refine ⟨us2, sp2, hL2, hA2, ?_⟩
                                  rcases hB2 with z2 | z2
                                  · exact z2
                                  · have := hl1 z2.1
                                    omega)) (fun w_216 h_216 => ?_)
                              have hW3 := WS_go (dep := 1) (by decide) hW2 hgo hfr2 h_216.1 h_216.2.1 p5 h_216.2.2.1 (by rw [show g - 2 = rem by omega] at h_216; exact h_216.2.2.2)
                              refine inc_10 X dX6_lengthen_219 rfl ?_
                              refine j_goto (tgt := 165) X dX6_lengthen_222 (by decide) ?_
                              exact ih165 (dd + 1) _ hW3 (by omega) (by omega)
                      exact L_165 3 0 u hW (by omega) (by omega)
                    refine j_iload X dX6_lengthen_119 rfl ?_
                    refine j_if_eq (tgt := 140) X dX6_lengthen_121 (by decide) ⟨by omega, by omega⟩ (fun h_121 => ?_) (fun h_121 => ?_)
                    · refine j_iconst X dX6_lengthen_140 ?_
                      exact C_141 0 (Or.inl rfl) (fun z => absurd z (by decide)) (fun _ => trivial)
                    · refine j_iload X dX6_lengthen_124 rfl ?_
                      refine j_if_eq (tgt := 140) X dX6_lengthen_126 (by decide) ⟨by omega, by omega⟩ (fun h_126 => ?_) (fun h_126 => ?_)
                      · refine j_iconst X dX6_lengthen_140 ?_
                        exact C_141 0 (Or.inl rfl) (fun z => absurd z (by decide)) (fun _ => trivial)
                      · refine j_aload_n X dX6_lengthen_129 rfl ?_
                        refine j_getI X dX6_lengthen_130 ff_X6_69 rfl rfl ?_
                        refine jt_if_eq (tgt := 140) X dX6_lengthen_133 (by decide) ⟨by omega, by omega⟩ (by first | decide | omega) ?_
                        refine j_iconst X dX6_lengthen_140 ?_
                        exact C_141 0 (Or.inl rfl) (fun z => absurd z (by decide)) (fun _ => trivial)
                  refine j_aload_n X dX6_lengthen_80 rfl ?_
                  refine j_getI X dX6_lengthen_81 ff_X6_39 rfl rfl ?_
                  refine j_sipush X dX6_lengthen_84 (by decide +kernel) ?_
                  refine jf_icmp_gt (tgt := 116) X dX6_lengthen_87 (by decide) ⟨by omega, by omega⟩ ⟨by omega, by omega⟩ (by first | decide | omega) ?_
                  have hk9 : -24 ≤ (kk : Int) - 24 ∧ (kk : Int) - 24 ≤ 48 := by omega
                  refine j_aload_n X dX6_lengthen_90 rfl ?_
                  refine j_iload X dX6_lengthen_91 rfl ?_
                  refine j_iload X dX6_lengthen_93 rfl ?_
                  refine cV2i X mf_X2_isCrossed mv_X2_isCrossed ml_X6_101 (by decide) rfl rfl (Nat.le_of_ble_eq_true rfl) dX6_lengthen_95 (sp_X2_isCrossed_25 hz (by omega) ⟨by omega, by omega⟩) (fun a_95 w_95 h_95 => ?_)
                  obtain ⟨_, _⟩ := h_95
                  subst a_95
                  subst w_95
                  refine jb_eq (tgt := 116) X dX6_lengthen_98 (by decide) (fun h_98 => ?_) (fun h_98 => ?_)
                  · refine j_iconst X dX6_lengthen_116 ?_
                    exact C_117 0 (Or.inl rfl) (fun z => absurd z (by decide)) (fun _ => Or.inr (fun z => h_98 ((crs_is hF hLu hAu hBu (by omega) (by omega)).mpr z.1)))
                  · have hcr9 : crS N S (s : Int) ((kk : Int) - 24) := (crs_is hF hLu hAu hBu (by omega) (by omega)).mp h_98
                    refine j_aload_n X dX6_lengthen_101 rfl ?_
                    refine j_iload X dX6_lengthen_102 rfl ?_
                    refine j_iload X dX6_lengthen_104 rfl ?_
                    refine cV2i X mf_X2_fits mv_X2_fits ml_X6_105 (by decide) rfl rfl (Nat.le_of_ble_eq_true rfl) dX6_lengthen_106 (sp_X2_fits_25 (sp := sp) (us := us) hLu.1.1 hLu.1.2.1 hLu.1.2.2.1 hLu.1.2.2.2.1 hLu.1.2.2.2.2 hLu.2.1.1 ⟨by omega, by omega⟩) (fun a_106 w_106 h_106 => ?_)
                    obtain ⟨_, _⟩ := h_106
                    subst a_106
                    subst w_106
                    refine jb_eq (tgt := 116) X dX6_lengthen_109 (by decide) (fun h_109 => ?_) (fun h_109 => ?_)
                    · refine j_iconst X dX6_lengthen_116 ?_
                      exact C_117 0 (Or.inl rfl) (fun z => absurd z (by decide)) (fun _ => Or.inr (fun z => h_109 ((fit_is hF hbx hLu hAu hBu (by omega) hcr9).mpr z.2)))
                    · refine j_iconst X dX6_lengthen_112 ?_
                      refine j_goto (tgt := 117) X dX6_lengthen_113 (by decide) ?_
                      exact C_117 1 (Or.inr rfl) (fun _ => ⟨hcr9, (fit_is hF hbx hLu hAu hBu (by omega) hcr9).mp h_109⟩) (fun z => absurd z (by decide))
            exact L_74 5 0 u hW (by omega) (by omega)
      obtain ⟨kk0, hkk, hkk2⟩ : ∃ kk0 : Nat, max (fstP w 40 4 + 1) (-24) = (kk0 : Int) - 24 ∧ kk0 ≤ 73 := ⟨(max (fstP w 40 4 + 1) (-24) + 24).toNat, by omega, by omega⟩
      rw [hkk]
      exact L_64 74 kk0 w (by have h0 := (WS_0 (rem := rem) (r := r) hq hrc).skip (8 * kk0) (fun t _ ht => no_lo hF hL hA hB (by omega) (Or.inl (by unfold tK; omega))); rw [Nat.zero_add] at h0; exact h0) hkk2 (by omega)
    refine j_iconst X dX6_lengthen_24 ?_
    refine j_iadd X dX6_lengthen_25 ?_
    refine j_aload_n X dX6_lengthen_26 rfl ?_
    refine j_getI X dX6_lengthen_27 ff_X6_66 rfl rfl ?_
    refine j_icmp_ne (tgt := 37) X dX6_lengthen_30 (by decide) ⟨by omega, by omega⟩ ⟨by omega, by omega⟩ (fun h_30 => ?_) (fun h_30 => ?_)
    · refine j_iconst X dX6_lengthen_37 ?_
      exact C_38 0 (Or.inl rfl) (fun z => absurd z (by decide)) (fun _ => by omega)
    · refine j_iconst X dX6_lengthen_33 ?_
      refine j_goto (tgt := 38) X dX6_lengthen_34 (by decide) ?_
      exact C_38 1 (Or.inr rfl) (fun _ => by omega) (fun z => absurd z (by decide))
set_option maxHeartbeats 4000000 in
set_option maxRecDepth 20000 in
theorem sp_X6_lenW_0 {N g : Nat} {F : Nat → Int} {S : lys} {r : Nat → Int} {a : acT} {w : wd} (hN : 1 ≤ N) (hF : ∀ f, f < N → F f = 0 ∨ F f = 1) (hbx : BOX 5 N S) (hcn : CNS N F S) (hg : w 23 5 = (g : Int)) (hg3 : g ≤ 3) (hdg : 0 ≤ g) (h6 : w 23 6 = 0) (h7 : 0 ≤ w 23 7 ∧ w 23 7 ≤ 3000) (hrc : RcA g w a) (hrow : ∀ i, i < 0 → w 52 i = tl (r i)) (hq : LQS 0 w) (hbd : a.1 + 584 * cnt N F (g - 0) S ≤ 2000000000) (hrp : RpP 0 w N F S) (hrd : 0 < g → RpD 0 w N F S) : CalV yX6_lengthen cX6_lengthen 11 9 LAY w [vR 23, vR 24, vI 0] (fun w' => FRM 0 w w' ∧ LQS 0 w' ∧ w' 23 7 = w 23 7 ∧ RcA g w' (accD N F g (g - 0) S r a)) := by
  refine calV_intro (ls := [some (vR 23), some (vR 24), some (vI 0), none, none, none, none, none, none, none, none]) (by decide) (Nat.le_of_ble_eq_true rfl) rfl (fun κ ad X hR => ?_)
  refine j_aload_n X dX6_lengthen_0 rfl ?_
  refine j_getR X dX6_lengthen_1 ff_X6_77 rfl rfl ?_
  refine sa_3 X dX6_lengthen_4 rfl ?_
  refine j_iload_n X dX6_lengthen_5 rfl ?_
  refine j_aload_n X dX6_lengthen_6 rfl ?_
  refine j_getI X dX6_lengthen_7 ff_X6_66 rfl rfl ?_
  refine j_icmp_ge (tgt := 17) X dX6_lengthen_10 (by decide) ⟨by omega, by omega⟩ ⟨by omega, by omega⟩ (fun h_10 => ?_) (fun h_10 => ?_)
  · refine j_aload_n X dX6_lengthen_17 rfl ?_
    refine j_aload_n X dX6_lengthen_18 rfl ?_
    refine cV1v X mf_X6_weigh mv_X6_weigh ml_X6_80 (by decide) rfl rfl (Nat.le_of_ble_eq_true rfl) dX6_lengthen_19 (sp_X6_weigh_24 (g := g) (by obtain ⟨us, sp, hL, _⟩ := hrp; exact hL.2.2.2.1) hg hg3 (by omega) (by have h1 := hrc.1; have h2 := hrc.2.1; have h3 := cnt_nn N F (g - 0) S; constructor <;> omega)) (fun w_19 h_19 => ?_)
    change _ = _ at h_19
    rw [if_pos h6] at h_19
    have hok := wei_ok (dep := 0) (by decide) (by omega) hrp hrc hrow hq
    simp only [show 46 - 6 * 0 = 46 from rfl] at hok
    rw [← h_19] at hok
    exact j_return X hR dX6_lengthen_22 ⟨hok.1, hok.2.1, hok.2.2.1, by rw [show g - 0 = 0 by omega]; exact hok.2.2.2⟩
  · refine j_aload_n X dX6_lengthen_13 rfl ?_
    refine j_ifnonnull (tgt := 23) X dX6_lengthen_14 (by decide) ?_
    obtain ⟨us, sp, hL, hA, hB⟩ := hrd (by omega)
    simp only [show 24 + 0 = 24 from rfl, show 46 - 6 * 0 = 46 from rfl] at hL hA hB
    have hzw : LzO w 46 := hL.2.2.2.1
    obtain ⟨rem, hrem⟩ : ∃ rem, g = rem + 1 + 0 := ⟨g - 1 - 0, by omega⟩
    refine j_iload_n X dX6_lengthen_23 rfl ?_
    have C_38 : ∀ l : Int, (l = 0 ∨ l = 1) → (l = 1 → 0 + 1 = g) → (l = 0 → 0 + 1 ≠ g) → J κ LAY ad 0 0 38 [some (vR 23), some (vR 24), some (vI 0), some (vR 25), none, none, none, none, none, none, none] [vI l] w := by
      intro l hl01 hl1 hl0
      refine s_4 X dX6_lengthen_38 rfl ?_
      have hlf := fl_rg hzw 4 (by decide)
      have hft := fst_le hF hN hbx hL hB
      refine j_aload_n X dX6_lengthen_40 rfl ?_
      refine cV0i X mf_X2_lastStrip mv_X2_lastStrip ml_X6_83 (by decide) rfl rfl (Nat.le_of_ble_eq_true rfl) dX6_lengthen_41 (sp_X2_lastStrip_24 hzw) (fun a_41 w_41 h_41 => ?_)
      obtain ⟨_, _⟩ := h_41
      subst a_41
      subst w_41
      refine j_bipush X dX6_lengthen_44 (by decide +kernel) ?_
      refine j_mmin X csOk_0 mt_X6_89 (by decide) (Nat.le_of_ble_eq_true rfl) dX6_lengthen_46 ⟨by omega, by omega⟩ ⟨by omega, by omega⟩ ?_
      refine s_5 X dX6_lengthen_49 rfl ?_
      refine j_aload_n X dX6_lengthen_51 rfl ?_
      refine cV0i X mf_X2_firstStrip mv_X2_firstStrip ml_X6_95 (by decide) rfl rfl (Nat.le_of_ble_eq_true rfl) dX6_lengthen_52 (sp_X2_firstStrip_24 hzw) (fun a_52 w_52 h_52 => ?_)
      obtain ⟨_, _⟩ := h_52
      subst a_52
      subst w_52
      refine j_iconst X dX6_lengthen_55 ?_
      refine j_iadd X dX6_lengthen_56 ?_
      refine j_bipush X dX6_lengthen_57 (by decide +kernel) ?_
      refine j_mmax X csOk_0 mt_X6_98 (by decide) (Nat.le_of_ble_eq_true rfl) dX6_lengthen_59 ⟨by omega, by omega⟩ ⟨by omega, by omega⟩ ?_
      refine s_6 X dX6_lengthen_62 rfl ?_
      have L_64 : ∀ (m : Nat) (kk : Nat) (u : wd) (_ : WS 0 g rem N F S r a w (8 * kk) u) (_ : kk ≤ 73) (_ : 73 - kk < m), J κ LAY ad 0 0 64 [some (vR 23), some (vR 24), some (vI 0), some (vR 25), some (vI l), some (vI (min (lstP w 46 4) 48)), some (vI ((kk : Int) - 24)), none, none, none, none] [] u := by
        intro m
        induction m with
        | zero => intro kk u hW h1 h2; exact absurd h2 (Nat.not_lt_zero _)
        | succ m ih64 =>
          intro kk u hW h1 h2
          refine j_iload X dX6_lengthen_64 rfl ?_
          refine j_iload X dX6_lengthen_66 rfl ?_
          refine j_icmp_gt (tgt := 237) X dX6_lengthen_68 (by decide) ⟨by omega, by omega⟩ ⟨by omega, by omega⟩ (fun h_68 => ?_) (fun h_68 => ?_)
          · exact j_return X hR dX6_lengthen_237 (by
              have hfin := hW.skip (584 - 8 * kk) (fun t q1 q2 => no_lo hF hL hA hB (by omega) (Or.inr (by unfold tK; omega)))
              rw [show 8 * kk + (584 - 8 * kk) = 584 by omega] at hfin
              refine ⟨hfin.1, hfin.2.1, hfin.2.2.1, ?_⟩
              rw [show g - 0 = rem + 1 by omega, accD_s (dep := 0) (by omega)]
              exact hfin.2.2.2)
          · refine j_iconst X dX6_lengthen_71 ?_
            refine s_7 X dX6_lengthen_72 rfl ?_
            have L_74 : ∀ (m : Nat) (s : Nat) (u : wd) (_ : WS 0 g rem N F S r a w (8 * kk + 2 * s) u) (_ : s ≤ 4) (_ : 4 - s < m), J κ LAY ad 0 0 74 [some (vR 23), some (vR 24), some (vI 0), some (vR 25), some (vI l), some (vI (min (lstP w 46 4) 48)), some (vI ((kk : Int) - 24)), some (vI (s : Int)), none, none, none] [] u := by
              intro m
              induction m with
              | zero => intro s u hW h3 h4; exact absurd h4 (Nat.not_lt_zero _)
              | succ m ih74 =>
                intro s u hW h3 h4
                obtain ⟨hLu, hAu, hBu⟩ := FRM.rep (dep := 0) (by decide) hW.1 hL hA hB
                simp only [show 24 + 0 = 24 from rfl, show 46 - 6 * 0 = 46 from rfl] at hLu hAu hBu
                have hz : LzO u 46 := hLu.2.2.2.1
                have hu7 : 0 ≤ u 23 7 ∧ u 23 7 ≤ 3000 := by rw [hW.2.2.1]; exact h7
                have hu6 : u 23 6 = 0 := by rw [hW.1.2.1 6 (by decide) (by decide)]; exact h6
                have hu5 : u 23 5 = (g : Int) := by rw [hW.1.2.1 5 (by decide) (by decide)]; exact hg
                refine j_iload X dX6_lengthen_74 rfl ?_
                refine j_iconst X dX6_lengthen_76 ?_
                refine j_icmp_ge (tgt := 231) X dX6_lengthen_77 (by decide) ⟨by omega, by omega⟩ ⟨by omega, by omega⟩ (fun h_77 => ?_) (fun h_77 => ?_)
                · refine inc_6 X dX6_lengthen_231 rfl ?_
                  refine j_goto (tgt := 64) X dX6_lengthen_234 (by decide) ?_
                  refine fg_7 ?_
                  rw [show (kk : Int) - 24 + 1 = ((kk + 1 : Nat) : Int) - 24 by omega]
                  exact ih64 (kk + 1) u (by rw [show 8 * (kk + 1) = 8 * kk + 2 * s by omega]; exact hW) (by omega) (by omega)
                · have C_117 : ∀ v : Int, (v = 0 ∨ v = 1) → (v = 1 → goK N F S s ((kk : Int) - 24)) → (v = 0 → 3000 < u 23 7 ∨ ¬ goK N F S s ((kk : Int) - 24)) → J κ LAY ad 0 0 117 [some (vR 23), some (vR 24), some (vI 0), some (vR 25), some (vI l), some (vI (min (lstP w 46 4) 48)), some (vI ((kk : Int) - 24)), some (vI (s : Int)), none, none, none] [vI v] u := by
                    intro v hv01 hv1 hv0
                    refine s_8 X dX6_lengthen_117 rfl ?_
                    have C_141 : ∀ c : Int, (c = 0 ∨ c = 1) → (c = 1 → False) → (c = 0 → True) → J κ LAY ad 0 0 141 [some (vR 23), some (vR 24), some (vI 0), some (vR 25), some (vI l), some (vI (min (lstP w 46 4) 48)), some (vI ((kk : Int) - 24)), some (vI (s : Int)), some (vI v), none, none] [vI c] u := by
                      intro c hc01 hc1 hc0
                      have hcz : c = 0 := hc01.elim id (fun z => (hc1 z).elim)
                      refine s_9 X dX6_lengthen_141 rfl ?_
                      refine j_aload_n X dX6_lengthen_143 rfl ?_
                      refine j_dup X dX6_lengthen_144 (fun _ h => by cases h) ?_
                      refine j_getI X dX6_lengthen_145 ff_X6_39 rfl rfl ?_
                      refine j_iload X dX6_lengthen_148 rfl ?_
                      refine jt_if_eq (tgt := 157) X dX6_lengthen_150 (by decide) ⟨by omega, by omega⟩ (by first | decide | omega) ?_
                      refine j_iconst X dX6_lengthen_157 ?_
                      refine j_iadd X dX6_lengthen_158 ?_
                      refine j_putI X dX6_lengthen_159 fp_X6_39 rfl rfl ?_
                      rw [wst_add0]
                      refine j_iconst X dX6_lengthen_162 ?_
                      refine s_10 X dX6_lengthen_163 rfl ?_
                      have L_165 : ∀ (m : Nat) (dd : Nat) (u2 : wd) (_ : WS 0 g rem N F S r a w (8 * kk + 2 * s + dd) u2) (_ : dd ≤ 2) (_ : 2 - dd < m), J κ LAY ad 0 0 165 [some (vR 23), some (vR 24), some (vI 0), some (vR 25), some (vI l), some (vI (min (lstP w 46 4) 48)), some (vI ((kk : Int) - 24)), some (vI (s : Int)), some (vI v), some (vI c), some (vI (dd : Int))] [] u2 := by
                        intro m
                        induction m with
                        | zero => intro dd u2 hW2 h5 h6b; exact absurd h6b (Nat.not_lt_zero _)
                        | succ m ih165 =>
                          intro dd u2 hW2 h5 h6b
                          refine j_iload X dX6_lengthen_165 rfl ?_
                          refine j_iconst X dX6_lengthen_167 ?_
                          refine j_icmp_ge (tgt := 225) X dX6_lengthen_168 (by decide) ⟨by omega, by omega⟩ ⟨by omega, by omega⟩ (fun h_168 => ?_) (fun h_168 => ?_)
                          · refine inc_7 X dX6_lengthen_225 rfl ?_
                            refine j_goto (tgt := 74) X dX6_lengthen_228 (by decide) ?_
                            refine fg_8 ?_
                            refine fg_9 ?_
                            refine fg_10 ?_
                            exact ih74 (s + 1) u2 (by rw [show 8 * kk + 2 * (s + 1) = 8 * kk + 2 * s + dd by omega]; exact hW2) (by omega) (by omega)
                          · refine j_iload X dX6_lengthen_171 rfl ?_
                            refine j_if_eq (tgt := 225) X dX6_lengthen_173 (by decide) ⟨by omega, by omega⟩ (fun h_173 => ?_) (fun h_173 => ?_)
                            · refine inc_7 X dX6_lengthen_225 rfl ?_
                              refine j_goto (tgt := 74) X dX6_lengthen_228 (by decide) ?_
                              refine fg_8 ?_
                              refine fg_9 ?_
                              refine fg_10 ?_
                              exact ih74 (s + 1) u2 (by
                                have q : ¬ goK N F S s ((kk : Int) - 24) := (hv0 (by omega)).elim (fun z => absurd z (by omega)) id
                                have h9 := hW2.skip (2 - dd) (fun t q1 q2 z => by
                                  obtain ⟨d9, hd9, hd8⟩ : ∃ d9 : Nat, t = 8 * kk + 2 * s + d9 ∧ d9 < 2 := ⟨t - (8 * kk + 2 * s), by omega, by omega⟩
                                  rw [hd9] at z
                                  exact q ((goS_K (by omega) hd8).mp z))
                                rw [show 8 * kk + 2 * (s + 1) = 8 * kk + 2 * s + dd + (2 - dd) by omega]
                                exact h9) (by omega) (by omega)
                            · refine j_iload X dX6_lengthen_176 rfl ?_
                              refine jf_if_ne (tgt := 225) X dX6_lengthen_178 (by decide) ⟨by omega, by omega⟩ (by first | decide | omega) ?_
                              refine j_aload_n X dX6_lengthen_181 rfl ?_
                              refine j_getR X dX6_lengthen_182 ff_X6_20 rfl rfl ?_
                              refine j_iload_n X dX6_lengthen_185 rfl ?_
                              refine j_iload X dX6_lengthen_186 rfl ?_
                              refine j_iload X dX6_lengthen_188 rfl ?_
                              refine j_iload X dX6_lengthen_190 rfl ?_
                              refine cS3i X mf_X6_tell ms_X6_tell ml_X6_108 (by decide) (Nat.le_of_ble_eq_true rfl) dX6_lengthen_192 (sp_X6_tell) (fun a_192 w_192 h_192 => ?_)
                              obtain ⟨_, _⟩ := h_192
                              subst a_192
                              subst w_192
                              refine cS3v X mf_X5_put ms_X5_put ml_X6_112 (by decide) (Nat.le_of_ble_eq_true rfl) dX6_lengthen_195 (sp_putk (k := 0) rfl (by decide) (by decide)) (fun w_195 h_195 => ?_)
                              change _ = _ at h_195
                              subst w_195
                              have hc9 : True := trivial
                              obtain ⟨hLv, hAv, hBv⟩ := FRM.rep (dep := 0) (by decide) hW2.1 hL hA hB
                              simp only [show 24 + 0 = 24 from rfl, show 46 - 6 * 0 = 46 from rfl] at hLv hAv hBv
                              have hgk : goK N F S s ((kk : Int) - 24) := hv1 (by omega)
                              have hgo : goS N F S (8 * kk + 2 * s + dd) := (goS_K (by omega) (by omega)).mpr hgk
                              have hbx2 : BOX (5 + 5) N (trS S (s : Int) ((kk : Int) - 24) (dd : Int)) := hbx.trk (by omega) (by omega) hgk.1
                              have hcn2 : CNS N F (trS S (s : Int) ((kk : Int) - 24) (dd : Int)) := hcn.trk hbx (by omega) hgk.2
                              have enx : nxS S (8 * kk + 2 * s + dd) = trS S (s : Int) ((kk : Int) - 24) (dd : Int) := by
                                obtain ⟨t1, t2, t3⟩ := T_dec (kk := kk) (s := s) (d := dd) (by omega) (by omega)
                                unfold nxS
                                rw [t1, t2, t3]
                              have etl : 1000 + 100 * ((kk : Int) - 24) + 10 * (s : Int) + (dd : Int) = tl (((8 * kk + 2 * s + dd) : Nat) : Int) := by
                                obtain ⟨t1, t2, t3⟩ := T_dec (kk := kk) (s := s) (d := dd) (by omega) (by omega)
                                rw [tl_tell, t1, t2, t3]
                              rw [etl]
                              obtain ⟨us9, sp9, hu9, hus9, hK9⟩ := hW2.2.1 1 (by decide) (by decide)
                              simp only [show 24 + 1 = 25 from rfl, show 46 - 6 * 1 = 40 from rfl] at hu9 hK9
                              refine j_aload_n X dX6_lengthen_198 rfl ?_
                              refine j_aload_n X dX6_lengthen_199 rfl ?_
                              refine j_iload X dX6_lengthen_200 rfl ?_
                              refine j_iload X dX6_lengthen_202 rfl ?_
                              refine j_iload X dX6_lengthen_204 rfl ?_
                              refine j_iload X dX6_lengthen_206 rfl ?_
                              refine cV5v X mf_X2_turnInto mv_X2_turnInto ml_X6_116 (by decide) rfl rfl (Nat.le_of_ble_eq_true rfl) dX6_lengthen_208 (sp_X2_turnInto_24 (w := wst u2 52 0 (tl (((8 * kk + 2 * s + dd) : Nat) : Int))) (us := us) (sp := sp) (us9 := us9) (sp9 := sp9) (N := N) (s := s) (d := dd) (F := F) (S := S) (R := 5) (LR.cong (w := u2) (w' := wst u2 52 0 (tl (((8 * kk + 2 * s + dd) : Nat) : Int))) rfl (fun j hj => by rcases (by omega : j = 0 ∨ j = 1 ∨ j = 2 ∨ j = 3 ∨ j = 4 ∨ j = 5) with rfl | rfl | rfl | rfl | rfl | rfl <;> rfl) hLv) ((EAB.cong (w := u2) (w' := wst u2 52 0 (tl (((8 * kk + 2 * s + dd) : Nat) : Int))) rfl (fun j hj => by rcases (by omega : j = 0 ∨ j = 1 ∨ j = 2 ∨ j = 3 ∨ j = 4 ∨ j = 5) with rfl | rfl | rfl | rfl | rfl | rfl <;> rfl)).1 hAv) ((EAB.cong (w := u2) (w' := wst u2 52 0 (tl (((8 * kk + 2 * s + dd) : Nat) : Int))) rfl (fun j hj => by rcases (by omega : j = 0 ∨ j = 1 ∨ j = 2 ∨ j = 3 ∨ j = 4 ∨ j = 5) with rfl | rfl | rfl | rfl | rfl | rfl <;> rfl)).2.1 hBv) hbx ⟨by decide, by decide⟩ hgk.1 hcn2 (by omega) (by omega) ⟨by omega, by omega⟩ hl01 hu9 hus9 hK9) (fun w_208 h_208 => ?_)
                              obtain ⟨us2, sp2, hL2, hA2, hB2, hfr2⟩ := h_208
                              obtain ⟨p1, p2, p3, p4, p5⟩ := WS_pre (dep := 0) (r := r) (T := (8 * kk + 2 * s + dd)) (by decide) hW2.1 hW2.2.1 hrow hfr2 hL2
                              have hv5 : w_208 23 5 = (g : Int) := by rw [p3, hW2.1.2.1 5 (by decide) (by decide)]; exact hg
                              have hv6 : w_208 23 6 = 0 := by rw [p3, hW2.1.2.1 6 (by decide) (by decide)]; exact h6
                              refine j_aload_n X dX6_lengthen_211 rfl ?_
                              refine j_aload_n X dX6_lengthen_212 rfl ?_
                              refine j_iload_n X dX6_lengthen_213 rfl ?_
                              refine j_iconst X dX6_lengthen_214 ?_
                              refine j_iadd X dX6_lengthen_215 ?_
                              rw [show (0 : Int) + 1 = 1 from rfl]
                              refine cS3v X mf_X6_lengthen ms_X6_lengthen ml_X6_73 (by decide) (Nat.le_of_ble_eq_true rfl) dX6_lengthen_216 (sp_X6_lenW_1 (N := N) (g := g) (F := F) (S := nxS S (8 * kk + 2 * s + dd)) (r := w1 r 0 (8 * kk + 2 * s + dd)) (a := loopT (stepW N F g rem 0 S r) (8 * kk + 2 * s + dd) a) hN hF (by rw [enx]; exact hbx2) (by rw [enx]; exact hcn2) hv5 hg3 (by omega) hv6 (by rw [p3, hW2.2.2.1]; exact h7) (hW2.2.2.2.cong (by rw [p3]) p4) p2 p1 (by
                                  rw [show g - 1 = rem by omega]
                                  have hb1 := (stepW_rg N F g rem 0 S r a (8 * kk + 2 * s + dd)).2
                                  have hb2 := sm_mono (f := cfn N F rem S) (cfn_nn N F rem S) (n := (8 * kk + 2 * s + dd) + 1) (m := 584) (by omega)
                                  rw [sm_s, show cfn N F rem S (8 * kk + 2 * s + dd) = cnt N F rem (nxS S (8 * kk + 2 * s + dd)) from if_pos hgo] at hb2
                                  rw [show g - 0 = rem + 1 by omega, cnt_s] at hbd
                                  omega) (by
                                  rw [enx]
                                  refine ⟨us2, sp2, hL2, hA2, ?_⟩
                                  rcases hB2 with z | z
                                  · exact Or.inl z
                                  · exact Or.inr z.2) (fun z => by
                                  rw [enx]
                                  refine ⟨us2, sp2, hL2, hA2, ?_⟩
                                  rcases hB2 with z2 | z2
                                  · exact z2
                                  · have := hl1 z2.1
                                    omega)) (fun w_216 h_216 => ?_)
                              have hW3 := WS_go (dep := 0) (by decide) hW2 hgo hfr2 h_216.1 h_216.2.1 p5 h_216.2.2.1 (by rw [show g - 1 = rem by omega] at h_216; exact h_216.2.2.2)
                              refine inc_10 X dX6_lengthen_219 rfl ?_
                              refine j_goto (tgt := 165) X dX6_lengthen_222 (by decide) ?_
                              exact ih165 (dd + 1) _ hW3 (by omega) (by omega)
                      exact L_165 3 0 u hW (by omega) (by omega)
                    refine j_iload X dX6_lengthen_119 rfl ?_
                    refine j_if_eq (tgt := 140) X dX6_lengthen_121 (by decide) ⟨by omega, by omega⟩ (fun h_121 => ?_) (fun h_121 => ?_)
                    · refine j_iconst X dX6_lengthen_140 ?_
                      exact C_141 0 (Or.inl rfl) (fun z => absurd z (by decide)) (fun _ => trivial)
                    · refine j_iload X dX6_lengthen_124 rfl ?_
                      refine j_if_eq (tgt := 140) X dX6_lengthen_126 (by decide) ⟨by omega, by omega⟩ (fun h_126 => ?_) (fun h_126 => ?_)
                      · refine j_iconst X dX6_lengthen_140 ?_
                        exact C_141 0 (Or.inl rfl) (fun z => absurd z (by decide)) (fun _ => trivial)
                      · refine j_aload_n X dX6_lengthen_129 rfl ?_
                        refine j_getI X dX6_lengthen_130 ff_X6_69 rfl rfl ?_
                        refine jt_if_eq (tgt := 140) X dX6_lengthen_133 (by decide) ⟨by omega, by omega⟩ (by first | decide | omega) ?_
                        refine j_iconst X dX6_lengthen_140 ?_
                        exact C_141 0 (Or.inl rfl) (fun z => absurd z (by decide)) (fun _ => trivial)
                  refine j_aload_n X dX6_lengthen_80 rfl ?_
                  refine j_getI X dX6_lengthen_81 ff_X6_39 rfl rfl ?_
                  refine j_sipush X dX6_lengthen_84 (by decide +kernel) ?_
                  refine jf_icmp_gt (tgt := 116) X dX6_lengthen_87 (by decide) ⟨by omega, by omega⟩ ⟨by omega, by omega⟩ (by first | decide | omega) ?_
                  have hk9 : -24 ≤ (kk : Int) - 24 ∧ (kk : Int) - 24 ≤ 48 := by omega
                  refine j_aload_n X dX6_lengthen_90 rfl ?_
                  refine j_iload X dX6_lengthen_91 rfl ?_
                  refine j_iload X dX6_lengthen_93 rfl ?_
                  refine cV2i X mf_X2_isCrossed mv_X2_isCrossed ml_X6_101 (by decide) rfl rfl (Nat.le_of_ble_eq_true rfl) dX6_lengthen_95 (sp_X2_isCrossed_24 hz (by omega) ⟨by omega, by omega⟩) (fun a_95 w_95 h_95 => ?_)
                  obtain ⟨_, _⟩ := h_95
                  subst a_95
                  subst w_95
                  refine jb_eq (tgt := 116) X dX6_lengthen_98 (by decide) (fun h_98 => ?_) (fun h_98 => ?_)
                  · refine j_iconst X dX6_lengthen_116 ?_
                    exact C_117 0 (Or.inl rfl) (fun z => absurd z (by decide)) (fun _ => Or.inr (fun z => h_98 ((crs_is hF hLu hAu hBu (by omega) (by omega)).mpr z.1)))
                  · have hcr9 : crS N S (s : Int) ((kk : Int) - 24) := (crs_is hF hLu hAu hBu (by omega) (by omega)).mp h_98
                    refine j_aload_n X dX6_lengthen_101 rfl ?_
                    refine j_iload X dX6_lengthen_102 rfl ?_
                    refine j_iload X dX6_lengthen_104 rfl ?_
                    refine cV2i X mf_X2_fits mv_X2_fits ml_X6_105 (by decide) rfl rfl (Nat.le_of_ble_eq_true rfl) dX6_lengthen_106 (sp_X2_fits_24 (sp := sp) (us := us) hLu.1.1 hLu.1.2.1 hLu.1.2.2.1 hLu.1.2.2.2.1 hLu.1.2.2.2.2 hLu.2.1.1 ⟨by omega, by omega⟩) (fun a_106 w_106 h_106 => ?_)
                    obtain ⟨_, _⟩ := h_106
                    subst a_106
                    subst w_106
                    refine jb_eq (tgt := 116) X dX6_lengthen_109 (by decide) (fun h_109 => ?_) (fun h_109 => ?_)
                    · refine j_iconst X dX6_lengthen_116 ?_
                      exact C_117 0 (Or.inl rfl) (fun z => absurd z (by decide)) (fun _ => Or.inr (fun z => h_109 ((fit_is hF hbx hLu hAu hBu (by omega) hcr9).mpr z.2)))
                    · refine j_iconst X dX6_lengthen_112 ?_
                      refine j_goto (tgt := 117) X dX6_lengthen_113 (by decide) ?_
                      exact C_117 1 (Or.inr rfl) (fun _ => ⟨hcr9, (fit_is hF hbx hLu hAu hBu (by omega) hcr9).mp h_109⟩) (fun z => absurd z (by decide))
            exact L_74 5 0 u hW (by omega) (by omega)
      obtain ⟨kk0, hkk, hkk2⟩ : ∃ kk0 : Nat, max (fstP w 46 4 + 1) (-24) = (kk0 : Int) - 24 ∧ kk0 ≤ 73 := ⟨(max (fstP w 46 4 + 1) (-24) + 24).toNat, by omega, by omega⟩
      rw [hkk]
      exact L_64 74 kk0 w (by have h0 := (WS_0 (rem := rem) (r := r) hq hrc).skip (8 * kk0) (fun t _ ht => no_lo hF hL hA hB (by omega) (Or.inl (by unfold tK; omega))); rw [Nat.zero_add] at h0; exact h0) hkk2 (by omega)
    refine j_iconst X dX6_lengthen_24 ?_
    refine j_iadd X dX6_lengthen_25 ?_
    refine j_aload_n X dX6_lengthen_26 rfl ?_
    refine j_getI X dX6_lengthen_27 ff_X6_66 rfl rfl ?_
    refine j_icmp_ne (tgt := 37) X dX6_lengthen_30 (by decide) ⟨by omega, by omega⟩ ⟨by omega, by omega⟩ (fun h_30 => ?_) (fun h_30 => ?_)
    · refine j_iconst X dX6_lengthen_37 ?_
      exact C_38 0 (Or.inl rfl) (fun z => absurd z (by decide)) (fun _ => by omega)
    · refine j_iconst X dX6_lengthen_33 ?_
      refine j_goto (tgt := 38) X dX6_lengthen_34 (by decide) ?_
      exact C_38 1 (Or.inr rfl) (fun _ => by omega) (fun z => absurd z (by decide))
