/-! ===== the reference's search: measure, goes ===== -/
def rS (w : wd) (d : Nat) : lys := fun f => (w 71 (144 * d + f), w 72 (144 * d + f), w 73 (144 * d + f))
theorem c4 (d s : Nat) : (4 : Int) * (d : Int) + (s : Int) = ((4 * d + s : Nat) : Int) := by omega
abbrev tru (_ : Nat) : Prop := True
def msR (S : lys) (w u : wd) (d s N : Nat) : Prop := (∀ o, o ≠ 75 → o ≠ 76 → u o = w o) ∧ (∀ i, i < s → u 75 (4 * d + i) = loP tru (i : Int) S N ∧ u 76 (4 * d + i) = hiP tru (i : Int) S N) ∧ ∀ i, (i < 4 * d ∨ 4 * d + 4 ≤ i) → u 75 i = w 75 i ∧ u 76 i = w 76 i
def msI (S : lys) (w u : wd) (d s N f : Nat) : Prop := msR S w u d s N ∧ u 75 (4 * d + s) = loP tru (s : Int) S f ∧ u 76 (4 * d + s) = hiP tru (s : Int) S f
theorem msR.zero {S : lys} (w : wd) (d N : Nat) : msR S w w d 0 N := ⟨fun _ _ _ => rfl, fun i hi => absurd hi (Nat.not_lt_zero _), fun _ _ => ⟨rfl, rfl⟩⟩
theorem msR.put {S : lys} {w u : wd} {d s N : Nat} {a b : Int} (h : msR S w u d s N) (hs : s < 4) : msR S w (wst (wst u 75 (4 * d + s) a) 76 (4 * d + s) b) d s N := by
  refine ⟨fun o h1 h2 => ?_, fun i hi => ?_, fun i hi => ?_⟩
  · rw [wst_ne h2, wst_ne h1]; exact h.1 o h1 h2
  · have hne : ¬ 4 * d + i = 4 * d + s := by omega
    simp only [wst, w1, hne, if_false, if_true, show ¬ (75 : Nat) = 76 by decide, show ¬ (76 : Nat) = 75 by decide]
    exact h.2.1 i hi
  · have hne : ¬ i = 4 * d + s := by omega
    simp only [wst, w1, hne, if_false, if_true, show ¬ (75 : Nat) = 76 by decide, show ¬ (76 : Nat) = 75 by decide]
    exact h.2.2 i hi
theorem ms_v {u : wd} {i : Nat} {a b : Int} : (wst (wst u 75 i a) 76 i b) 75 i = a ∧ (wst (wst u 75 i a) 76 i b) 76 i = b := by
  simp [wst, w1]
theorem msI.zero {S : lys} {w u : wd} {d s N : Nat} (h : msR S w u d s N) (hs : s < 4) : msI S w (wst (wst u 75 (4 * d + s) 1000000) 76 (4 * d + s) (-1000000)) d s N 0 := ⟨h.put hs, ms_v.1, ms_v.2⟩
theorem msI.step {S : lys} {w u : wd} {d s N f : Nat} (h : msI S w u d s N f) (hs : s < 4) : msI S w (wst (wst u 75 (4 * d + s) (min (u 75 (4 * d + s)) (al (s : Int) (S f)))) 76 (4 * d + s) (max (u 76 (4 * d + s)) (al (s : Int) (S f)))) d s N (f + 1) := by
  refine ⟨h.1.put hs, ?_, ?_⟩
  · rw [ms_v.1, h.2.1]; simp only [loP, tru, if_true]
  · rw [ms_v.2, h.2.2]; simp only [hiP, tru, if_true]
theorem msI.next {S : lys} {w u : wd} {d s N : Nat} (h : msI S w u d s N N) : msR S w u d (s + 1) N := by
  refine ⟨h.1.1, fun i hi => ?_, h.1.2.2⟩
  rcases Nat.lt_succ_iff_lt_or_eq.mp hi with q | q
  · exact h.1.2.1 i q
  · subst q; exact ⟨h.2.1, h.2.2⟩
def goF (w u : wd) (d : Nat) : Prop := (∀ o, o ≠ 54 → (o < 71 ∨ 74 < o) → u o = w o) ∧ (∀ i, i ≠ 25 → i ≠ 32 → i ≠ 33 → i ≠ 34 → u 54 i = w 54 i) ∧ ∀ o i, 71 ≤ o → o ≤ 73 → i < 144 * (d + 1) → u o i = w o i
def stO (w : wd) (B : Int) : Prop := (0 ≤ w 54 25 ∧ w 54 25 ≤ B) ∧ ∀ p, p < 16384 → 0 ≤ w 74 p ∧ w 74 p ≤ w 54 25 + 1
def goI (S : lys) (N : Nat) (w u : wd) (d t f : Nat) (c : Int) : Prop := goF w u d ∧ u 54 25 = w 54 25 + 2 ∧ (∀ p, p < 16384 → 0 ≤ u 74 p ∧ u 74 p ≤ u 54 25 + 1) ∧ ((c = 1 ∧ cnO (w 69) (nxS S t) f ∧ mkO (w 69) (nxS S t) (w 54 25 + 2) (u 74) f ∧ ∀ g, g < f → rS u (d + 1) g = nxS S t g) ∨ (c = 0 ∧ ¬ cnO (w 69) (nxS S t) N))
def goV (u v : wd) (d f : Nat) (p : pl) : Prop := (∀ o, o ≠ 54 → (o < 71 ∨ 73 < o) → v o = u o) ∧ (∀ i, i ≠ 32 → i ≠ 33 → i ≠ 34 → v 54 i = u 54 i) ∧ (∀ o i, 71 ≤ o → o ≤ 73 → i ≠ 144 * (d + 1) + f → v o i = u o i) ∧ v 71 (144 * (d + 1) + f) = p.1 ∧ v 72 (144 * (d + 1) + f) = p.2.1 ∧ v 73 (144 * (d + 1) + f) = p.2.2
theorem goV.copy (u : wd) (d f : Nat) (p : pl) : goV u (wst (wst (wst u 71 (144 * (d + 1) + f) p.1) 72 (144 * (d + 1) + f) p.2.1) 73 (144 * (d + 1) + f) p.2.2) d f p := by
  refine ⟨fun o h1 h2 => by rw [wst_ne (by omega), wst_ne (by omega), wst_ne (by omega)], fun i _ _ _ => rfl, fun o i h1 h2 h3 => ?_, ?_, ?_, ?_⟩
  · rcases (by omega : o = 71 ∨ o = 72 ∨ o = 73) with rfl | rfl | rfl <;> simp [wst, w1, h3]
  · simp [wst, w1]
  · simp [wst, w1]
  · simp [wst, w1]
theorem goV.turn {u v : wd} {d f : Nat} {p r : pl} {s k x y q : Int} (h : goV u v d f p) : goV u (wst (wst (wst (trnM v s k x y q) 71 (144 * (d + 1) + f) r.1) 72 (144 * (d + 1) + f) r.2.1) 73 (144 * (d + 1) + f) r.2.2) d f r := by
  have h2 := goV.copy (trnM v s k x y q) d f r
  refine ⟨fun o a b => ?_, fun i a b c => ?_, fun o i a b c => ?_, h2.2.2.2⟩
  · rw [h2.1 o a b, trnM_o a]; exact h.1 o a b
  · rw [h2.2.1 i a b c, trnM_i ⟨a, b, c⟩]; exact h.2.1 i a b c
  · rw [h2.2.2.1 o i a b c, trnM_o (by omega)]; exact h.2.2.1 o i a b c
theorem goI.zero {S : lys} {N : Nat} {w : wd} {d t : Nat} {B : Int} (h : stO w B) : goI S N w (wst w 54 25 (w 54 25 + 2)) d t 0 1 := by
  have e : wst w 54 25 (w 54 25 + 2) 74 = w 74 := wst_ne (by decide)
  have e2 : wst w 54 25 (w 54 25 + 2) 54 25 = w 54 25 + 2 := by simp [wst, w1]
  refine ⟨⟨fun o h1 _ => wst_ne h1, fun i h1 _ _ _ => by simp [wst, w1, h1], fun o i h1 h2 _ => by rw [wst_ne (by omega)]⟩, e2, fun p hp => ?_, Or.inl ⟨rfl, cnO.zero _ _, mkO.zero (fun p hp => ?_), fun g hg => absurd hg (Nat.not_lt_zero _)⟩⟩
  · rw [e, e2]; have := h.2 p hp; omega
  · rw [e]; have := h.2 p hp; omega
theorem goI.step {S : lys} {N : Nat} {w u v : wd} {d t f p : Nat} {c2 : Int} (h : goI S N w u d t f 1) (hf : f < N) (hv : goV u v d f (nxS S t f)) (hF : ∀ f, f < N → w 69 f = 0 ∨ w 69 f = 1) (h0 : 0 ≤ w 54 25) (hp : pI (nxS S t f) = (p : Int)) (hp2 : p < 16384) (hc : (c2 = 1 ∧ cnO (w 69) (nxS S t) (f + 1)) ∨ (c2 = 0 ∧ ¬ cnO (w 69) (nxS S t) (f + 1))) : goI S N w (wst v 74 p (w 54 25 + 2 + w 69 f)) d t (f + 1) c2 := by
  obtain ⟨h1, h2, h3, h4⟩ := h
  have e54 : wst v 74 p (w 54 25 + 2 + w 69 f) 54 = v 54 := wst_ne (by decide)
  have e74 : wst v 74 p (w 54 25 + 2 + w 69 f) 74 = w1 (u 74) p (w 54 25 + 2 + w 69 f) := by
    show (if 74 = 74 then w1 (v 74) p _ else v 74) = _
    rw [if_pos rfl, hv.1 74 (by decide) (by decide)]
  have hFf := hF f hf
  refine ⟨⟨fun o a b => ?_, fun i a b c e => ?_, fun o i a b c => ?_⟩, ?_, fun r hr => ?_, ?_⟩
  · rw [wst_ne (by omega), hv.1 o a (by omega)]; exact h1.1 o a b
  · rw [e54, hv.2.1 i b c e]; exact h1.2.1 i a b c e
  · rw [wst_ne (by omega), hv.2.2.1 o i a b (by omega)]; exact h1.2.2 o i a b c
  · rw [e54, hv.2.1 25 (by decide) (by decide) (by decide)]; exact h2
  · rw [e74, e54, hv.2.1 25 (by decide) (by decide) (by decide), h2]
    have h5 := h3 r hr
    simp only [w1]
    split <;> omega
  · rcases hc with ⟨z, hc⟩ | ⟨z, hc⟩
    · rcases h4 with ⟨_, q2, q3, q4⟩ | ⟨q, _⟩
      · refine Or.inl ⟨z, hc, ?_, fun g hg => ?_⟩
        · rw [e74]; exact q3.step hf hF (by omega) hp
        · have er : ∀ o, 71 ≤ o → o ≤ 73 → wst v 74 p (w 54 25 + 2 + w 69 f) o = v o := fun o a b => wst_ne (by omega)
          simp only [rS]
          rw [er 71 (by decide) (by decide), er 72 (by decide) (by decide), er 73 (by decide) (by decide)]
          rcases Nat.lt_succ_iff_lt_or_eq.mp hg with z | z
          · have := q4 g z
            simp only [rS] at this
            rw [hv.2.2.1 71 _ (by decide) (by decide) (by omega), hv.2.2.1 72 _ (by decide) (by decide) (by omega), hv.2.2.1 73 _ (by decide) (by decide) (by omega)]
            exact this
          · subst z
            rw [hv.2.2.2.1, hv.2.2.2.2.1, hv.2.2.2.2.2]
      · exact absurd q (by decide)
    · exact Or.inr ⟨z, fun q => hc (q.mono (by omega))⟩
theorem go_end {S : lys} {N : Nat} {w u : wd} {d t f : Nat} {c : Int} (h : goI S N w u d t f c) (he : f = N ∨ c = 0) (hcr : crS N S (tS t : Int) (tK t)) (hiff : cnO (w 69) (nxS S t) N ↔ fitS N (w 69) S (tS t : Int) (tK t)) : (c = 1 ∧ goS N (w 69) S t ∧ ∀ f, f < N → rS u (d + 1) f = nxS S t f) ∨ (c = 0 ∧ ¬ goS N (w 69) S t) := by
  obtain ⟨_, _, _, hc4⟩ := h
  rcases hc4 with ⟨z1, z2, z3, z4⟩ | ⟨z1, z2⟩
  · have e : f = N := by omega
    subst e
    exact Or.inl ⟨z1, ⟨hcr, hiff.mp z2⟩, z4⟩
  · exact Or.inr ⟨z1, fun z => z2 (hiff.mpr z.2)⟩
theorem nx_on {S : lys} {t f : Nat} (h : isOn (stp (tS t : Int) (S f)) (tK t) (tD t : Int)) : nxS S t f = mir (tS t : Int) (tK t) (S f) := by
  unfold nxS trS trn; rw [if_pos h]
theorem nx_off {S : lys} {t f : Nat} (h : ¬ isOn (stp (tS t : Int) (S f)) (tK t) (tD t : Int)) : nxS S t f = S f := by
  unfold nxS trS trn; rw [if_neg h]
theorem tKr {t : Nat} (h : t < 584) : -24 ≤ tK t ∧ tK t ≤ 48 := by unfold tK; omega
set_option maxHeartbeats 4000000 in
set_option maxRecDepth 20000 in
theorem sp_X10_measure {n d : Nat} {w : wd} {S : lys} (hn : nOk n w) (hd : d ≤ 3) (hS : ∀ f, f < 4 * n * n → rS w d f = S f) (hb : ∀ f, f < 4 * n * n → okp 100 (S f)) : CalV yX10_measure cX10_measure 5 2 LAY w [vR 54, vI (d : Int)] (fun w' => msR S w w' d 4 (4 * n * n)) := by
  have hN := nn_le hn.1.2
  have hn1 := hn.2
  refine calV_intro (ls := [some (vR 54), some (vI (d : Int)), none, none, none]) (by decide) (Nat.le_of_ble_eq_true rfl) rfl (fun κ ad X hR => ?_)
  refine j_iconst X dX10_measure_0 ?_
  refine s_2 X dX10_measure_1 rfl ?_
  have L_2 : ∀ (m : Nat) (s : Nat) (u : wd) (_ : msR S w u d s (4 * n * n)) (_ : s ≤ 4) (_ : 4 - s < m), J κ LAY ad 0 0 2 [some (vR 54), some (vI (d : Int)), some (vI (s : Int)), none, none] [] u := by
    intro m
    induction m with
    | zero => intros; exact absurd ‹_ < 0› (Nat.not_lt_zero _)
    | succ m ih2 =>
      intro s u hu h1 h2
      refine j_iload_n X dX10_measure_2 rfl ?_
      refine j_iconst X dX10_measure_3 ?_
      refine j_icmp_ge (tgt := 175) X dX10_measure_4 (by decide) ⟨by omega, by omega⟩ ⟨by omega, by omega⟩ (fun h_4 => ?_) (fun h_4 => ?_)
      · exact j_return X hR dX10_measure_175 (by rw [show s = 4 by omega] at hu; exact hu)
      · have hs : s < 4 := by omega
        refine j_aload_n X dX10_measure_7 rfl ?_
        refine j_getR X dX10_measure_8 ff_X10_78 rfl rfl ?_
        refine j_iconst X dX10_measure_11 ?_
        refine j_iload_n X dX10_measure_12 rfl ?_
        refine j_imul X dX10_measure_13 ?_
        refine j_iload_n X dX10_measure_14 rfl ?_
        refine j_iadd X dX10_measure_15 ?_
        rw [c4]
        refine j_ldc X dX10_measure_16 kc_X10_205 ?_
        refine j_iastk X dX10_measure_18 rfl (by omega) (by decide) ?_
        refine j_aload_n X dX10_measure_19 rfl ?_
        refine j_getR X dX10_measure_20 ff_X10_81 rfl rfl ?_
        refine j_iconst X dX10_measure_23 ?_
        refine j_iload_n X dX10_measure_24 rfl ?_
        refine j_imul X dX10_measure_25 ?_
        refine j_iload_n X dX10_measure_26 rfl ?_
        refine j_iadd X dX10_measure_27 ?_
        rw [c4]
        refine j_ldc X dX10_measure_28 kc_X10_206 ?_
        refine j_iastk X dX10_measure_30 rfl (by omega) (by decide) ?_
        refine j_iconst X dX10_measure_31 ?_
        refine s_3 X dX10_measure_32 rfl ?_
        have L_33 : ∀ (m : Nat) (f : Nat) (u : wd) (_ : msI S w u d s (4 * n * n) f) (_ : f ≤ 4 * n * n) (_ : 4 * n * n - f < m), J κ LAY ad 0 0 33 [some (vR 54), some (vI (d : Int)), some (vI (s : Int)), some (vI (f : Int)), none] [] u := by
          intro m
          induction m with
          | zero => intros; exact absurd ‹_ < 0› (Nat.not_lt_zero _)
          | succ m ih33 =>
            intro f u hv h3 h4
            have hun : nOk n u := ⟨hn.1, (congrFun (hv.1.1 54 (by decide) (by decide)) 1).trans hn.2⟩
            refine j_iload_n X dX10_measure_33 rfl ?_
            refine j_aload_n X dX10_measure_34 rfl ?_
            refine cV0i X mf_X10_facets mv_X10_facets ml_X10_97 (by decide) rfl rfl (Nat.le_of_ble_eq_true rfl) dX10_measure_35 (sp_X10_facets hun) (fun a_35 w_35 h_35 => ?_)
            obtain ⟨_, _⟩ := h_35
            subst a_35
            subst w_35
            refine j_icmp_ge (tgt := 169) X dX10_measure_38 (by decide) ⟨by omega, by omega⟩ ⟨by omega, by omega⟩ (fun h_38 => ?_) (fun h_38 => ?_)
            · refine inc_2 X dX10_measure_169 rfl ?_
              refine j_goto (tgt := 2) X dX10_measure_172 (by decide) ?_
              refine fg_3 ?_
              refine fg_4 ?_
              obtain rfl : f = 4 * n * n := by omega
              exact ih2 (s + 1) u hv.next (by omega) (by omega)
            · have hf : f < 4 * n * n := by omega
              have hok := hb f hf
              have hab := al_b (s := (s : Int)) ⟨by omega, by omega⟩ hok
              have hlb := lo_b (P := tru) (s := (s : Int)) (S := S) (n := f) (fun g hg => (al_b ⟨by omega, by omega⟩ (hb g (by omega))).1)
              have hhb := hi_b (P := tru) (s := (s : Int)) (S := S) (n := f) (fun g hg => (al_b ⟨by omega, by omega⟩ (hb g (by omega))).2)
              have e75 := hv.2.1
              have e76 := hv.2.2
              have h71 : u 71 (144 * d + f) = (S f).1 := (congrFun (hv.1.1 71 (by decide) (by decide)) _).trans (congrArg (fun p : pl => p.1) (hS f hf))
              have h72 : u 72 (144 * d + f) = (S f).2.1 := (congrFun (hv.1.1 72 (by decide) (by decide)) _).trans (congrArg (fun p : pl => p.2.1) (hS f hf))
              have h73 : u 73 (144 * d + f) = (S f).2.2 := (congrFun (hv.1.1 73 (by decide) (by decide)) _).trans (congrArg (fun p : pl => p.2.2) (hS f hf))
              refine j_iload_n X dX10_measure_41 rfl ?_
              refine j_aload_n X dX10_measure_42 rfl ?_
              refine j_getR X dX10_measure_43 ff_X10_66 rfl rfl ?_
              refine j_sipush X dX10_measure_46 (by decide +kernel) ?_
              refine j_iload_n X dX10_measure_49 rfl ?_
              refine j_imul X dX10_measure_50 ?_
              refine j_iload_n X dX10_measure_51 rfl ?_
              refine j_iadd X dX10_measure_52 ?_
              rw [c144]
              refine j_ialdk X dX10_measure_53 rfl (by omega) (by decide) ?_
              rw [h71]
              refine j_aload_n X dX10_measure_54 rfl ?_
              refine j_getR X dX10_measure_55 ff_X10_69 rfl rfl ?_
              refine j_sipush X dX10_measure_58 (by decide +kernel) ?_
              refine j_iload_n X dX10_measure_61 rfl ?_
              refine j_imul X dX10_measure_62 ?_
              refine j_iload_n X dX10_measure_63 rfl ?_
              refine j_iadd X dX10_measure_64 ?_
              rw [c144]
              refine j_ialdk X dX10_measure_65 rfl (by omega) (by decide) ?_
              rw [h72]
              refine j_aload_n X dX10_measure_66 rfl ?_
              refine j_getR X dX10_measure_67 ff_X10_72 rfl rfl ?_
              refine j_sipush X dX10_measure_70 (by decide +kernel) ?_
              refine j_iload_n X dX10_measure_73 rfl ?_
              refine j_imul X dX10_measure_74 ?_
              refine j_iload_n X dX10_measure_75 rfl ?_
              refine j_iadd X dX10_measure_76 ?_
              rw [c144]
              refine j_ialdk X dX10_measure_77 rfl (by omega) (by decide) ?_
              rw [h73]
              refine cS4i X mf_X10_along ms_X10_along ml_X10_118 (by decide) (Nat.le_of_ble_eq_true rfl) dX10_measure_78 (sp_X10_along ⟨by omega, by omega⟩ ⟨by omega, by omega⟩) (fun a_78 w_78 h_78 => ?_)
              obtain ⟨_, _⟩ := h_78
              subst a_78
              subst w_78
              rw [show alo (s : Int) (S f).1 (S f).2.1 (S f).2.2 = al (s : Int) (S f) from rfl]
              refine s_4 X dX10_measure_81 rfl ?_
              refine j_aload_n X dX10_measure_83 rfl ?_
              refine j_getR X dX10_measure_84 ff_X10_78 rfl rfl ?_
              refine j_iconst X dX10_measure_87 ?_
              refine j_iload_n X dX10_measure_88 rfl ?_
              refine j_imul X dX10_measure_89 ?_
              refine j_iload_n X dX10_measure_90 rfl ?_
              refine j_iadd X dX10_measure_91 ?_
              rw [c4]
              refine j_iload X dX10_measure_92 rfl ?_
              have C_122 : J κ LAY ad 0 0 122 [some (vR 54), some (vI (d : Int)), some (vI (s : Int)), some (vI (f : Int)), some (vI (al (s : Int) (S f)))] [vI (min (u 75 (4 * d + s)) (al (s : Int) (S f))), vI ((4 * d + s : Nat) : Int), vR 75] u := by
                skip
                refine j_iastk X dX10_measure_122 rfl (by omega) (by decide) ?_
                refine j_aload_n X dX10_measure_123 rfl ?_
                refine j_getR X dX10_measure_124 ff_X10_81 rfl rfl ?_
                refine j_iconst X dX10_measure_127 ?_
                refine j_iload_n X dX10_measure_128 rfl ?_
                refine j_imul X dX10_measure_129 ?_
                refine j_iload_n X dX10_measure_130 rfl ?_
                refine j_iadd X dX10_measure_131 ?_
                rw [c4]
                refine j_iload X dX10_measure_132 rfl ?_
                have C_162 : J κ LAY ad 0 0 162 [some (vR 54), some (vI (d : Int)), some (vI (s : Int)), some (vI (f : Int)), some (vI (al (s : Int) (S f)))] [vI (max (u 76 (4 * d + s)) (al (s : Int) (S f))), vI ((4 * d + s : Nat) : Int), vR 76] (wst u 75 (4 * d + s) (min (u 75 (4 * d + s)) (al (s : Int) (S f)))) := by
                  skip
                  skip
                  refine j_iastk X dX10_measure_162 rfl (by omega) (by decide) ?_
                  refine inc_3 X dX10_measure_163 rfl ?_
                  refine j_goto (tgt := 33) X dX10_measure_166 (by decide) ?_
                  refine fg_4 ?_
                  exact ih33 (f + 1) _ (hv.step hs) (by omega) (by omega)
                refine j_aload_n X dX10_measure_134 rfl ?_
                refine j_getR X dX10_measure_135 ff_X10_81 rfl rfl ?_
                refine j_iconst X dX10_measure_138 ?_
                refine j_iload_n X dX10_measure_139 rfl ?_
                refine j_imul X dX10_measure_140 ?_
                refine j_iload_n X dX10_measure_141 rfl ?_
                refine j_iadd X dX10_measure_142 ?_
                rw [c4]
                refine j_ialdk X dX10_measure_143 rfl (by omega) (by decide) ?_
                rw [show (wst u 75 (4 * d + s) (min (u 75 (4 * d + s)) (al (s : Int) (S f)))) 76 (4 * d + s) = u 76 (4 * d + s) from rfl]
                refine j_icmp_le (tgt := 152) X dX10_measure_144 (by decide) ⟨by omega, by omega⟩ ⟨by omega, by omega⟩ (fun h_144 => ?_) (fun h_144 => ?_)
                · refine j_aload_n X dX10_measure_152 rfl ?_
                  refine j_getR X dX10_measure_153 ff_X10_81 rfl rfl ?_
                  refine j_iconst X dX10_measure_156 ?_
                  refine j_iload_n X dX10_measure_157 rfl ?_
                  refine j_imul X dX10_measure_158 ?_
                  refine j_iload_n X dX10_measure_159 rfl ?_
                  refine j_iadd X dX10_measure_160 ?_
                  rw [c4]
                  refine j_ialdk X dX10_measure_161 rfl (by omega) (by decide) ?_
                  rw [Int.max_eq_left (by omega)] at C_162
                  exact C_162
                · refine j_iload X dX10_measure_147 rfl ?_
                  refine j_goto (tgt := 162) X dX10_measure_149 (by decide) ?_
                  rw [Int.max_eq_right (by omega)] at C_162
                  exact C_162
              refine j_aload_n X dX10_measure_94 rfl ?_
              refine j_getR X dX10_measure_95 ff_X10_78 rfl rfl ?_
              refine j_iconst X dX10_measure_98 ?_
              refine j_iload_n X dX10_measure_99 rfl ?_
              refine j_imul X dX10_measure_100 ?_
              refine j_iload_n X dX10_measure_101 rfl ?_
              refine j_iadd X dX10_measure_102 ?_
              rw [c4]
              refine j_ialdk X dX10_measure_103 rfl (by omega) (by decide) ?_
              refine j_icmp_ge (tgt := 112) X dX10_measure_104 (by decide) ⟨by omega, by omega⟩ ⟨by omega, by omega⟩ (fun h_104 => ?_) (fun h_104 => ?_)
              · refine j_aload_n X dX10_measure_112 rfl ?_
                refine j_getR X dX10_measure_113 ff_X10_78 rfl rfl ?_
                refine j_iconst X dX10_measure_116 ?_
                refine j_iload_n X dX10_measure_117 rfl ?_
                refine j_imul X dX10_measure_118 ?_
                refine j_iload_n X dX10_measure_119 rfl ?_
                refine j_iadd X dX10_measure_120 ?_
                rw [c4]
                refine j_ialdk X dX10_measure_121 rfl (by omega) (by decide) ?_
                rw [Int.min_eq_left (by omega)] at C_122
                exact C_122
              · refine j_iload X dX10_measure_107 rfl ?_
                refine j_goto (tgt := 122) X dX10_measure_109 (by decide) ?_
                rw [Int.min_eq_right (by omega)] at C_122
                exact C_122
        exact L_33 (4 * n * n + 1) 0 _ (msI.zero hu hs) (by omega) (by omega)
  exact L_2 5 0 w (msR.zero w d _) (by omega) (by omega)
set_option maxHeartbeats 4000000 in
set_option maxRecDepth 20000 in
theorem sp_X10_goes {n d t : Nat} {w : wd} {S : lys} {R B : Int} (hn : nOk n w) (hS : ∀ f, f < 4 * n * n → rS w d f = S f) (hd : d ≤ 2) (ht : t < 584) (hF : ∀ f, f < 144 → w 69 f = 0 ∨ w 69 f = 1) (hR : R ≤ 15) (hbx : BOX R (4 * n * n) S) (hcn : CNS (4 * n * n) (w 69) S) (hms : ∀ i, i < 4 → w 75 (4 * d + i) = loP tru (i : Int) S (4 * n * n) ∧ w 76 (4 * d + i) = hiP tru (i : Int) S (4 * n * n)) (hst : stO w B) (hB : B ≤ 2000000000) : CalI yX10_goes cX10_goes 11 .boolean 3 LAY w [vR 54, vI (d : Int), vI (t : Int)] (fun a w' => goF w w' d ∧ stO w' (B + 2 * ib (crS (4 * n * n) S (tS t : Int) (tK t))) ∧ ((a = 1 ∧ goS (4 * n * n) (w 69) S t ∧ ∀ f, f < 4 * n * n → rS w' (d + 1) f = nxS S t f) ∨ (a = 0 ∧ ¬ goS (4 * n * n) (w 69) S t))) := by
  have hN := nn_le hn.1.2
  have hn1 := hn.2
  have hk := tKr ht
  have hs4 := tS_rg t
  have hd2 := tD_rg t
  have hok : ∀ f, f < 4 * n * n → okp 100 (S f) := fun f hf => by have := hbx.1 f hf; unfold okp at this ⊢; omega
  obtain ⟨hm1, hm2⟩ := hms (tS t) hs4
  have hlb := lo_b (P := tru) (s := ((tS t : Nat) : Int)) (S := S) (n := 4 * n * n) (fun g hg => (al_b ⟨by omega, by omega⟩ (hok g (by omega))).1)
  have hhb := hi_b (P := tru) (s := ((tS t : Nat) : Int)) (S := S) (n := 4 * n * n) (fun g hg => (al_b ⟨by omega, by omega⟩ (hok g (by omega))).2)
  have hcro := cro_is (N := 4 * n * n) (S := S) (s := ((tS t : Nat) : Int)) (k := tK t) ⟨by omega, by omega⟩ hk hok
  have hst1 := hst.1
  refine calI_intro (ls := [some (vR 54), some (vI (d : Int)), some (vI (t : Int)), none, none, none, none, none, none, none, none]) (by decide) (Nat.le_of_ble_eq_true rfl) rfl (fun κ ad X hR => ?_)
  refine j_iload_n X dX10_goes_0 rfl ?_
  refine j_bipush X dX10_goes_1 (by decide +kernel) ?_
  refine j_irem X dX10_goes_3 (by omega) (by omega) (by omega) (by omega) ?_
  refine j_iconst X dX10_goes_4 ?_
  refine j_idiv X dX10_goes_5 (by omega) (by omega) (by omega) (by omega) ?_
  rw [show (t : Int) % 8 / 2 = ((tS t : Nat) : Int) by unfold tS; omega]
  refine s_3 X dX10_goes_6 rfl ?_
  refine j_iload_n X dX10_goes_7 rfl ?_
  refine j_bipush X dX10_goes_8 (by decide +kernel) ?_
  refine j_idiv X dX10_goes_10 (by omega) (by omega) (by omega) (by omega) ?_
  refine j_bipush X dX10_goes_11 (by decide +kernel) ?_
  refine j_iadd X dX10_goes_13 ?_
  rw [show (t : Int) / 8 + -24 = tK t by unfold tK; omega]
  refine s_4 X dX10_goes_14 rfl ?_
  refine j_aload_n X dX10_goes_16 rfl ?_
  refine j_getR X dX10_goes_17 ff_X10_78 rfl rfl ?_
  refine j_iconst X dX10_goes_20 ?_
  refine j_iload_n X dX10_goes_21 rfl ?_
  refine j_imul X dX10_goes_22 ?_
  refine j_iload_n X dX10_goes_23 rfl ?_
  refine j_iadd X dX10_goes_24 ?_
  rw [c4]
  refine j_ialdk X dX10_goes_25 rfl (by omega) (by decide) ?_
  rw [hm1]
  refine j_bipush X dX10_goes_26 (by decide +kernel) ?_
  refine j_iload X dX10_goes_28 rfl ?_
  refine j_imul X dX10_goes_30 ?_
  refine j_icmp_ge (tgt := 52) X dX10_goes_31 (by decide) ⟨by omega, by omega⟩ ⟨by omega, by omega⟩ (fun h_31 => ?_) (fun h_31 => ?_)
  · refine j_iconst X dX10_goes_52 ?_
    exact j_zreturn X hR dX10_goes_53 (by first | exact Or.inl rfl | exact Or.inr rfl | exact ib_01) ⟨⟨fun _ _ _ => rfl, fun _ _ _ _ _ => rfl, fun _ _ _ _ _ => rfl⟩, ⟨by have := hst.1; have h7 := ib_01 (P := crS (4 * n * n) S (tS t : Int) (tK t)); omega, hst.2⟩, Or.inr ⟨rfl, fun z => absurd (hcro.mpr z.1) (fun h9 => absurd (show loP tru ((tS t : Nat) : Int) S (4 * n * n) < 6 * tK t ∧ 6 * tK t < hiP tru ((tS t : Nat) : Int) S (4 * n * n) from h9) (by omega))⟩⟩
  · refine j_aload_n X dX10_goes_34 rfl ?_
    refine j_getR X dX10_goes_35 ff_X10_81 rfl rfl ?_
    refine j_iconst X dX10_goes_38 ?_
    refine j_iload_n X dX10_goes_39 rfl ?_
    refine j_imul X dX10_goes_40 ?_
    refine j_iload_n X dX10_goes_41 rfl ?_
    refine j_iadd X dX10_goes_42 ?_
    rw [c4]
    refine j_ialdk X dX10_goes_43 rfl (by omega) (by decide) ?_
    rw [hm2]
    refine j_bipush X dX10_goes_44 (by decide +kernel) ?_
    refine j_iload X dX10_goes_46 rfl ?_
    refine j_imul X dX10_goes_48 ?_
    refine j_icmp_gt (tgt := 54) X dX10_goes_49 (by decide) ⟨by omega, by omega⟩ ⟨by omega, by omega⟩ (fun h_49 => ?_) (fun h_49 => ?_)
    · have hcr : crS (4 * n * n) S ((tS t : Nat) : Int) (tK t) := hcro.mp ⟨by show loP tru _ _ _ < _; omega, by show _ < hiP tru _ _ _; omega⟩
      have hbx2 := hbx.trk (d := ((tD t : Nat) : Int)) ⟨by omega, by omega⟩ (by omega) hcr
      have hok2 : ∀ f, f < 4 * n * n → okp 31 (nxS S t f) := fun f hf => by have h9 : okp (R + 5) (nxS S t f) := hbx2.1 f hf; unfold okp at h9 ⊢; omega
      have hcrH : Hid (crS (4 * n * n) S ((tS t : Nat) : Int) (tK t)) := hcr
      clear hcr hcro hlb hhb hm1 hm2
      refine j_aload_n X dX10_goes_54 rfl ?_
      refine j_dup X dX10_goes_55 (fun _ h => by cases h) ?_
      refine j_getI X dX10_goes_56 ff_X10_207 rfl rfl ?_
      refine j_iconst X dX10_goes_59 ?_
      refine j_iadd X dX10_goes_60 ?_
      refine j_putI X dX10_goes_61 fp_X10_207 rfl rfl ?_
      refine j_iconst X dX10_goes_64 ?_
      refine s_5 X dX10_goes_65 rfl ?_
      refine j_iconst X dX10_goes_67 ?_
      refine s_6 X dX10_goes_68 rfl ?_
      have L_70 : ∀ (m : Nat) (f : Nat) (c : Int) (u : wd) (_ : goI S (4 * n * n) w u d t f c) (_ : c = 0 ∨ c = 1) (_ : f ≤ 4 * n * n) (_ : 4 * n * n - f < m), J κ LAY ad 0 0 70 [some (vR 54), some (vI (d : Int)), some (vI (t : Int)), some (vI ((tS t : Nat) : Int)), some (vI (tK t)), some (vI c), some (vI (f : Int)), none, none, none, none] [] u := by
        intro m
        induction m with
        | zero => intros; exact absurd ‹_ < 0› (Nat.not_lt_zero _)
        | succ m ih70 =>
          intro f c u hu hcb h1 h2
          obtain ⟨hgF, hu25, hu74, hc4⟩ := id hu
          have hun : nOk n u := ⟨hn.1, (hgF.2.1 1 (by decide) (by decide) (by decide) (by decide)).trans hn1⟩
          refine j_iload X dX10_goes_70 rfl ?_
          refine j_aload_n X dX10_goes_72 rfl ?_
          refine cV0i X mf_X10_facets mv_X10_facets ml_X10_97 (by decide) rfl rfl (Nat.le_of_ble_eq_true rfl) dX10_goes_73 (sp_X10_facets hun) (fun a_73 w_73 h_73 => ?_)
          obtain ⟨_, _⟩ := h_73
          subst a_73
          subst w_73
          refine j_icmp_ge (tgt := 344) X dX10_goes_76 (by decide) ⟨by omega, by omega⟩ ⟨by omega, by omega⟩ (fun h_76 => ?_) (fun h_76 => ?_)
          · refine j_iload X dX10_goes_344 rfl ?_
            exact j_zreturn X hR dX10_goes_346 (by omega) ⟨hgF, ⟨by rw [ib_t (show crS (4 * n * n) S (tS t : Int) (tK t) from hcrH)]; omega, hu74⟩, go_end hu (by omega) hcrH (cnO_fit hbx hcn)⟩
          · refine j_iload X dX10_goes_79 rfl ?_
            refine j_if_eq (tgt := 344) X dX10_goes_81 (by decide) ⟨by omega, by omega⟩ (fun h_81 => ?_) (fun h_81 => ?_)
            · refine j_iload X dX10_goes_344 rfl ?_
              exact j_zreturn X hR dX10_goes_346 (by omega) ⟨hgF, ⟨by rw [ib_t (show crS (4 * n * n) S (tS t : Int) (tK t) from hcrH)]; omega, hu74⟩, go_end hu (by omega) hcrH (cnO_fit hbx hcn)⟩
            · refine j_sipush X dX10_goes_84 (by decide +kernel) ?_
              refine j_iload_n X dX10_goes_87 rfl ?_
              refine j_imul X dX10_goes_88 ?_
              refine j_iload X dX10_goes_89 rfl ?_
              refine j_iadd X dX10_goes_91 ?_
              rw [c144]
              have hf : f < 4 * n * n := by omega
              obtain ⟨hc1, hcnO, hmk, hrw⟩ := hc4.resolve_right (fun z => by omega)
              obtain ⟨p1, p2, p3⟩ := hbx.1 f hf
              have h71 : u 71 (144 * d + f) = (S f).1 := (hgF.2.2 71 _ (by decide) (by decide) (by omega)).trans (congrArg (fun p : pl => p.1) (hS f hf))
              have h72 : u 72 (144 * d + f) = (S f).2.1 := (hgF.2.2 72 _ (by decide) (by decide) (by omega)).trans (congrArg (fun p : pl => p.2.1) (hS f hf))
              have h73 : u 73 (144 * d + f) = (S f).2.2 := (hgF.2.2 73 _ (by decide) (by decide) (by omega)).trans (congrArg (fun p : pl => p.2.2) (hS f hf))
              have hu69 : u 69 = w 69 := hgF.1 69 (by decide) (by decide)
              have hne : ¬ 144 * d + f = 144 * (d + 1) + f := by omega
              have hvc := goV.copy u d f (S f)
              refine s_7 X dX10_goes_92 rfl ?_
              refine j_iload X dX10_goes_94 rfl ?_
              refine j_sipush X dX10_goes_96 (by decide +kernel) ?_
              refine j_iadd X dX10_goes_99 ?_
              rw [show ((144 * d + f : Nat) : Int) + 144 = ((144 * (d + 1) + f : Nat) : Int) by omega]
              refine s_8 X dX10_goes_100 rfl ?_
              refine j_aload_n X dX10_goes_102 rfl ?_
              refine j_getR X dX10_goes_103 ff_X10_66 rfl rfl ?_
              refine j_iload X dX10_goes_106 rfl ?_
              refine j_aload_n X dX10_goes_108 rfl ?_
              refine j_getR X dX10_goes_109 ff_X10_66 rfl rfl ?_
              refine j_iload X dX10_goes_112 rfl ?_
              refine j_ialdk X dX10_goes_114 rfl (by omega) (by decide) ?_
              rw [h71]
              refine j_iastk X dX10_goes_115 rfl (by omega) (by decide) ?_
              refine j_aload_n X dX10_goes_116 rfl ?_
              refine j_getR X dX10_goes_117 ff_X10_69 rfl rfl ?_
              refine j_iload X dX10_goes_120 rfl ?_
              refine j_aload_n X dX10_goes_122 rfl ?_
              refine j_getR X dX10_goes_123 ff_X10_69 rfl rfl ?_
              refine j_iload X dX10_goes_126 rfl ?_
              refine j_ialdk X dX10_goes_128 rfl (by omega) (by decide) ?_
              rw [show (wst u 71 (144 * (d + 1) + f) (S f).1) 72 (144 * d + f) = (S f).2.1 from h72]
              refine j_iastk X dX10_goes_129 rfl (by omega) (by decide) ?_
              refine j_aload_n X dX10_goes_130 rfl ?_
              refine j_getR X dX10_goes_131 ff_X10_72 rfl rfl ?_
              refine j_iload X dX10_goes_134 rfl ?_
              refine j_aload_n X dX10_goes_136 rfl ?_
              refine j_getR X dX10_goes_137 ff_X10_72 rfl rfl ?_
              refine j_iload X dX10_goes_140 rfl ?_
              refine j_ialdk X dX10_goes_142 rfl (by omega) (by decide) ?_
              rw [show (wst (wst u 71 (144 * (d + 1) + f) (S f).1) 72 (144 * (d + 1) + f) (S f).2.1) 73 (144 * d + f) = (S f).2.2 from h73]
              refine j_iastk X dX10_goes_143 rfl (by omega) (by decide) ?_
              have C_238 : ∀ v : wd, goV u v d f (nxS S t f) → J κ LAY ad 0 0 238 [some (vR 54), some (vI (d : Int)), some (vI (t : Int)), some (vI ((tS t : Nat) : Int)), some (vI (tK t)), some (vI c), some (vI (f : Int)), some (vI ((144 * d + f : Nat) : Int)), some (vI ((144 * (d + 1) + f : Nat) : Int)), none, none] [] v := by
                intro v hv
                obtain ⟨hv1, hv2, hv3, hv71, hv72, hv73⟩ := id hv
                have hprg := pI_rg (hok2 f hf)
                obtain ⟨p, hp⟩ := Int.eq_ofNat_of_zero_le hprg.1
                have hp2 : p < 16384 := by omega
                have hv25 : v 54 25 = w 54 25 + 2 := (hv2 25 (by decide) (by decide) (by decide)).trans hu25
                have hv69 : v 69 f = w 69 f := (congrFun (hv1 69 (by decide) (by decide)) f).trans (congrFun hu69 f)
                have hv74 : v 74 p = u 74 p := congrFun (hv1 74 (by decide) (by decide)) p
                have hmp := hmk.1 p hp2
                have hFf := hF f (by omega)
                have hfit := hmk.fit hcnO hf (fun g hg => hF g (by omega)) hok2 hp hp2
                have hvn : nOk n v := ⟨hn.1, (hv2 1 (by decide) (by decide) (by decide)).trans hun.2⟩
                refine j_iconst X dX10_goes_238 ?_
                refine j_bipush X dX10_goes_239 (by decide +kernel) ?_
                refine j_aload_n X dX10_goes_241 rfl ?_
                refine j_getR X dX10_goes_242 ff_X10_69 rfl rfl ?_
                refine j_iload X dX10_goes_245 rfl ?_
                refine j_ialdk X dX10_goes_247 rfl (by omega) (by decide) ?_
                refine j_bipush X dX10_goes_248 (by decide +kernel) ?_
                refine j_iadd X dX10_goes_250 ?_
                refine j_imul X dX10_goes_251 ?_
                refine j_aload_n X dX10_goes_252 rfl ?_
                refine j_getR X dX10_goes_253 ff_X10_66 rfl rfl ?_
                refine j_iload X dX10_goes_256 rfl ?_
                refine j_ialdk X dX10_goes_258 rfl (by omega) (by decide) ?_
                refine j_iadd X dX10_goes_259 ?_
                refine j_bipush X dX10_goes_260 (by decide +kernel) ?_
                refine j_iadd X dX10_goes_262 ?_
                refine j_imul X dX10_goes_263 ?_
                refine j_aload_n X dX10_goes_264 rfl ?_
                refine j_getR X dX10_goes_265 ff_X10_72 rfl rfl ?_
                refine j_iload X dX10_goes_268 rfl ?_
                refine j_ialdk X dX10_goes_270 rfl (by omega) (by decide) ?_
                refine j_iadd X dX10_goes_271 ?_
                rw [hv71, hv72, hv73, show 4 * (64 * ((nxS S t f).2.1 + 32) + (nxS S t f).1 + 32) + (nxS S t f).2.2 = (p : Int) from hp]
                refine s_9 X dX10_goes_272 rfl ?_
                refine j_aload_n X dX10_goes_274 rfl ?_
                refine j_getI X dX10_goes_275 ff_X10_207 rfl rfl ?_
                rw [hv25]
                refine j_aload_n X dX10_goes_278 rfl ?_
                have C_293 : J κ LAY ad 0 0 293 [some (vR 54), some (vI (d : Int)), some (vI (t : Int)), some (vI ((tS t : Nat) : Int)), some (vI (tK t)), some (vI c), some (vI (f : Int)), some (vI ((144 * d + f : Nat) : Int)), some (vI ((144 * (d + 1) + f : Nat) : Int)), some (vI (p : Int)), none] [vI (w 69 f), vI (w 54 25 + 2)] v := by
                  skip
                  refine j_iadd X dX10_goes_293 ?_
                  refine s_10 X dX10_goes_294 rfl ?_
                  refine j_aload_n X dX10_goes_296 rfl ?_
                  have C_327 : ∀ c2 : Int, ((c2 = 1 ∧ cnO (w 69) (nxS S t) (f + 1)) ∨ (c2 = 0 ∧ ¬ cnO (w 69) (nxS S t) (f + 1))) → J κ LAY ad 0 0 327 [some (vR 54), some (vI (d : Int)), some (vI (t : Int)), some (vI ((tS t : Nat) : Int)), some (vI (tK t)), some (vI c), some (vI (f : Int)), some (vI ((144 * d + f : Nat) : Int)), some (vI ((144 * (d + 1) + f : Nat) : Int)), some (vI (p : Int)), some (vI (w 54 25 + 2 + w 69 f))] [vI c2] v := by
                    intro c2 hc2
                    refine s_5 X dX10_goes_327 rfl ?_
                    refine j_aload_n X dX10_goes_329 rfl ?_
                    refine j_getR X dX10_goes_330 ff_X10_75 rfl rfl ?_
                    refine j_iload X dX10_goes_333 rfl ?_
                    refine j_iload X dX10_goes_335 rfl ?_
                    refine j_iastk X dX10_goes_337 rfl (by omega) (by decide) ?_
                    refine inc_6 X dX10_goes_338 rfl ?_
                    refine j_goto (tgt := 70) X dX10_goes_341 (by decide) ?_
                    refine fg_7 ?_
                    refine fg_8 ?_
                    refine fg_9 ?_
                    refine fg_10 ?_
                    exact ih70 (f + 1) c2 _ (goI.step (by rw [← hc1]; exact hu) hf hv (fun g hg => hF g (by omega)) (by omega) hp hp2 hc2) (by omega) (by omega) (by omega)
                  refine j_getR X dX10_goes_297 ff_X10_75 rfl rfl ?_
                  refine j_iload X dX10_goes_300 rfl ?_
                  refine j_ialdk X dX10_goes_302 rfl (by omega) (by decide) ?_
                  rw [hv74]
                  refine j_aload_n X dX10_goes_303 rfl ?_
                  refine j_getI X dX10_goes_304 ff_X10_207 rfl rfl ?_
                  rw [hv25]
                  refine j_icmp_lt (tgt := 322) X dX10_goes_307 (by decide) ⟨by omega, by omega⟩ ⟨by omega, by omega⟩ (fun h_307 => ?_) (fun h_307 => ?_)
                  · refine j_iconst X dX10_goes_322 ?_
                    refine j_goto (tgt := 327) X dX10_goes_323 (by decide) ?_
                    exact C_327 _ (Or.inl ⟨rfl, hfit.mp (Or.inl h_307)⟩)
                  · refine j_aload_n X dX10_goes_310 rfl ?_
                    refine j_getR X dX10_goes_311 ff_X10_75 rfl rfl ?_
                    refine j_iload X dX10_goes_314 rfl ?_
                    refine j_ialdk X dX10_goes_316 rfl (by omega) (by decide) ?_
                    rw [hv74]
                    refine j_iload X dX10_goes_317 rfl ?_
                    refine j_icmp_ne (tgt := 326) X dX10_goes_319 (by decide) ⟨by omega, by omega⟩ ⟨by omega, by omega⟩ (fun h_319 => ?_) (fun h_319 => ?_)
                    · refine j_iconst X dX10_goes_326 ?_
                      exact C_327 _ (Or.inr ⟨rfl, fun z => by rcases hfit.mpr z with q | q; exact h_307 q; exact h_319 q⟩)
                    · refine j_iconst X dX10_goes_322 ?_
                      refine j_goto (tgt := 327) X dX10_goes_323 (by decide) ?_
                      exact C_327 _ (Or.inl ⟨rfl, hfit.mp (Or.inr h_319)⟩)
                refine j_getR X dX10_goes_279 ff_X10_60 rfl rfl ?_
                refine j_iload X dX10_goes_282 rfl ?_
                refine j_zaldk X dX10_goes_284 rfl (by omega) (by decide) ?_
                rw [hv69]
                refine j_if_eq (tgt := 292) X dX10_goes_285 (by decide) ⟨by omega, by omega⟩ (fun h_285 => ?_) (fun h_285 => ?_)
                · refine j_iconst X dX10_goes_292 ?_
                  rw [show w 69 f = 0 by omega] at C_293
                  exact C_293
                · refine j_iconst X dX10_goes_288 ?_
                  refine j_goto (tgt := 293) X dX10_goes_289 (by decide) ?_
                  rw [show w 69 f = 1 by omega] at C_293
                  exact C_293
              refine j_iload_n X dX10_goes_144 rfl ?_
              refine j_iload X dX10_goes_145 rfl ?_
              refine j_aload_n X dX10_goes_147 rfl ?_
              refine j_getR X dX10_goes_148 ff_X10_66 rfl rfl ?_
              refine j_iload X dX10_goes_151 rfl ?_
              refine j_ialdk X dX10_goes_153 rfl (by omega) (by decide) ?_
              rw [show (wst (wst (wst u 71 (144 * (d + 1) + f) (S f).1) 72 (144 * (d + 1) + f) (S f).2.1) 73 (144 * (d + 1) + f) (S f).2.2) 71 (144 * d + f) = (S f).1 from (hvc.2.2.1 71 _ (by decide) (by decide) hne).trans h71]
              refine j_aload_n X dX10_goes_154 rfl ?_
              refine j_getR X dX10_goes_155 ff_X10_69 rfl rfl ?_
              refine j_iload X dX10_goes_158 rfl ?_
              refine j_ialdk X dX10_goes_160 rfl (by omega) (by decide) ?_
              rw [show (wst (wst (wst u 71 (144 * (d + 1) + f) (S f).1) 72 (144 * (d + 1) + f) (S f).2.1) 73 (144 * (d + 1) + f) (S f).2.2) 72 (144 * d + f) = (S f).2.1 from (hvc.2.2.1 72 _ (by decide) (by decide) hne).trans h72]
              refine j_aload_n X dX10_goes_161 rfl ?_
              refine j_getR X dX10_goes_162 ff_X10_72 rfl rfl ?_
              refine j_iload X dX10_goes_165 rfl ?_
              refine j_ialdk X dX10_goes_167 rfl (by omega) (by decide) ?_
              rw [show (wst (wst (wst u 71 (144 * (d + 1) + f) (S f).1) 72 (144 * (d + 1) + f) (S f).2.1) 73 (144 * (d + 1) + f) (S f).2.2) 73 (144 * d + f) = (S f).2.2 from (hvc.2.2.1 73 _ (by decide) (by decide) hne).trans h73]
              refine cS5i X mf_X10_sideOf ms_X10_sideOf ml_X10_142 (by decide) (Nat.le_of_ble_eq_true rfl) dX10_goes_168 (sp_X10_sideOf ⟨by omega, by omega⟩ ⟨by omega, by omega⟩ ⟨by omega, by omega⟩ ⟨by omega, by omega⟩ p3) (fun a_168 w_168 h_168 => ?_)
              obtain ⟨_, _⟩ := h_168
              subst a_168
              subst w_168
              refine j_iload_n X dX10_goes_171 rfl ?_
              refine j_iconst X dX10_goes_172 ?_
              refine j_irem X dX10_goes_173 (by omega) (by omega) (by omega) (by omega) ?_
              rw [show (t : Int) % 2 = ((tD t : Nat) : Int) by unfold tD; omega]
              have hdd : Hid (((tD t : Nat) : Int) = 0 ∨ ((tD t : Nat) : Int) = 1) := by show _ ∨ _; omega
              refine j_icmp_ne (tgt := 238) X dX10_goes_174 (by decide) ib_rg ⟨by omega, by omega⟩ (fun h_174 => ?_) (fun h_174 => ?_)
              · exact C_238 _ (by rw [nx_off (fun z => h_174 ((ib_on hdd).mpr z))]; exact hvc)
              · refine j_aload_n X dX10_goes_177 rfl ?_
                refine j_iload_n X dX10_goes_178 rfl ?_
                refine j_iload X dX10_goes_179 rfl ?_
                refine j_aload_n X dX10_goes_181 rfl ?_
                refine j_getR X dX10_goes_182 ff_X10_66 rfl rfl ?_
                refine j_iload X dX10_goes_185 rfl ?_
                refine j_ialdk X dX10_goes_187 rfl (by omega) (by decide) ?_
                rw [show (wst (wst (wst u 71 (144 * (d + 1) + f) (S f).1) 72 (144 * (d + 1) + f) (S f).2.1) 73 (144 * (d + 1) + f) (S f).2.2) 71 (144 * d + f) = (S f).1 from (hvc.2.2.1 71 _ (by decide) (by decide) hne).trans h71]
                refine j_aload_n X dX10_goes_188 rfl ?_
                refine j_getR X dX10_goes_189 ff_X10_69 rfl rfl ?_
                refine j_iload X dX10_goes_192 rfl ?_
                refine j_ialdk X dX10_goes_194 rfl (by omega) (by decide) ?_
                rw [show (wst (wst (wst u 71 (144 * (d + 1) + f) (S f).1) 72 (144 * (d + 1) + f) (S f).2.1) 73 (144 * (d + 1) + f) (S f).2.2) 72 (144 * d + f) = (S f).2.1 from (hvc.2.2.1 72 _ (by decide) (by decide) hne).trans h72]
                refine j_aload_n X dX10_goes_195 rfl ?_
                refine j_getR X dX10_goes_196 ff_X10_72 rfl rfl ?_
                refine j_iload X dX10_goes_199 rfl ?_
                refine j_ialdk X dX10_goes_201 rfl (by omega) (by decide) ?_
                rw [show (wst (wst (wst u 71 (144 * (d + 1) + f) (S f).1) 72 (144 * (d + 1) + f) (S f).2.1) 73 (144 * (d + 1) + f) (S f).2.2) 73 (144 * d + f) = (S f).2.2 from (hvc.2.2.1 73 _ (by decide) (by decide) hne).trans h73]
                refine cV5v X mf_X10_turn mv_X10_turn ml_X10_153 (by decide) rfl rfl (Nat.le_of_ble_eq_true rfl) dX10_goes_202 (sp_X10_turn ⟨by omega, by omega⟩ p3) (fun w_202 h_202 => ?_)
                change _ = _ at h_202
                subst w_202
                refine j_aload_n X dX10_goes_205 rfl ?_
                refine j_getR X dX10_goes_206 ff_X10_66 rfl rfl ?_
                refine j_iload X dX10_goes_209 rfl ?_
                refine j_aload_n X dX10_goes_211 rfl ?_
                refine j_getI X dX10_goes_212 ff_X10_122 rfl rfl ?_
                rw [show (trnM (wst (wst (wst u 71 (144 * (d + 1) + f) (S f).1) 72 (144 * (d + 1) + f) (S f).2.1) 73 (144 * (d + 1) + f) (S f).2.2) ((tS t : Nat) : Int) (tK t) (S f).1 (S f).2.1 (S f).2.2) 54 32 = (mir ((tS t : Nat) : Int) (tK t) (S f)).1 from trnM_x]
                refine j_iastk X dX10_goes_215 rfl (by omega) (by decide) ?_
                refine j_aload_n X dX10_goes_216 rfl ?_
                refine j_getR X dX10_goes_217 ff_X10_69 rfl rfl ?_
                refine j_iload X dX10_goes_220 rfl ?_
                refine j_aload_n X dX10_goes_222 rfl ?_
                refine j_getI X dX10_goes_223 ff_X10_125 rfl rfl ?_
                rw [show (wst (trnM (wst (wst (wst u 71 (144 * (d + 1) + f) (S f).1) 72 (144 * (d + 1) + f) (S f).2.1) 73 (144 * (d + 1) + f) (S f).2.2) ((tS t : Nat) : Int) (tK t) (S f).1 (S f).2.1 (S f).2.2) 71 (144 * (d + 1) + f) (mir ((tS t : Nat) : Int) (tK t) (S f)).1) 54 33 = (mir ((tS t : Nat) : Int) (tK t) (S f)).2.1 from trnM_y (w := (wst (wst (wst u 71 (144 * (d + 1) + f) (S f).1) 72 (144 * (d + 1) + f) (S f).2.1) 73 (144 * (d + 1) + f) (S f).2.2)) (s := ((tS t : Nat) : Int)) (k := tK t) (x := (S f).1) (y := (S f).2.1) (q := (S f).2.2)]
                refine j_iastk X dX10_goes_226 rfl (by omega) (by decide) ?_
                refine j_aload_n X dX10_goes_227 rfl ?_
                refine j_getR X dX10_goes_228 ff_X10_72 rfl rfl ?_
                refine j_iload X dX10_goes_231 rfl ?_
                refine j_aload_n X dX10_goes_233 rfl ?_
                refine j_getI X dX10_goes_234 ff_X10_128 rfl rfl ?_
                rw [show (wst (wst (trnM (wst (wst (wst u 71 (144 * (d + 1) + f) (S f).1) 72 (144 * (d + 1) + f) (S f).2.1) 73 (144 * (d + 1) + f) (S f).2.2) ((tS t : Nat) : Int) (tK t) (S f).1 (S f).2.1 (S f).2.2) 71 (144 * (d + 1) + f) (mir ((tS t : Nat) : Int) (tK t) (S f)).1) 72 (144 * (d + 1) + f) (mir ((tS t : Nat) : Int) (tK t) (S f)).2.1) 54 34 = (mir ((tS t : Nat) : Int) (tK t) (S f)).2.2 from trnM_q (w := (wst (wst (wst u 71 (144 * (d + 1) + f) (S f).1) 72 (144 * (d + 1) + f) (S f).2.1) 73 (144 * (d + 1) + f) (S f).2.2)) (s := ((tS t : Nat) : Int)) (k := tK t) (x := (S f).1) (y := (S f).2.1) (q := (S f).2.2)]
                refine j_iastk X dX10_goes_237 rfl (by omega) (by decide) ?_
                exact C_238 _ (by rw [nx_on ((ib_on hdd).mp h_174)]; exact hvc.turn)
      exact L_70 (4 * n * n + 1) 0 1 _ (goI.zero hst) (by omega) (by omega) (by omega)
    · refine j_iconst X dX10_goes_52 ?_
      exact j_zreturn X hR dX10_goes_53 (by first | exact Or.inl rfl | exact Or.inr rfl | exact ib_01) ⟨⟨fun _ _ _ => rfl, fun _ _ _ _ _ => rfl, fun _ _ _ _ _ => rfl⟩, ⟨by have := hst.1; have h7 := ib_01 (P := crS (4 * n * n) S (tS t : Int) (tK t)); omega, hst.2⟩, Or.inr ⟨rfl, fun z => absurd (hcro.mpr z.1) (fun h9 => absurd (show loP tru ((tS t : Nat) : Int) S (4 * n * n) < 6 * tK t ∧ 6 * tK t < hiP tru ((tS t : Nat) : Int) S (4 * n * n) from h9) (by omega))⟩⟩
