theorem PAI_0 {n k0 us sp : Nat} {b : Int} {kd9 : Nat} {w : wd} (hn : 1 ≤ n ∧ n ≤ 6) (hk0 : k0 < 4 * n * n) (h : LR w 24 46 us sp) (ho : (kd9 : Int) = w 24 7 → sp = us) (hA : EA w 24 46 us sp (4 * n * n) (w 22) (S0 n)) : PAI n k0 us sp b kd9 w 0 0 us sp w := by
  refine ⟨h, fun _ _ _ => rfl, rfl, ho, hA, ?_, fun f hf hd => ?_, fun i _ => ⟨rfl, rfl⟩, Nat.le_refl _⟩
  · have := sm_nn (f := fun f => ib (doneP n k0 b (w 22) 0 0 f)) (4 * n * n) (fun k _ => by rcases ib_01 (P := doneP n k0 b (w 22) 0 0 k) with q | q <;> (show 0 ≤ ib (doneP n k0 b (w 22) 0 0 k)) <;> omega)
    omega
  · have := dsF_rg hn hf hk0
    have := hd.2
    omega
theorem PAI_b {n k0 us0 sp0 : Nat} {b : Int} {kd9 : Nat} {w : wd} {us sp : Nat} {u : wd} (h : PAI n k0 us0 sp0 b kd9 w n 0 us sp u) (h0 : us0 = 0) : (us : Int) ≤ sm (fun f => ib (u 22 f = 1 - (1 - b))) (4 * n * n) := by
  obtain ⟨h1, h2, h3, h4, h5, h6, h7, h8, h9⟩ := h
  have l := sm_le (f := fun f => ib (doneP n k0 b (w 22) n 0 f)) (g := fun f => ib (u 22 f = 1 - (1 - b))) (4 * n * n) (fun k _ => by
    show ib (doneP n k0 b (w 22) n 0 k) ≤ ib (u 22 k = 1 - (1 - b))
    by_cases z : doneP n k0 b (w 22) n 0 k
    · rw [ib_t z, ib_t (by rw [h2 22 (by decide) (by decide)]; have := z.1; omega)]; omega
    · rw [ib_f z]
      rcases ib_01 (P := u 22 k = 1 - (1 - b)) with q | q <;> omega)
  omega
theorem load_ok {n k0 us sp us2 sp2 : Nat} {b : Int} {kd9 kd8 : Nat} {w u v : wd} (hn : 1 ≤ n ∧ n ≤ 6) (hk0 : k0 < 4 * n * n) (hg : FgO w) (hb : b = 0 ∨ b = 1) (h1 : PAI n k0 0 0 b kd9 w n 0 us sp u) (h2 : PAI n k0 us sp (1 - b) kd8 u n 0 us2 sp2 v) : LR v 24 46 us2 sp2 ∧ EA v 24 46 us2 sp2 (4 * n * n) (w 22) (S0 n) ∧ EB v 24 46 us2 sp2 (4 * n * n) (w 22) (S0 n) ∧ ∀ o, o ≠ 24 → (o < 46 ∨ 51 < o) → v o = w o := by
  have e22 : u 22 = w 22 := h1.2.1 22 (by decide) (by decide)
  refine ⟨h2.1, by rw [← e22]; exact h2.2.2.2.2.1, fun f hf => ?_, fun o ho ho2 => by rw [h2.2.1 o ho ho2, h1.2.1 o ho ho2]⟩
  have hd := dsF_rg hn hf hk0
  have hf01 := hg f (by have := nn_le hn.2; omega)
  by_cases z : w 22 f = b
  · obtain ⟨i, hi, q1, q2⟩ := h1.2.2.2.2.2.2.1 f hf ⟨z, Or.inl hd.2.1⟩
    obtain ⟨q3, q4⟩ := h2.2.2.2.2.2.2.2.1 i hi
    have hle := h2.2.2.2.2.2.2.2.2
    exact ⟨i, by omega, by rw [q3, q1], by rw [q4, q2]⟩
  · obtain ⟨i, hi, q1, q2⟩ := h2.2.2.2.2.2.2.1 f hf ⟨by rw [e22]; omega, Or.inl hd.2.1⟩
    exact ⟨i, hi, q1, by rw [q2, e22]⟩
def LQ (w : wd) (b a : Nat) : Prop := ∃ us sp, w b 9 = ((us : Nat) : Int) ∧ us ≤ 144 ∧ LK w b a us sp
theorem LR.lq {w : wd} {b a us sp : Nat} (h : LR w b a us sp) : LQ w b a := ⟨us, sp, h.1.1, h.1.2.2.2.1, h.2.1⟩
theorem LQ.cong {w w' : wd} {b a : Nat} (hb : w' b = w b) (he : ∀ j, j < 6 → w' (a + j) = w (a + j)) (h : LQ w b a) : LQ w' b a := by
  obtain ⟨us, sp, h1, h2, k1, k2, k3, k4⟩ := h
  have e0 : w' a = w a := he 0 (by decide)
  have e1 := he 1 (by decide)
  have e2 := he 2 (by decide)
  have e3 := he 3 (by decide)
  have ee : ∀ i, esp w' a i = esp w a i := fun i => by unfold esp; rw [e0, e1, e2]
  have et : ∀ i, tk w' b sp i = tk w b sp i := fun i => by unfold tk; rw [hb]
  refine ⟨us, sp, by rw [hb]; exact h1, h2, ?_, ?_, ?_, ?_⟩
  · rw [e3]; exact k1
  · intro i hi; rw [e3, ee, et]; exact k2 i hi
  · intro s hs hk
    rw [e3] at hk
    obtain ⟨i, hi, h1⟩ := k3 s hs hk
    exact ⟨i, hi, by rw [ee]; exact h1⟩
  · intro i j hij hj; rw [ee, ee]; exact k4 i j hij hj
theorem clrW_7 (w : wd) (b a us : Nat) (kd9 : Int) : clrW w b a us kd9 b 7 = kd9 := by simp [clrW, wst, w1]
set_option maxHeartbeats 4000000 in
set_option maxRecDepth 20000 in
theorem sp_X2_load {n us sp : Nat} {w : wd} (hs : ShO n w) (hg : FgO w) (ht : -1000 ≤ w 21 2 ∧ w 21 2 ≤ 1000) (hu : w 24 9 = (us : Int)) (hus : us ≤ 144) (hK : LK w 24 46 us sp) : CalV yX2_load cX2_load 5 5 LAY w [vR 24, vR 1, vR 21] (fun w' => ∃ us' sp', LR w' 24 46 us' sp' ∧ EA w' 24 46 us' sp' (4 * n * n) (w 22) (S0 n) ∧ EB w' 24 46 us' sp' (4 * n * n) (w 22) (S0 n) ∧ ∀ o, o ≠ 24 → (o < 46 ∨ 51 < o) → w' o = w o) := by
  have hN := nn_le hs.1.2
  have hN1 := nn_pos hs.1.1
  have hn4 : w 1 4 = ((4 * n * n : Nat) : Int) := hs.2.2.1
  have hsc : ∀ k : Int, ShO n (clrW w 24 46 us k) := fun k => hs.keep (fun o ho => clrW_o (by omega) (by omega))
  have hgc : ∀ k : Int, FgO (clrW w 24 46 us k) := fun k j hj => by rw [clrW_o (by decide) (by decide)]; exact hg j hj
  refine calV_intro (ls := [some (vR 24), some (vR 1), some (vR 21), none, none]) (by decide) (Nat.le_of_ble_eq_true rfl) rfl (fun κ ad X hR => ?_)
  refine j_iconst X dX2_load_0 ?_
  refine j_aload_n X dX2_load_1 rfl ?_
  refine j_getI X dX2_load_2 ff_X2_36 rfl rfl ?_
  refine j_imul X dX2_load_5 ?_
  refine j_aload_n X dX2_load_6 rfl ?_
  refine j_getI X dX2_load_7 ff_X2_42 rfl rfl ?_
  refine j_icmp_gt (tgt := 17) X dX2_load_10 (by decide) ⟨by omega, by omega⟩ ⟨by omega, by omega⟩ (fun h_10 => ?_) (fun h_10 => ?_)
  · refine j_iconst X dX2_load_17 ?_
    refine s_3 X dX2_load_18 rfl ?_
    refine j_aload_n X dX2_load_19 rfl ?_
    refine j_iload_n X dX2_load_20 rfl ?_
    refine cV1i X mf_X1_first mv_X1_first ml_X2_47 (by decide) rfl rfl (Nat.le_of_ble_eq_true rfl) dX2_load_21 (sp_X1_first (N := 4 * n * n) hn4 hN hg (Or.inl rfl)) (fun a_21 w_21 h_21 => ?_)
    obtain ⟨k0, hk0, hk1⟩ : ∃ k0 : Nat, k0 < 4 * n * n ∧ a_21 = (k0 : Int) := by
      rcases h_21.1 with ⟨k, q1, q2, _⟩ | ⟨q1, _⟩
      · exact ⟨k, q1, q2⟩
      · exact ⟨0, by omega, q1⟩
    obtain ⟨_, hw9⟩ := h_21
    subst a_21
    subst w_21
    refine s_4 X dX2_load_24 rfl ?_
    refine j_aload_n X dX2_load_26 rfl ?_
    refine j_iload_n X dX2_load_27 rfl ?_
    refine jt_if_eq (tgt := 35) X dX2_load_28 (by decide) ⟨by omega, by omega⟩ (by first | decide | omega) ?_
    refine j_iconst X dX2_load_35 ?_
    refine cV1v X mf_X2_clear mv_X2_clear ml_X2_51 (by decide) rfl rfl (Nat.le_of_ble_eq_true rfl) dX2_load_36 (sp_X2_clear_24 hu hus) (fun w_36 h_36 => ?_)
    change _ = _ at h_36
    subst w_36
    refine j_aload_n X dX2_load_39 rfl ?_
    refine j_aload_n X dX2_load_40 rfl ?_
    refine j_aload_n X dX2_load_41 rfl ?_
    refine j_iload_n X dX2_load_42 rfl ?_
    refine j_iload X dX2_load_43 rfl ?_
    refine cV4v X mf_X2_putAround mv_X2_putAround ml_X2_55 (by decide) rfl rfl (Nat.le_of_ble_eq_true rfl) dX2_load_45 (sp_X2_putAround (n := n) (k0 := k0) (us0 := 0) (sp0 := 0) (kd9 := 2) (hsc 2) (hgc 2) (Or.inl rfl) (by decide) hk0 (by have := sm_nn (f := fun f => ib (clrW w 24 46 us 2 22 f = 1 - 0)) (4 * n * n) (fun k _ => by rcases ib_01 (P := clrW w 24 46 us 2 22 k = 1 - 0) with q | q <;> (show 0 ≤ ib (clrW w 24 46 us 2 22 k = 1 - 0)) <;> omega); omega) (PAI_0 hs.1 hk0 (clr_LR (by decide) hK (Or.inr rfl)) (fun _ => rfl) (fun i hi => absurd hi (Nat.not_lt_zero _)))) (fun w_45 h_45 => ?_)
    obtain ⟨us1, sp1, hP1⟩ := h_45
    have hsu : ShO n w_45 := (hsc 2).keep (fun o ho => hP1.2.1 o (by omega) (by omega))
    have hgu : FgO w_45 := fun k hk => by rw [hP1.2.1 22 (by decide) (by decide)]; exact hgc 2 k hk
    refine j_aload_n X dX2_load_48 rfl ?_
    refine j_aload_n X dX2_load_49 rfl ?_
    refine j_aload_n X dX2_load_50 rfl ?_
    refine j_iload_n X dX2_load_51 rfl ?_
    refine jf_if_ne (tgt := 59) X dX2_load_52 (by decide) ⟨by omega, by omega⟩ (by first | decide | omega) ?_
    refine j_iconst X dX2_load_55 ?_
    refine j_goto (tgt := 60) X dX2_load_56 (by decide) ?_
    refine j_iload X dX2_load_60 rfl ?_
    refine cV4v X mf_X2_putAround mv_X2_putAround ml_X2_55 (by decide) rfl rfl (Nat.le_of_ble_eq_true rfl) dX2_load_62 (sp_X2_putAround (n := n) (k0 := k0) (us0 := us1) (sp0 := sp1) (kd9 := 1) (b := 1 - 0) hsu hgu (by decide) (by decide) hk0 (PAI_b hP1 rfl) (PAI_0 hs.1 hk0 hP1.1 (fun z => absurd z (by rw [hP1.2.2.1, clrW_7]; decide)) (by rw [hP1.2.1 22 (by decide) (by decide)]; exact hP1.2.2.2.2.1))) (fun w_62 h_62 => ?_)
    obtain ⟨us2, sp2, hP2⟩ := h_62
    have hL := load_ok hs.1 hk0 (hgc _) (by decide) hP1 hP2
    exact j_return X hR dX2_load_65 ⟨us2, sp2, hL.1, by have := hL.2.1; rw [clrW_o (by decide) (by decide)] at this; exact this, by have := hL.2.2.1; rw [clrW_o (by decide) (by decide)] at this; exact this, fun o h1 h2 => by rw [hL.2.2.2 o h1 h2, clrW_o h1 (by omega)]⟩
  · refine j_iconst X dX2_load_13 ?_
    refine j_goto (tgt := 18) X dX2_load_14 (by decide) ?_
    refine s_3 X dX2_load_18 rfl ?_
    refine j_aload_n X dX2_load_19 rfl ?_
    refine j_iload_n X dX2_load_20 rfl ?_
    refine cV1i X mf_X1_first mv_X1_first ml_X2_47 (by decide) rfl rfl (Nat.le_of_ble_eq_true rfl) dX2_load_21 (sp_X1_first (N := 4 * n * n) hn4 hN hg (Or.inr rfl)) (fun a_21 w_21 h_21 => ?_)
    obtain ⟨k0, hk0, hk1⟩ : ∃ k0 : Nat, k0 < 4 * n * n ∧ a_21 = (k0 : Int) := by
      rcases h_21.1 with ⟨k, q1, q2, _⟩ | ⟨q1, _⟩
      · exact ⟨k, q1, q2⟩
      · exact ⟨0, by omega, q1⟩
    obtain ⟨_, hw9⟩ := h_21
    subst a_21
    subst w_21
    refine s_4 X dX2_load_24 rfl ?_
    refine j_aload_n X dX2_load_26 rfl ?_
    refine j_iload_n X dX2_load_27 rfl ?_
    refine jf_if_eq (tgt := 35) X dX2_load_28 (by decide) ⟨by omega, by omega⟩ (by first | decide | omega) ?_
    refine j_iconst X dX2_load_31 ?_
    refine j_goto (tgt := 36) X dX2_load_32 (by decide) ?_
    refine cV1v X mf_X2_clear mv_X2_clear ml_X2_51 (by decide) rfl rfl (Nat.le_of_ble_eq_true rfl) dX2_load_36 (sp_X2_clear_24 hu hus) (fun w_36 h_36 => ?_)
    change _ = _ at h_36
    subst w_36
    refine j_aload_n X dX2_load_39 rfl ?_
    refine j_aload_n X dX2_load_40 rfl ?_
    refine j_aload_n X dX2_load_41 rfl ?_
    refine j_iload_n X dX2_load_42 rfl ?_
    refine j_iload X dX2_load_43 rfl ?_
    refine cV4v X mf_X2_putAround mv_X2_putAround ml_X2_55 (by decide) rfl rfl (Nat.le_of_ble_eq_true rfl) dX2_load_45 (sp_X2_putAround (n := n) (k0 := k0) (us0 := 0) (sp0 := 0) (kd9 := 1) (hsc 1) (hgc 1) (Or.inr rfl) (by decide) hk0 (by have := sm_nn (f := fun f => ib (clrW w 24 46 us 1 22 f = 1 - 1)) (4 * n * n) (fun k _ => by rcases ib_01 (P := clrW w 24 46 us 1 22 k = 1 - 1) with q | q <;> (show 0 ≤ ib (clrW w 24 46 us 1 22 k = 1 - 1)) <;> omega); omega) (PAI_0 hs.1 hk0 (clr_LR (by decide) hK (Or.inl rfl)) (fun _ => rfl) (fun i hi => absurd hi (Nat.not_lt_zero _)))) (fun w_45 h_45 => ?_)
    obtain ⟨us1, sp1, hP1⟩ := h_45
    have hsu : ShO n w_45 := (hsc 1).keep (fun o ho => hP1.2.1 o (by omega) (by omega))
    have hgu : FgO w_45 := fun k hk => by rw [hP1.2.1 22 (by decide) (by decide)]; exact hgc 1 k hk
    refine j_aload_n X dX2_load_48 rfl ?_
    refine j_aload_n X dX2_load_49 rfl ?_
    refine j_aload_n X dX2_load_50 rfl ?_
    refine j_iload_n X dX2_load_51 rfl ?_
    refine jt_if_ne (tgt := 59) X dX2_load_52 (by decide) ⟨by omega, by omega⟩ (by first | decide | omega) ?_
    refine j_iconst X dX2_load_59 ?_
    refine j_iload X dX2_load_60 rfl ?_
    refine cV4v X mf_X2_putAround mv_X2_putAround ml_X2_55 (by decide) rfl rfl (Nat.le_of_ble_eq_true rfl) dX2_load_62 (sp_X2_putAround (n := n) (k0 := k0) (us0 := us1) (sp0 := sp1) (kd9 := 2) (b := 1 - 1) hsu hgu (by decide) (by decide) hk0 (PAI_b hP1 rfl) (PAI_0 hs.1 hk0 hP1.1 (fun z => absurd z (by rw [hP1.2.2.1, clrW_7]; decide)) (by rw [hP1.2.1 22 (by decide) (by decide)]; exact hP1.2.2.2.2.1))) (fun w_62 h_62 => ?_)
    obtain ⟨us2, sp2, hP2⟩ := h_62
    have hL := load_ok hs.1 hk0 (hgc _) (by decide) hP1 hP2
    exact j_return X hR dX2_load_65 ⟨us2, sp2, hL.1, by have := hL.2.1; rw [clrW_o (by decide) (by decide)] at this; exact this, by have := hL.2.2.1; rw [clrW_o (by decide) (by decide)] at this; exact this, fun o h1 h2 => by rw [hL.2.2.2 o h1 h2, clrW_o h1 (by omega)]⟩
/-! ===== turnInto ===== -/
def TI (b1 a1 b2 a2 us sp N : Nat) (F : Nat → Int) (S : lys) (s k d : Int) (w : wd) (i us2 sp2 : Nat) (u : wd) : Prop :=
  LR u b2 a2 us2 sp2 ∧ (∀ o, o ≠ b2 → (o < a2 ∨ a2 + 5 < o) → u o = w o) ∧ u b2 7 = w b1 7 ∧ us2 ≤ i ∧ (i ≤ sp → sp2 = us2) ∧ EA u b2 a2 us2 sp2 N F (trS S s k d) ∧
  (∀ j, j < i → ∃ i2, i2 < us2 ∧ enw u a2 i2 = trn s k d (enw w a1 j) ∧ tk u b2 sp2 i2 = tk w b1 sp j)
theorem TI_put {b1 a1 b2 a2 us sp N : Nat} {F : Nat → Int} {S : lys} {s k d : Int} {w : wd} {i us2 sp2 : Nat} {u : wd} {R : Int} {kd9 : Nat} {p : pl} (hba : b2 < a2) (hL : LR w b1 a1 us sp) (hA : EA w b1 a1 us sp N F S) (hbx : BOX R N (trS S s k d)) (hR : R ≤ 300) (hc : CNS N F (trS S s k d)) (h : TI b1 a1 b2 a2 us sp N F S s k d w i us2 sp2 u) (hi : i < us) (hk : (kd9 : Int) = tk w b1 sp i) (hp : p = trn s k d (enw w a1 i)) : ∃ us' sp', TI b1 a1 b2 a2 us sp N F S s k d w (i + 1) us' sp' (putW u b2 a2 us2 sp2 p.1 p.2.1 p.2.2 kd9) := by
  obtain ⟨h1, h2, h3, h4, h5, h6, h7⟩ := h
  obtain ⟨f, hf, hf2, hf3⟩ := hA i hi
  have hpf : p = trS S s k d f := by rw [hp, hf2]; rfl
  have htk := tk_rg (sp := sp) (i := i) hL.1.2.2.2.2
  have h7a := hL.1.2.2.2.2
  have h144 := hL.1.2.2.2.1
  have hkf : i < sp → (kd9 : Int) = w b1 7 := fun z => by rw [hk]; unfold tk; rw [if_pos z]
  have hks : ¬ i < sp → (kd9 : Int) = 3 - w b1 7 := fun z => by rw [hk]; unfold tk; rw [if_neg z]
  obtain ⟨us', sp', p1, p2, p3, p4, p5, p6, p7, p8⟩ := put_step (b := b2) (a := a2) (kd9 := kd9) (p := p) hba h1 (Or.inl (by omega)) (by omega) (fun z => by
      by_cases z2 : i < sp
      · exact h5 (by omega)
      · have := hks z2
        omega) (by
      rw [hpf]
      have := (hbx.1 f hf)
      simp only [okp] at this ⊢
      omega) (fun j hj => by
      obtain ⟨g, hg, hg2, hg3⟩ := h6 j hj
      rw [hg2, hpf]
      have := hbx.2 g f hg hf
      simp only [nrp] at this ⊢
      omega) (fun j hj e => by
      obtain ⟨g, hg, hg2, hg3⟩ := h6 j hj
      have := hc g f hg hf (by rw [← hg2, e, hpf])
      omega)
  refine ⟨us', sp', p1, fun o ho ho2 => ?_, by rw [← h3]; exact p6, by omega, fun z => ?_, fun j hj => ?_, fun j hj => ?_⟩
  · rw [← h2 o ho ho2]
    exact putW_o ho (by omega)
  · exact p7 (by rw [hkf (by omega), h3])
  · by_cases z : j < us2
    · obtain ⟨g, hg, hg2, hg3⟩ := h6 j z
      obtain ⟨e1, e2⟩ := p3 j z
      exact ⟨g, hg, by rw [← hg2]; exact e1, by rw [← hg3]; exact e2⟩
    · obtain ⟨e1, e2⟩ := p4 j (by omega) hj
      exact ⟨f, hf, by rw [← hpf]; exact e1, by omega⟩
  · by_cases z : j = i
    · subst z
      obtain ⟨i2, hi2, e1, e2⟩ := p5
      exact ⟨i2, hi2, by rw [← hp]; exact e1, by rw [← hk]; exact e2⟩
    · obtain ⟨i2, hi2, e1, e2⟩ := h7 j (by omega)
      obtain ⟨q1, q2⟩ := p3 i2 hi2
      exact ⟨i2, by omega, by rw [← e1]; exact q1, by rw [← e2]; exact q2⟩
theorem TI_0 {b1 a1 b2 a2 us sp N us9 sp9 : Nat} {F : Nat → Int} {S : lys} {s k d : Int} {w : wd} (hba : b2 < a2) (hL : LR w b1 a1 us sp) (hK : LK w b2 a2 us9 sp9) : TI b1 a1 b2 a2 us sp N F S s k d w 0 0 0 (clrW w b2 a2 us9 (w b1 7)) :=
  ⟨clr_LR hba hK hL.1.2.2.2.2, fun o ho ho2 => clrW_o ho (by omega), clrW_7 _ _ _ _ _, Nat.le_refl _, fun _ => rfl, fun i hi => absurd hi (Nat.not_lt_zero _), fun i hi => absurd hi (Nat.not_lt_zero _)⟩
theorem TI_end {b1 a1 b2 a2 us sp N us2 sp2 : Nat} {F : Nat → Int} {S : lys} {s k d : Int} {w u : wd} (hB : EB w b1 a1 us sp N F S) (h : TI b1 a1 b2 a2 us sp N F S s k d w us us2 sp2 u) : EB u b2 a2 us2 sp2 N F (trS S s k d) := by
  intro f hf
  obtain ⟨i, hi, h1, h2⟩ := hB f hf
  obtain ⟨i2, hi2, e1, e2⟩ := h.2.2.2.2.2.2 i hi
  exact ⟨i2, hi2, by rw [e1, h1]; rfl, by rw [e2, h2]⟩
set_option maxHeartbeats 4000000 in
set_option maxRecDepth 20000 in
theorem sp_X2_turnInto_24 {us sp us9 sp9 N s d : Nat} {F : Nat → Int} {S : lys} {k l R : Int} {w : wd} (hL : LR w 24 46 us sp) (hA : EA w 24 46 us sp N F S) (hB : EB w 24 46 us sp N F S) (hbx : BOX R N S) (hR : 0 ≤ R ∧ R ≤ 100) (hcr : crS N S s k) (hcn : CNS N F (trS S s k d)) (hs : s < 4) (hd : d < 2) (hk : -24 ≤ k ∧ k ≤ 48) (hl : l = 0 ∨ l = 1) (hu9 : w 25 9 = (us9 : Int)) (hus9 : us9 ≤ 144) (hK9 : LK w 25 40 us9 sp9) : CalV yX2_turnInto cX2_turnInto 12 4 LAY w [vR 24, vR 25, vI (s : Int), vI k, vI (d : Int), vI l] (fun w' => ∃ us2 sp2, LR w' 25 40 us2 sp2 ∧ EA w' 25 40 us2 sp2 N F (trS S s k d) ∧ (EB w' 25 40 us2 sp2 N F (trS S s k d) ∨ (l = 1 ∧ enA w' 40)) ∧ ∀ o, o ≠ 25 → (o < 40 ∨ 45 < o) → w' o = w o) := by
  have hbx2 : BOX (R + 5) N (trS S s k d) := hbx.trk (by omega) (by omega) hcr
  have h144 := hL.1.2.2.2.1
  have hspu := hL.1.2.2.1
  refine calV_intro (ls := [some (vR 24), some (vR 25), some (vI (s : Int)), some (vI k), some (vI (d : Int)), some (vI l), none, none, none, none, none, none]) (by decide) (Nat.le_of_ble_eq_true rfl) rfl (fun κ ad X hR => ?_)
  refine j_aload_n X dX2_turnInto_0 rfl ?_
  refine j_aload_n X dX2_turnInto_1 rfl ?_
  refine j_getI X dX2_turnInto_2 ff_X2_104 rfl rfl ?_
  refine cV1v X mf_X2_clear mv_X2_clear ml_X2_51 (by decide) rfl rfl (Nat.le_of_ble_eq_true rfl) dX2_turnInto_5 (sp_X2_clear_25 hu9 hus9) (fun w_5 h_5 => ?_)
  change _ = _ at h_5
  subst w_5
  refine j_iconst X dX2_turnInto_8 ?_
  refine s_6 X dX2_turnInto_9 rfl ?_
  have L_11 : ∀ (m : Nat) (i us2 sp2 : Nat) (u : wd) (_ : TI 24 46 25 40 us sp N F S s k d w i us2 sp2 u) (_ : i ≤ us) (_ : us - i < m), J κ LAY ad 0 0 11 [some (vR 24), some (vR 25), some (vI (s : Int)), some (vI k), some (vI (d : Int)), some (vI l), some (vI (i : Int)), none, none, none, none, none] [] u := by
    intro m
    induction m with
    | zero => intro i us2 sp2 u hP h1 h2; exact absurd h2 (Nat.not_lt_zero _)
    | succ m ih11 =>
      intro i us2 sp2 u hP h1 h2
      have eo : u 24 = w 24 := hP.2.1 24 (by decide) (by decide)
      have hu1 : u 24 9 = (us : Int) := by rw [eo]; exact hL.1.1
      have hu2 : u 24 8 = (sp : Int) := by rw [eo]; exact hL.1.2.1
      have hf7 : u 24 7 = 1 ∨ u 24 7 = 2 := by rw [eo]; exact hL.1.2.2.2.2
      refine j_iload X dX2_turnInto_11 rfl ?_
      refine j_aload_n X dX2_turnInto_13 rfl ?_
      refine j_getI X dX2_turnInto_14 ff_X2_84 rfl rfl ?_
      refine j_icmp_ge (tgt := 171) X dX2_turnInto_17 (by decide) ⟨by omega, by omega⟩ ⟨by omega, by omega⟩ (fun h_17 => ?_) (fun h_17 => ?_)
      · exact j_return X hR dX2_turnInto_171 ⟨us2, sp2, hP.1, hP.2.2.2.2.2.1, Or.inl (TI_end hB (by rw [show us = i by omega]; rw [show i = us by omega] at hP ⊢; exact hP)), hP.2.1⟩
      · have hi9 : i < us := by omega
        obtain ⟨f9, hf9, hf8, hf7b⟩ := hA i hi9
        have hco := hbx.1 f9 hf9
        rw [← hf8] at hco
        simp only [okp, enw, show 46 + 1 = 47 from rfl, show 46 + 2 = 48 from rfl] at hco
        have e0 : u 46 i = w 46 i := by rw [hP.2.1 46 (by decide) (by decide)]
        have e1 : u 47 i = w 47 i := by rw [hP.2.1 47 (by decide) (by decide)]
        have e2 : u 48 i = w 48 i := by rw [hP.2.1 48 (by decide) (by decide)]
        obtain ⟨kd9, hk9, hkd9⟩ : ∃ kd9 : Nat, tk w 24 sp i = (kd9 : Int) ∧ (kd9 = 1 ∨ kd9 = 2) := by
          rcases tk_rg (sp := sp) (i := i) hL.1.2.2.2.2 with z | z
          · exact ⟨1, z, Or.inl rfl⟩
          · exact ⟨2, z, Or.inr rfl⟩
        refine j_aload_n X dX2_turnInto_20 rfl ?_
        refine j_getR X dX2_turnInto_21 ff_X2_9 rfl rfl ?_
        refine j_iload X dX2_turnInto_24 rfl ?_
        refine cS2i X mf_X5_get ms_X5_get ml_X2_87 (by decide) (Nat.le_of_ble_eq_true rfl) dX2_turnInto_26 (sp_getk (k := i) rfl (by decide) (by omega)) (fun a_26 w_26 h_26 => ?_)
        obtain ⟨_, _⟩ := h_26
        subst a_26
        subst w_26
        rw [e0]
        refine s_7 X dX2_turnInto_29 rfl ?_
        refine j_aload_n X dX2_turnInto_31 rfl ?_
        refine j_getR X dX2_turnInto_32 ff_X2_15 rfl rfl ?_
        refine j_iload X dX2_turnInto_35 rfl ?_
        refine cS2i X mf_X5_get ms_X5_get ml_X2_87 (by decide) (Nat.le_of_ble_eq_true rfl) dX2_turnInto_37 (sp_getk (k := i) rfl (by decide) (by omega)) (fun a_37 w_37 h_37 => ?_)
        obtain ⟨_, _⟩ := h_37
        subst a_37
        subst w_37
        rw [e1]
        refine s_8 X dX2_turnInto_40 rfl ?_
        refine j_aload_n X dX2_turnInto_42 rfl ?_
        refine j_getR X dX2_turnInto_43 ff_X2_18 rfl rfl ?_
        refine j_iload X dX2_turnInto_46 rfl ?_
        refine cS2i X mf_X5_get ms_X5_get ml_X2_87 (by decide) (Nat.le_of_ble_eq_true rfl) dX2_turnInto_48 (sp_getk (k := i) rfl (by decide) (by omega)) (fun a_48 w_48 h_48 => ?_)
        obtain ⟨_, _⟩ := h_48
        subst a_48
        subst w_48
        rw [e2]
        refine s_9 X dX2_turnInto_51 rfl ?_
        have C_73 : J κ LAY ad 0 0 73 [some (vR 24), some (vR 25), some (vI (s : Int)), some (vI k), some (vI (d : Int)), some (vI l), some (vI (i : Int)), some (vI (w 46 i)), some (vI (w 47 i)), some (vI (w 48 i)), none, none] [vI (kd9 : Int)] u := by
          skip
          refine s_10 X dX2_turnInto_73 rfl ?_
          have C_143 : ∀ (us3 sp3 : Nat) (v : wd), TI 24 46 25 40 us sp N F S s k d w (i + 1) us3 sp3 v → J κ LAY ad 0 0 143 [some (vR 24), some (vR 25), some (vI (s : Int)), some (vI k), some (vI (d : Int)), some (vI l), some (vI (i : Int)), none, none, none, none, none] [] v := by
            intro us3 sp3 v hP3
            have ev : v 24 = w 24 := hP3.2.1 24 (by decide) (by decide)
            have hv2 : v 24 8 = (sp : Int) := by rw [ev]; exact hL.1.2.1
            refine j_iload X dX2_turnInto_143 rfl ?_
            refine j_if_eq (tgt := 165) X dX2_turnInto_145 (by decide) ⟨by omega, by omega⟩ (fun h_145 => ?_) (fun h_145 => ?_)
            · refine inc_6 X dX2_turnInto_165 rfl ?_
              refine j_goto (tgt := 11) X dX2_turnInto_168 (by decide) ?_
              exact ih11 (i + 1) us3 sp3 v hP3 (by omega) (by omega)
            · refine j_iload X dX2_turnInto_148 rfl ?_
              refine j_aload_n X dX2_turnInto_150 rfl ?_
              refine j_getI X dX2_turnInto_151 ff_X2_107 rfl rfl ?_
              refine j_icmp_lt (tgt := 165) X dX2_turnInto_154 (by decide) ⟨by omega, by omega⟩ ⟨by omega, by omega⟩ (fun h_154 => ?_) (fun h_154 => ?_)
              · refine inc_6 X dX2_turnInto_165 rfl ?_
                refine j_goto (tgt := 11) X dX2_turnInto_168 (by decide) ?_
                exact ih11 (i + 1) us3 sp3 v hP3 (by omega) (by omega)
              · have hz : LzO v 40 := hP3.1.2.2.2.1
                refine j_aload_n X dX2_turnInto_157 rfl ?_
                refine cV0i X mf_X2_isEntangled mv_X2_isEntangled ml_X2_155 (by decide) rfl rfl (Nat.le_of_ble_eq_true rfl) dX2_turnInto_158 (sp_X2_isEntangled_25 hz) (fun a_158 w_158 h_158 => ?_)
                obtain ⟨_, _⟩ := h_158
                subst a_158
                subst w_158
                refine jb_eq (tgt := 165) X dX2_turnInto_161 (by decide) (fun h_161 => ?_) (fun h_161 => ?_)
                · refine inc_6 X dX2_turnInto_165 rfl ?_
                  refine j_goto (tgt := 11) X dX2_turnInto_168 (by decide) ?_
                  exact ih11 (i + 1) us3 sp3 v hP3 (by omega) (by omega)
                · exact j_return X hR dX2_turnInto_164 ⟨us3, sp3, hP3.1, hP3.2.2.2.2.2.1, Or.inr ⟨by omega, h_161⟩, hP3.2.1⟩
          have hst := stp_rg (s := (s : Int)) (p := enw w 46 i) (R := R) hco
          simp only [stp, enw, show 46 + 1 = 47 from rfl, show 46 + 2 = 48 from rfl] at hst
          refine j_iload_n X dX2_turnInto_75 rfl ?_
          refine j_iload X dX2_turnInto_76 rfl ?_
          refine j_iload X dX2_turnInto_78 rfl ?_
          refine j_iload X dX2_turnInto_80 rfl ?_
          refine cS4i X mf_X3_strip ms_X3_strip ml_X2_116 (by decide) (Nat.le_of_ble_eq_true rfl) dX2_turnInto_82 (sp_X3_strip ⟨by omega, by omega⟩ ⟨by omega, by omega⟩) (fun a_82 w_82 h_82 => ?_)
          obtain ⟨_, _⟩ := h_82
          subst a_82
          subst w_82
          refine j_iload_n X dX2_turnInto_85 rfl ?_
          refine j_iload X dX2_turnInto_86 rfl ?_
          refine cS3i X mf_X3_isOn ms_X3_isOn ml_X2_151 (by decide) (Nat.le_of_ble_eq_true rfl) dX2_turnInto_88 (sp_X3_isOn ⟨by omega, by omega⟩ ⟨by omega, by omega⟩ ⟨by omega, by omega⟩) (fun a_88 w_88 h_88 => ?_)
          obtain ⟨_, _⟩ := h_88
          subst a_88
          subst w_88
          refine jb_eq (tgt := 131) X dX2_turnInto_91 (by decide) (fun h_91 => ?_) (fun h_91 => ?_)
          · have hon : trn s k d (enw w 46 i) = enw w 46 i := if_neg h_91
            refine j_aload_n X dX2_turnInto_131 rfl ?_
            refine j_iload X dX2_turnInto_132 rfl ?_
            refine j_iload X dX2_turnInto_134 rfl ?_
            refine j_iload X dX2_turnInto_136 rfl ?_
            refine j_iload X dX2_turnInto_138 rfl ?_
            refine cV4v X mf_X2_put mv_X2_put ml_X2_80 (by decide) rfl rfl (Nat.le_of_ble_eq_true rfl) dX2_turnInto_140 (sp_X2_put_25 (us := us2) (kd9 := kd9) (sp := (sp2 : Int)) hP.1.1.1 hP.1.1.2.1 (by have := hP.2.2.2.1; omega) hP.1.1.2.2.2.2 hP.1.2.1.1 hP.1.2.2.2.1 hkd9 ⟨by omega, by omega⟩ ⟨by omega, by omega⟩ ⟨by omega, by omega⟩) (fun w_140 h_140 => ?_)
            change _ = _ at h_140
            obtain ⟨us9, sp9, hP9⟩ : ∃ us9 sp9, TI 24 46 25 40 us sp N F S s k d w (i + 1) us9 sp9 w_140 := by
              rw [h_140]
              exact TI_put (kd9 := kd9) (p := enw w 46 i) (by decide) hL hA hbx2 (by omega) hcn hP hi9 hk9.symm hon.symm
            refine fg_7 ?_
            refine fg_8 ?_
            refine fg_9 ?_
            refine fg_10 ?_
            exact C_143 _ _ _ hP9
          · have hmm := hbx2.1 f9 hf9
            have hon : trn s k d (enw w 46 i) = mir s k (enw w 46 i) := if_pos h_91
            simp only [trS, ← hf8, hon] at hmm
            simp only [okp, mir, enw, show 46 + 1 = 47 from rfl, show 46 + 2 = 48 from rfl] at hmm
            refine j_iload_n X dX2_turnInto_94 rfl ?_
            refine j_iload X dX2_turnInto_95 rfl ?_
            refine cS2i X mf_X3_mirrorQuarter ms_X3_mirrorQuarter ml_X2_148 (by decide) (Nat.le_of_ble_eq_true rfl) dX2_turnInto_97 (sp_X3_mirrorQuarter ⟨by omega, by omega⟩) (fun a_97 w_97 h_97 => ?_)
            obtain ⟨_, _⟩ := h_97
            subst a_97
            subst w_97
            refine s_11 X dX2_turnInto_100 rfl ?_
            refine j_aload_n X dX2_turnInto_102 rfl ?_
            refine j_iload_n X dX2_turnInto_103 rfl ?_
            refine j_iload_n X dX2_turnInto_104 rfl ?_
            refine j_iload X dX2_turnInto_105 rfl ?_
            refine j_iload X dX2_turnInto_107 rfl ?_
            refine cS4i X mf_X3_mirrorX ms_X3_mirrorX ml_X2_142 (by decide) (Nat.le_of_ble_eq_true rfl) dX2_turnInto_109 (sp_X3_mirrorX ⟨by omega, by omega⟩) (fun a_109 w_109 h_109 => ?_)
            obtain ⟨_, _⟩ := h_109
            subst a_109
            subst w_109
            refine j_iload_n X dX2_turnInto_112 rfl ?_
            refine j_iload_n X dX2_turnInto_113 rfl ?_
            refine j_iload X dX2_turnInto_114 rfl ?_
            refine j_iload X dX2_turnInto_116 rfl ?_
            refine cS4i X mf_X3_mirrorY ms_X3_mirrorY ml_X2_145 (by decide) (Nat.le_of_ble_eq_true rfl) dX2_turnInto_118 (sp_X3_mirrorY ⟨by omega, by omega⟩) (fun a_118 w_118 h_118 => ?_)
            obtain ⟨_, _⟩ := h_118
            subst a_118
            subst w_118
            refine j_iload X dX2_turnInto_121 rfl ?_
            refine j_iload X dX2_turnInto_123 rfl ?_
            refine cV4v X mf_X2_put mv_X2_put ml_X2_80 (by decide) rfl rfl (Nat.le_of_ble_eq_true rfl) dX2_turnInto_125 (sp_X2_put_25 (us := us2) (kd9 := kd9) (sp := (sp2 : Int)) hP.1.1.1 hP.1.1.2.1 (by have := hP.2.2.2.1; omega) hP.1.1.2.2.2.2 hP.1.2.1.1 hP.1.2.2.2.1 hkd9 ⟨by omega, by omega⟩ ⟨by omega, by omega⟩ ⟨by omega, by omega⟩) (fun w_125 h_125 => ?_)
            change _ = _ at h_125
            obtain ⟨us9, sp9, hP9⟩ : ∃ us9 sp9, TI 24 46 25 40 us sp N F S s k d w (i + 1) us9 sp9 w_125 := by
              rw [h_125]
              exact TI_put (kd9 := kd9) (p := mir s k (enw w 46 i)) (by decide) hL hA hbx2 (by omega) hcn hP hi9 hk9.symm hon.symm
            refine j_goto (tgt := 143) X dX2_turnInto_128 (by decide) ?_
            refine fg_7 ?_
            refine fg_8 ?_
            refine fg_9 ?_
            refine fg_10 ?_
            refine fg_11 ?_
            exact C_143 _ _ _ hP9
        refine j_iload X dX2_turnInto_53 rfl ?_
        refine j_aload_n X dX2_turnInto_55 rfl ?_
        refine j_getI X dX2_turnInto_56 ff_X2_107 rfl rfl ?_
        refine j_icmp_ge (tgt := 69) X dX2_turnInto_59 (by decide) ⟨by omega, by omega⟩ ⟨by omega, by omega⟩ (fun h_59 => ?_) (fun h_59 => ?_)
        · refine j_aload_n X dX2_turnInto_69 rfl ?_
          refine cV0i X mf_X2_secondKind mv_X2_secondKind ml_X2_138 (by decide) rfl rfl (Nat.le_of_ble_eq_true rfl) dX2_turnInto_70 (sp_X2_secondKind_24 ⟨by omega, by omega⟩) (fun a_70 w_70 h_70 => ?_)
          obtain ⟨_, _⟩ := h_70
          subst a_70
          subst w_70
          have hns : ¬ i < sp := by omega
          have e9 : skF u 24 = (kd9 : Int) := by
            rw [← hk9]
            rcases hL.1.2.2.2.2 with z | z <;> simp [skF, tk, eo, z, hns]
          rw [e9]
          exact C_73
        · refine j_aload_n X dX2_turnInto_62 rfl ?_
          refine j_getI X dX2_turnInto_63 ff_X2_104 rfl rfl ?_
          refine j_goto (tgt := 73) X dX2_turnInto_66 (by decide) ?_
          rw [show u 24 7 = (kd9 : Int) by rw [← hk9]; unfold tk; rw [if_pos (by omega), eo]]
          exact C_73
  refine L_11 (us + 1) 0 0 0 _ (TI_0 (by decide) hL hK9) (by omega) (by omega)
set_option maxHeartbeats 4000000 in
set_option maxRecDepth 20000 in
theorem sp_X2_turnInto_25 {us sp us9 sp9 N s d : Nat} {F : Nat → Int} {S : lys} {k l R : Int} {w : wd} (hL : LR w 25 40 us sp) (hA : EA w 25 40 us sp N F S) (hB : EB w 25 40 us sp N F S) (hbx : BOX R N S) (hR : 0 ≤ R ∧ R ≤ 100) (hcr : crS N S s k) (hcn : CNS N F (trS S s k d)) (hs : s < 4) (hd : d < 2) (hk : -24 ≤ k ∧ k ≤ 48) (hl : l = 0 ∨ l = 1) (hu9 : w 26 9 = (us9 : Int)) (hus9 : us9 ≤ 144) (hK9 : LK w 26 34 us9 sp9) : CalV yX2_turnInto cX2_turnInto 12 4 LAY w [vR 25, vR 26, vI (s : Int), vI k, vI (d : Int), vI l] (fun w' => ∃ us2 sp2, LR w' 26 34 us2 sp2 ∧ EA w' 26 34 us2 sp2 N F (trS S s k d) ∧ (EB w' 26 34 us2 sp2 N F (trS S s k d) ∨ (l = 1 ∧ enA w' 34)) ∧ ∀ o, o ≠ 26 → (o < 34 ∨ 39 < o) → w' o = w o) := by
  have hbx2 : BOX (R + 5) N (trS S s k d) := hbx.trk (by omega) (by omega) hcr
  have h144 := hL.1.2.2.2.1
  have hspu := hL.1.2.2.1
  refine calV_intro (ls := [some (vR 25), some (vR 26), some (vI (s : Int)), some (vI k), some (vI (d : Int)), some (vI l), none, none, none, none, none, none]) (by decide) (Nat.le_of_ble_eq_true rfl) rfl (fun κ ad X hR => ?_)
  refine j_aload_n X dX2_turnInto_0 rfl ?_
  refine j_aload_n X dX2_turnInto_1 rfl ?_
  refine j_getI X dX2_turnInto_2 ff_X2_104 rfl rfl ?_
  refine cV1v X mf_X2_clear mv_X2_clear ml_X2_51 (by decide) rfl rfl (Nat.le_of_ble_eq_true rfl) dX2_turnInto_5 (sp_X2_clear_26 hu9 hus9) (fun w_5 h_5 => ?_)
  change _ = _ at h_5
  subst w_5
  refine j_iconst X dX2_turnInto_8 ?_
  refine s_6 X dX2_turnInto_9 rfl ?_
  have L_11 : ∀ (m : Nat) (i us2 sp2 : Nat) (u : wd) (_ : TI 25 40 26 34 us sp N F S s k d w i us2 sp2 u) (_ : i ≤ us) (_ : us - i < m), J κ LAY ad 0 0 11 [some (vR 25), some (vR 26), some (vI (s : Int)), some (vI k), some (vI (d : Int)), some (vI l), some (vI (i : Int)), none, none, none, none, none] [] u := by
    intro m
    induction m with
    | zero => intro i us2 sp2 u hP h1 h2; exact absurd h2 (Nat.not_lt_zero _)
    | succ m ih11 =>
      intro i us2 sp2 u hP h1 h2
      have eo : u 25 = w 25 := hP.2.1 25 (by decide) (by decide)
      have hu1 : u 25 9 = (us : Int) := by rw [eo]; exact hL.1.1
      have hu2 : u 25 8 = (sp : Int) := by rw [eo]; exact hL.1.2.1
      have hf7 : u 25 7 = 1 ∨ u 25 7 = 2 := by rw [eo]; exact hL.1.2.2.2.2
      refine j_iload X dX2_turnInto_11 rfl ?_
      refine j_aload_n X dX2_turnInto_13 rfl ?_
      refine j_getI X dX2_turnInto_14 ff_X2_84 rfl rfl ?_
      refine j_icmp_ge (tgt := 171) X dX2_turnInto_17 (by decide) ⟨by omega, by omega⟩ ⟨by omega, by omega⟩ (fun h_17 => ?_) (fun h_17 => ?_)
      · exact j_return X hR dX2_turnInto_171 ⟨us2, sp2, hP.1, hP.2.2.2.2.2.1, Or.inl (TI_end hB (by rw [show us = i by omega]; rw [show i = us by omega] at hP ⊢; exact hP)), hP.2.1⟩
      · have hi9 : i < us := by omega
        obtain ⟨f9, hf9, hf8, hf7b⟩ := hA i hi9
        have hco := hbx.1 f9 hf9
        rw [← hf8] at hco
        simp only [okp, enw, show 40 + 1 = 41 from rfl, show 40 + 2 = 42 from rfl] at hco
        have e0 : u 40 i = w 40 i := by rw [hP.2.1 40 (by decide) (by decide)]
        have e1 : u 41 i = w 41 i := by rw [hP.2.1 41 (by decide) (by decide)]
        have e2 : u 42 i = w 42 i := by rw [hP.2.1 42 (by decide) (by decide)]
        obtain ⟨kd9, hk9, hkd9⟩ : ∃ kd9 : Nat, tk w 25 sp i = (kd9 : Int) ∧ (kd9 = 1 ∨ kd9 = 2) := by
          rcases tk_rg (sp := sp) (i := i) hL.1.2.2.2.2 with z | z
          · exact ⟨1, z, Or.inl rfl⟩
          · exact ⟨2, z, Or.inr rfl⟩
        refine j_aload_n X dX2_turnInto_20 rfl ?_
        refine j_getR X dX2_turnInto_21 ff_X2_9 rfl rfl ?_
        refine j_iload X dX2_turnInto_24 rfl ?_
        refine cS2i X mf_X5_get ms_X5_get ml_X2_87 (by decide) (Nat.le_of_ble_eq_true rfl) dX2_turnInto_26 (sp_getk (k := i) rfl (by decide) (by omega)) (fun a_26 w_26 h_26 => ?_)
        obtain ⟨_, _⟩ := h_26
        subst a_26
        subst w_26
        rw [e0]
        refine s_7 X dX2_turnInto_29 rfl ?_
        refine j_aload_n X dX2_turnInto_31 rfl ?_
        refine j_getR X dX2_turnInto_32 ff_X2_15 rfl rfl ?_
        refine j_iload X dX2_turnInto_35 rfl ?_
        refine cS2i X mf_X5_get ms_X5_get ml_X2_87 (by decide) (Nat.le_of_ble_eq_true rfl) dX2_turnInto_37 (sp_getk (k := i) rfl (by decide) (by omega)) (fun a_37 w_37 h_37 => ?_)
        obtain ⟨_, _⟩ := h_37
        subst a_37
        subst w_37
        rw [e1]
        refine s_8 X dX2_turnInto_40 rfl ?_
        refine j_aload_n X dX2_turnInto_42 rfl ?_
        refine j_getR X dX2_turnInto_43 ff_X2_18 rfl rfl ?_
        refine j_iload X dX2_turnInto_46 rfl ?_
        refine cS2i X mf_X5_get ms_X5_get ml_X2_87 (by decide) (Nat.le_of_ble_eq_true rfl) dX2_turnInto_48 (sp_getk (k := i) rfl (by decide) (by omega)) (fun a_48 w_48 h_48 => ?_)
        obtain ⟨_, _⟩ := h_48
        subst a_48
        subst w_48
        rw [e2]
        refine s_9 X dX2_turnInto_51 rfl ?_
        have C_73 : J κ LAY ad 0 0 73 [some (vR 25), some (vR 26), some (vI (s : Int)), some (vI k), some (vI (d : Int)), some (vI l), some (vI (i : Int)), some (vI (w 40 i)), some (vI (w 41 i)), some (vI (w 42 i)), none, none] [vI (kd9 : Int)] u := by
          skip
          refine s_10 X dX2_turnInto_73 rfl ?_
          have C_143 : ∀ (us3 sp3 : Nat) (v : wd), TI 25 40 26 34 us sp N F S s k d w (i + 1) us3 sp3 v → J κ LAY ad 0 0 143 [some (vR 25), some (vR 26), some (vI (s : Int)), some (vI k), some (vI (d : Int)), some (vI l), some (vI (i : Int)), none, none, none, none, none] [] v := by
            intro us3 sp3 v hP3
            have ev : v 25 = w 25 := hP3.2.1 25 (by decide) (by decide)
            have hv2 : v 25 8 = (sp : Int) := by rw [ev]; exact hL.1.2.1
            refine j_iload X dX2_turnInto_143 rfl ?_
            refine j_if_eq (tgt := 165) X dX2_turnInto_145 (by decide) ⟨by omega, by omega⟩ (fun h_145 => ?_) (fun h_145 => ?_)
            · refine inc_6 X dX2_turnInto_165 rfl ?_
              refine j_goto (tgt := 11) X dX2_turnInto_168 (by decide) ?_
              exact ih11 (i + 1) us3 sp3 v hP3 (by omega) (by omega)
            · refine j_iload X dX2_turnInto_148 rfl ?_
              refine j_aload_n X dX2_turnInto_150 rfl ?_
              refine j_getI X dX2_turnInto_151 ff_X2_107 rfl rfl ?_
              refine j_icmp_lt (tgt := 165) X dX2_turnInto_154 (by decide) ⟨by omega, by omega⟩ ⟨by omega, by omega⟩ (fun h_154 => ?_) (fun h_154 => ?_)
              · refine inc_6 X dX2_turnInto_165 rfl ?_
                refine j_goto (tgt := 11) X dX2_turnInto_168 (by decide) ?_
                exact ih11 (i + 1) us3 sp3 v hP3 (by omega) (by omega)
              · have hz : LzO v 34 := hP3.1.2.2.2.1
                refine j_aload_n X dX2_turnInto_157 rfl ?_
                refine cV0i X mf_X2_isEntangled mv_X2_isEntangled ml_X2_155 (by decide) rfl rfl (Nat.le_of_ble_eq_true rfl) dX2_turnInto_158 (sp_X2_isEntangled_26 hz) (fun a_158 w_158 h_158 => ?_)
                obtain ⟨_, _⟩ := h_158
                subst a_158
                subst w_158
                refine jb_eq (tgt := 165) X dX2_turnInto_161 (by decide) (fun h_161 => ?_) (fun h_161 => ?_)
                · refine inc_6 X dX2_turnInto_165 rfl ?_
                  refine j_goto (tgt := 11) X dX2_turnInto_168 (by decide) ?_
                  exact ih11 (i + 1) us3 sp3 v hP3 (by omega) (by omega)
                · exact j_return X hR dX2_turnInto_164 ⟨us3, sp3, hP3.1, hP3.2.2.2.2.2.1, Or.inr ⟨by omega, h_161⟩, hP3.2.1⟩
          have hst := stp_rg (s := (s : Int)) (p := enw w 40 i) (R := R) hco
          simp only [stp, enw, show 40 + 1 = 41 from rfl, show 40 + 2 = 42 from rfl] at hst
          refine j_iload_n X dX2_turnInto_75 rfl ?_
          refine j_iload X dX2_turnInto_76 rfl ?_
          refine j_iload X dX2_turnInto_78 rfl ?_
          refine j_iload X dX2_turnInto_80 rfl ?_
          refine cS4i X mf_X3_strip ms_X3_strip ml_X2_116 (by decide) (Nat.le_of_ble_eq_true rfl) dX2_turnInto_82 (sp_X3_strip ⟨by omega, by omega⟩ ⟨by omega, by omega⟩) (fun a_82 w_82 h_82 => ?_)
          obtain ⟨_, _⟩ := h_82
          subst a_82
          subst w_82
          refine j_iload_n X dX2_turnInto_85 rfl ?_
          refine j_iload X dX2_turnInto_86 rfl ?_
          refine cS3i X mf_X3_isOn ms_X3_isOn ml_X2_151 (by decide) (Nat.le_of_ble_eq_true rfl) dX2_turnInto_88 (sp_X3_isOn ⟨by omega, by omega⟩ ⟨by omega, by omega⟩ ⟨by omega, by omega⟩) (fun a_88 w_88 h_88 => ?_)
          obtain ⟨_, _⟩ := h_88
          subst a_88
          subst w_88
          refine jb_eq (tgt := 131) X dX2_turnInto_91 (by decide) (fun h_91 => ?_) (fun h_91 => ?_)
          · have hon : trn s k d (enw w 40 i) = enw w 40 i := if_neg h_91
            refine j_aload_n X dX2_turnInto_131 rfl ?_
            refine j_iload X dX2_turnInto_132 rfl ?_
            refine j_iload X dX2_turnInto_134 rfl ?_
            refine j_iload X dX2_turnInto_136 rfl ?_
            refine j_iload X dX2_turnInto_138 rfl ?_
            refine cV4v X mf_X2_put mv_X2_put ml_X2_80 (by decide) rfl rfl (Nat.le_of_ble_eq_true rfl) dX2_turnInto_140 (sp_X2_put_26 (us := us2) (kd9 := kd9) (sp := (sp2 : Int)) hP.1.1.1 hP.1.1.2.1 (by have := hP.2.2.2.1; omega) hP.1.1.2.2.2.2 hP.1.2.1.1 hP.1.2.2.2.1 hkd9 ⟨by omega, by omega⟩ ⟨by omega, by omega⟩ ⟨by omega, by omega⟩) (fun w_140 h_140 => ?_)
            change _ = _ at h_140
            obtain ⟨us9, sp9, hP9⟩ : ∃ us9 sp9, TI 25 40 26 34 us sp N F S s k d w (i + 1) us9 sp9 w_140 := by
              rw [h_140]
              exact TI_put (kd9 := kd9) (p := enw w 40 i) (by decide) hL hA hbx2 (by omega) hcn hP hi9 hk9.symm hon.symm
            refine fg_7 ?_
            refine fg_8 ?_
            refine fg_9 ?_
            refine fg_10 ?_
            exact C_143 _ _ _ hP9
          · have hmm := hbx2.1 f9 hf9
            have hon : trn s k d (enw w 40 i) = mir s k (enw w 40 i) := if_pos h_91
            simp only [trS, ← hf8, hon] at hmm
            simp only [okp, mir, enw, show 40 + 1 = 41 from rfl, show 40 + 2 = 42 from rfl] at hmm
            refine j_iload_n X dX2_turnInto_94 rfl ?_
            refine j_iload X dX2_turnInto_95 rfl ?_
            refine cS2i X mf_X3_mirrorQuarter ms_X3_mirrorQuarter ml_X2_148 (by decide) (Nat.le_of_ble_eq_true rfl) dX2_turnInto_97 (sp_X3_mirrorQuarter ⟨by omega, by omega⟩) (fun a_97 w_97 h_97 => ?_)
            obtain ⟨_, _⟩ := h_97
            subst a_97
            subst w_97
            refine s_11 X dX2_turnInto_100 rfl ?_
            refine j_aload_n X dX2_turnInto_102 rfl ?_
            refine j_iload_n X dX2_turnInto_103 rfl ?_
            refine j_iload_n X dX2_turnInto_104 rfl ?_
            refine j_iload X dX2_turnInto_105 rfl ?_
            refine j_iload X dX2_turnInto_107 rfl ?_
            refine cS4i X mf_X3_mirrorX ms_X3_mirrorX ml_X2_142 (by decide) (Nat.le_of_ble_eq_true rfl) dX2_turnInto_109 (sp_X3_mirrorX ⟨by omega, by omega⟩) (fun a_109 w_109 h_109 => ?_)
            obtain ⟨_, _⟩ := h_109
            subst a_109
            subst w_109
            refine j_iload_n X dX2_turnInto_112 rfl ?_
            refine j_iload_n X dX2_turnInto_113 rfl ?_
            refine j_iload X dX2_turnInto_114 rfl ?_
            refine j_iload X dX2_turnInto_116 rfl ?_
            refine cS4i X mf_X3_mirrorY ms_X3_mirrorY ml_X2_145 (by decide) (Nat.le_of_ble_eq_true rfl) dX2_turnInto_118 (sp_X3_mirrorY ⟨by omega, by omega⟩) (fun a_118 w_118 h_118 => ?_)
            obtain ⟨_, _⟩ := h_118
            subst a_118
            subst w_118
            refine j_iload X dX2_turnInto_121 rfl ?_
            refine j_iload X dX2_turnInto_123 rfl ?_
            refine cV4v X mf_X2_put mv_X2_put ml_X2_80 (by decide) rfl rfl (Nat.le_of_ble_eq_true rfl) dX2_turnInto_125 (sp_X2_put_26 (us := us2) (kd9 := kd9) (sp := (sp2 : Int)) hP.1.1.1 hP.1.1.2.1 (by have := hP.2.2.2.1; omega) hP.1.1.2.2.2.2 hP.1.2.1.1 hP.1.2.2.2.1 hkd9 ⟨by omega, by omega⟩ ⟨by omega, by omega⟩ ⟨by omega, by omega⟩) (fun w_125 h_125 => ?_)
            change _ = _ at h_125
            obtain ⟨us9, sp9, hP9⟩ : ∃ us9 sp9, TI 25 40 26 34 us sp N F S s k d w (i + 1) us9 sp9 w_125 := by
              rw [h_125]
              exact TI_put (kd9 := kd9) (p := mir s k (enw w 40 i)) (by decide) hL hA hbx2 (by omega) hcn hP hi9 hk9.symm hon.symm
            refine j_goto (tgt := 143) X dX2_turnInto_128 (by decide) ?_
            refine fg_7 ?_
            refine fg_8 ?_
            refine fg_9 ?_
            refine fg_10 ?_
            refine fg_11 ?_
            exact C_143 _ _ _ hP9
        refine j_iload X dX2_turnInto_53 rfl ?_
        refine j_aload_n X dX2_turnInto_55 rfl ?_
        refine j_getI X dX2_turnInto_56 ff_X2_107 rfl rfl ?_
        refine j_icmp_ge (tgt := 69) X dX2_turnInto_59 (by decide) ⟨by omega, by omega⟩ ⟨by omega, by omega⟩ (fun h_59 => ?_) (fun h_59 => ?_)
        · refine j_aload_n X dX2_turnInto_69 rfl ?_
          refine cV0i X mf_X2_secondKind mv_X2_secondKind ml_X2_138 (by decide) rfl rfl (Nat.le_of_ble_eq_true rfl) dX2_turnInto_70 (sp_X2_secondKind_25 ⟨by omega, by omega⟩) (fun a_70 w_70 h_70 => ?_)
          obtain ⟨_, _⟩ := h_70
          subst a_70
          subst w_70
          have hns : ¬ i < sp := by omega
          have e9 : skF u 25 = (kd9 : Int) := by
            rw [← hk9]
            rcases hL.1.2.2.2.2 with z | z <;> simp [skF, tk, eo, z, hns]
          rw [e9]
          exact C_73
        · refine j_aload_n X dX2_turnInto_62 rfl ?_
          refine j_getI X dX2_turnInto_63 ff_X2_104 rfl rfl ?_
          refine j_goto (tgt := 73) X dX2_turnInto_66 (by decide) ?_
          rw [show u 25 7 = (kd9 : Int) by rw [← hk9]; unfold tk; rw [if_pos (by omega), eo]]
          exact C_73
  refine L_11 (us + 1) 0 0 0 _ (TI_0 (by decide) hL hK9) (by omega) (by omega)
set_option maxHeartbeats 4000000 in
set_option maxRecDepth 20000 in
theorem sp_X2_turnInto_26 {us sp us9 sp9 N s d : Nat} {F : Nat → Int} {S : lys} {k l R : Int} {w : wd} (hL : LR w 26 34 us sp) (hA : EA w 26 34 us sp N F S) (hB : EB w 26 34 us sp N F S) (hbx : BOX R N S) (hR : 0 ≤ R ∧ R ≤ 100) (hcr : crS N S s k) (hcn : CNS N F (trS S s k d)) (hs : s < 4) (hd : d < 2) (hk : -24 ≤ k ∧ k ≤ 48) (hl : l = 0 ∨ l = 1) (hu9 : w 27 9 = (us9 : Int)) (hus9 : us9 ≤ 144) (hK9 : LK w 27 28 us9 sp9) : CalV yX2_turnInto cX2_turnInto 12 4 LAY w [vR 26, vR 27, vI (s : Int), vI k, vI (d : Int), vI l] (fun w' => ∃ us2 sp2, LR w' 27 28 us2 sp2 ∧ EA w' 27 28 us2 sp2 N F (trS S s k d) ∧ (EB w' 27 28 us2 sp2 N F (trS S s k d) ∨ (l = 1 ∧ enA w' 28)) ∧ ∀ o, o ≠ 27 → (o < 28 ∨ 33 < o) → w' o = w o) := by
  have hbx2 : BOX (R + 5) N (trS S s k d) := hbx.trk (by omega) (by omega) hcr
  have h144 := hL.1.2.2.2.1
  have hspu := hL.1.2.2.1
  refine calV_intro (ls := [some (vR 26), some (vR 27), some (vI (s : Int)), some (vI k), some (vI (d : Int)), some (vI l), none, none, none, none, none, none]) (by decide) (Nat.le_of_ble_eq_true rfl) rfl (fun κ ad X hR => ?_)
  refine j_aload_n X dX2_turnInto_0 rfl ?_
  refine j_aload_n X dX2_turnInto_1 rfl ?_
  refine j_getI X dX2_turnInto_2 ff_X2_104 rfl rfl ?_
  refine cV1v X mf_X2_clear mv_X2_clear ml_X2_51 (by decide) rfl rfl (Nat.le_of_ble_eq_true rfl) dX2_turnInto_5 (sp_X2_clear_27 hu9 hus9) (fun w_5 h_5 => ?_)
  change _ = _ at h_5
  subst w_5
  refine j_iconst X dX2_turnInto_8 ?_
  refine s_6 X dX2_turnInto_9 rfl ?_
  have L_11 : ∀ (m : Nat) (i us2 sp2 : Nat) (u : wd) (_ : TI 26 34 27 28 us sp N F S s k d w i us2 sp2 u) (_ : i ≤ us) (_ : us - i < m), J κ LAY ad 0 0 11 [some (vR 26), some (vR 27), some (vI (s : Int)), some (vI k), some (vI (d : Int)), some (vI l), some (vI (i : Int)), none, none, none, none, none] [] u := by
    intro m
    induction m with
    | zero => intro i us2 sp2 u hP h1 h2; exact absurd h2 (Nat.not_lt_zero _)
    | succ m ih11 =>
      intro i us2 sp2 u hP h1 h2
      have eo : u 26 = w 26 := hP.2.1 26 (by decide) (by decide)
      have hu1 : u 26 9 = (us : Int) := by rw [eo]; exact hL.1.1
      have hu2 : u 26 8 = (sp : Int) := by rw [eo]; exact hL.1.2.1
      have hf7 : u 26 7 = 1 ∨ u 26 7 = 2 := by rw [eo]; exact hL.1.2.2.2.2
      refine j_iload X dX2_turnInto_11 rfl ?_
      refine j_aload_n X dX2_turnInto_13 rfl ?_
      refine j_getI X dX2_turnInto_14 ff_X2_84 rfl rfl ?_
      refine j_icmp_ge (tgt := 171) X dX2_turnInto_17 (by decide) ⟨by omega, by omega⟩ ⟨by omega, by omega⟩ (fun h_17 => ?_) (fun h_17 => ?_)
      · exact j_return X hR dX2_turnInto_171 ⟨us2, sp2, hP.1, hP.2.2.2.2.2.1, Or.inl (TI_end hB (by rw [show us = i by omega]; rw [show i = us by omega] at hP ⊢; exact hP)), hP.2.1⟩
      · have hi9 : i < us := by omega
        obtain ⟨f9, hf9, hf8, hf7b⟩ := hA i hi9
        have hco := hbx.1 f9 hf9
        rw [← hf8] at hco
        simp only [okp, enw, show 34 + 1 = 35 from rfl, show 34 + 2 = 36 from rfl] at hco
        have e0 : u 34 i = w 34 i := by rw [hP.2.1 34 (by decide) (by decide)]
        have e1 : u 35 i = w 35 i := by rw [hP.2.1 35 (by decide) (by decide)]
        have e2 : u 36 i = w 36 i := by rw [hP.2.1 36 (by decide) (by decide)]
        obtain ⟨kd9, hk9, hkd9⟩ : ∃ kd9 : Nat, tk w 26 sp i = (kd9 : Int) ∧ (kd9 = 1 ∨ kd9 = 2) := by
          rcases tk_rg (sp := sp) (i := i) hL.1.2.2.2.2 with z | z
          · exact ⟨1, z, Or.inl rfl⟩
          · exact ⟨2, z, Or.inr rfl⟩
        refine j_aload_n X dX2_turnInto_20 rfl ?_
        refine j_getR X dX2_turnInto_21 ff_X2_9 rfl rfl ?_
        refine j_iload X dX2_turnInto_24 rfl ?_
        refine cS2i X mf_X5_get ms_X5_get ml_X2_87 (by decide) (Nat.le_of_ble_eq_true rfl) dX2_turnInto_26 (sp_getk (k := i) rfl (by decide) (by omega)) (fun a_26 w_26 h_26 => ?_)
        obtain ⟨_, _⟩ := h_26
        subst a_26
        subst w_26
        rw [e0]
        refine s_7 X dX2_turnInto_29 rfl ?_
        refine j_aload_n X dX2_turnInto_31 rfl ?_
        refine j_getR X dX2_turnInto_32 ff_X2_15 rfl rfl ?_
        refine j_iload X dX2_turnInto_35 rfl ?_
        refine cS2i X mf_X5_get ms_X5_get ml_X2_87 (by decide) (Nat.le_of_ble_eq_true rfl) dX2_turnInto_37 (sp_getk (k := i) rfl (by decide) (by omega)) (fun a_37 w_37 h_37 => ?_)
        obtain ⟨_, _⟩ := h_37
        subst a_37
        subst w_37
        rw [e1]
        refine s_8 X dX2_turnInto_40 rfl ?_
        refine j_aload_n X dX2_turnInto_42 rfl ?_
        refine j_getR X dX2_turnInto_43 ff_X2_18 rfl rfl ?_
        refine j_iload X dX2_turnInto_46 rfl ?_
        refine cS2i X mf_X5_get ms_X5_get ml_X2_87 (by decide) (Nat.le_of_ble_eq_true rfl) dX2_turnInto_48 (sp_getk (k := i) rfl (by decide) (by omega)) (fun a_48 w_48 h_48 => ?_)
        obtain ⟨_, _⟩ := h_48
        subst a_48
        subst w_48
        rw [e2]
        refine s_9 X dX2_turnInto_51 rfl ?_
        have C_73 : J κ LAY ad 0 0 73 [some (vR 26), some (vR 27), some (vI (s : Int)), some (vI k), some (vI (d : Int)), some (vI l), some (vI (i : Int)), some (vI (w 34 i)), some (vI (w 35 i)), some (vI (w 36 i)), none, none] [vI (kd9 : Int)] u := by
          skip
          refine s_10 X dX2_turnInto_73 rfl ?_
          have C_143 : ∀ (us3 sp3 : Nat) (v : wd), TI 26 34 27 28 us sp N F S s k d w (i + 1) us3 sp3 v → J κ LAY ad 0 0 143 [some (vR 26), some (vR 27), some (vI (s : Int)), some (vI k), some (vI (d : Int)), some (vI l), some (vI (i : Int)), none, none, none, none, none] [] v := by
            intro us3 sp3 v hP3
            have ev : v 26 = w 26 := hP3.2.1 26 (by decide) (by decide)
            have hv2 : v 26 8 = (sp : Int) := by rw [ev]; exact hL.1.2.1
            refine j_iload X dX2_turnInto_143 rfl ?_
            refine j_if_eq (tgt := 165) X dX2_turnInto_145 (by decide) ⟨by omega, by omega⟩ (fun h_145 => ?_) (fun h_145 => ?_)
            · refine inc_6 X dX2_turnInto_165 rfl ?_
              refine j_goto (tgt := 11) X dX2_turnInto_168 (by decide) ?_
              exact ih11 (i + 1) us3 sp3 v hP3 (by omega) (by omega)
            · refine j_iload X dX2_turnInto_148 rfl ?_
              refine j_aload_n X dX2_turnInto_150 rfl ?_
              refine j_getI X dX2_turnInto_151 ff_X2_107 rfl rfl ?_
              refine j_icmp_lt (tgt := 165) X dX2_turnInto_154 (by decide) ⟨by omega, by omega⟩ ⟨by omega, by omega⟩ (fun h_154 => ?_) (fun h_154 => ?_)
              · refine inc_6 X dX2_turnInto_165 rfl ?_
                refine j_goto (tgt := 11) X dX2_turnInto_168 (by decide) ?_
                exact ih11 (i + 1) us3 sp3 v hP3 (by omega) (by omega)
              · have hz : LzO v 28 := hP3.1.2.2.2.1
                refine j_aload_n X dX2_turnInto_157 rfl ?_
                refine cV0i X mf_X2_isEntangled mv_X2_isEntangled ml_X2_155 (by decide) rfl rfl (Nat.le_of_ble_eq_true rfl) dX2_turnInto_158 (sp_X2_isEntangled_27 hz) (fun a_158 w_158 h_158 => ?_)
                obtain ⟨_, _⟩ := h_158
                subst a_158
                subst w_158
                refine jb_eq (tgt := 165) X dX2_turnInto_161 (by decide) (fun h_161 => ?_) (fun h_161 => ?_)
                · refine inc_6 X dX2_turnInto_165 rfl ?_
                  refine j_goto (tgt := 11) X dX2_turnInto_168 (by decide) ?_
                  exact ih11 (i + 1) us3 sp3 v hP3 (by omega) (by omega)
                · exact j_return X hR dX2_turnInto_164 ⟨us3, sp3, hP3.1, hP3.2.2.2.2.2.1, Or.inr ⟨by omega, h_161⟩, hP3.2.1⟩
          have hst := stp_rg (s := (s : Int)) (p := enw w 34 i) (R := R) hco
          simp only [stp, enw, show 34 + 1 = 35 from rfl, show 34 + 2 = 36 from rfl] at hst
          refine j_iload_n X dX2_turnInto_75 rfl ?_
          refine j_iload X dX2_turnInto_76 rfl ?_
          refine j_iload X dX2_turnInto_78 rfl ?_
          refine j_iload X dX2_turnInto_80 rfl ?_
          refine cS4i X mf_X3_strip ms_X3_strip ml_X2_116 (by decide) (Nat.le_of_ble_eq_true rfl) dX2_turnInto_82 (sp_X3_strip ⟨by omega, by omega⟩ ⟨by omega, by omega⟩) (fun a_82 w_82 h_82 => ?_)
          obtain ⟨_, _⟩ := h_82
          subst a_82
          subst w_82
          refine j_iload_n X dX2_turnInto_85 rfl ?_
          refine j_iload X dX2_turnInto_86 rfl ?_
          refine cS3i X mf_X3_isOn ms_X3_isOn ml_X2_151 (by decide) (Nat.le_of_ble_eq_true rfl) dX2_turnInto_88 (sp_X3_isOn ⟨by omega, by omega⟩ ⟨by omega, by omega⟩ ⟨by omega, by omega⟩) (fun a_88 w_88 h_88 => ?_)
          obtain ⟨_, _⟩ := h_88
          subst a_88
          subst w_88
          refine jb_eq (tgt := 131) X dX2_turnInto_91 (by decide) (fun h_91 => ?_) (fun h_91 => ?_)
          · have hon : trn s k d (enw w 34 i) = enw w 34 i := if_neg h_91
            refine j_aload_n X dX2_turnInto_131 rfl ?_
            refine j_iload X dX2_turnInto_132 rfl ?_
            refine j_iload X dX2_turnInto_134 rfl ?_
            refine j_iload X dX2_turnInto_136 rfl ?_
            refine j_iload X dX2_turnInto_138 rfl ?_
            refine cV4v X mf_X2_put mv_X2_put ml_X2_80 (by decide) rfl rfl (Nat.le_of_ble_eq_true rfl) dX2_turnInto_140 (sp_X2_put_27 (us := us2) (kd9 := kd9) (sp := (sp2 : Int)) hP.1.1.1 hP.1.1.2.1 (by have := hP.2.2.2.1; omega) hP.1.1.2.2.2.2 hP.1.2.1.1 hP.1.2.2.2.1 hkd9 ⟨by omega, by omega⟩ ⟨by omega, by omega⟩ ⟨by omega, by omega⟩) (fun w_140 h_140 => ?_)
            change _ = _ at h_140
            obtain ⟨us9, sp9, hP9⟩ : ∃ us9 sp9, TI 26 34 27 28 us sp N F S s k d w (i + 1) us9 sp9 w_140 := by
              rw [h_140]
              exact TI_put (kd9 := kd9) (p := enw w 34 i) (by decide) hL hA hbx2 (by omega) hcn hP hi9 hk9.symm hon.symm
            refine fg_7 ?_
            refine fg_8 ?_
            refine fg_9 ?_
            refine fg_10 ?_
            exact C_143 _ _ _ hP9
          · have hmm := hbx2.1 f9 hf9
            have hon : trn s k d (enw w 34 i) = mir s k (enw w 34 i) := if_pos h_91
            simp only [trS, ← hf8, hon] at hmm
            simp only [okp, mir, enw, show 34 + 1 = 35 from rfl, show 34 + 2 = 36 from rfl] at hmm
            refine j_iload_n X dX2_turnInto_94 rfl ?_
            refine j_iload X dX2_turnInto_95 rfl ?_
            refine cS2i X mf_X3_mirrorQuarter ms_X3_mirrorQuarter ml_X2_148 (by decide) (Nat.le_of_ble_eq_true rfl) dX2_turnInto_97 (sp_X3_mirrorQuarter ⟨by omega, by omega⟩) (fun a_97 w_97 h_97 => ?_)
            obtain ⟨_, _⟩ := h_97
            subst a_97
            subst w_97
            refine s_11 X dX2_turnInto_100 rfl ?_
            refine j_aload_n X dX2_turnInto_102 rfl ?_
            refine j_iload_n X dX2_turnInto_103 rfl ?_
            refine j_iload_n X dX2_turnInto_104 rfl ?_
            refine j_iload X dX2_turnInto_105 rfl ?_
            refine j_iload X dX2_turnInto_107 rfl ?_
            refine cS4i X mf_X3_mirrorX ms_X3_mirrorX ml_X2_142 (by decide) (Nat.le_of_ble_eq_true rfl) dX2_turnInto_109 (sp_X3_mirrorX ⟨by omega, by omega⟩) (fun a_109 w_109 h_109 => ?_)
            obtain ⟨_, _⟩ := h_109
            subst a_109
            subst w_109
            refine j_iload_n X dX2_turnInto_112 rfl ?_
            refine j_iload_n X dX2_turnInto_113 rfl ?_
            refine j_iload X dX2_turnInto_114 rfl ?_
            refine j_iload X dX2_turnInto_116 rfl ?_
            refine cS4i X mf_X3_mirrorY ms_X3_mirrorY ml_X2_145 (by decide) (Nat.le_of_ble_eq_true rfl) dX2_turnInto_118 (sp_X3_mirrorY ⟨by omega, by omega⟩) (fun a_118 w_118 h_118 => ?_)
            obtain ⟨_, _⟩ := h_118
            subst a_118
            subst w_118
            refine j_iload X dX2_turnInto_121 rfl ?_
            refine j_iload X dX2_turnInto_123 rfl ?_
            refine cV4v X mf_X2_put mv_X2_put ml_X2_80 (by decide) rfl rfl (Nat.le_of_ble_eq_true rfl) dX2_turnInto_125 (sp_X2_put_27 (us := us2) (kd9 := kd9) (sp := (sp2 : Int)) hP.1.1.1 hP.1.1.2.1 (by have := hP.2.2.2.1; omega) hP.1.1.2.2.2.2 hP.1.2.1.1 hP.1.2.2.2.1 hkd9 ⟨by omega, by omega⟩ ⟨by omega, by omega⟩ ⟨by omega, by omega⟩) (fun w_125 h_125 => ?_)
            change _ = _ at h_125
            obtain ⟨us9, sp9, hP9⟩ : ∃ us9 sp9, TI 26 34 27 28 us sp N F S s k d w (i + 1) us9 sp9 w_125 := by
              rw [h_125]
              exact TI_put (kd9 := kd9) (p := mir s k (enw w 34 i)) (by decide) hL hA hbx2 (by omega) hcn hP hi9 hk9.symm hon.symm
            refine j_goto (tgt := 143) X dX2_turnInto_128 (by decide) ?_
            refine fg_7 ?_
            refine fg_8 ?_
            refine fg_9 ?_
            refine fg_10 ?_
            refine fg_11 ?_
            exact C_143 _ _ _ hP9
        refine j_iload X dX2_turnInto_53 rfl ?_
        refine j_aload_n X dX2_turnInto_55 rfl ?_
        refine j_getI X dX2_turnInto_56 ff_X2_107 rfl rfl ?_
        refine j_icmp_ge (tgt := 69) X dX2_turnInto_59 (by decide) ⟨by omega, by omega⟩ ⟨by omega, by omega⟩ (fun h_59 => ?_) (fun h_59 => ?_)
        · refine j_aload_n X dX2_turnInto_69 rfl ?_
          refine cV0i X mf_X2_secondKind mv_X2_secondKind ml_X2_138 (by decide) rfl rfl (Nat.le_of_ble_eq_true rfl) dX2_turnInto_70 (sp_X2_secondKind_26 ⟨by omega, by omega⟩) (fun a_70 w_70 h_70 => ?_)
          obtain ⟨_, _⟩ := h_70
          subst a_70
          subst w_70
          have hns : ¬ i < sp := by omega
          have e9 : skF u 26 = (kd9 : Int) := by
            rw [← hk9]
            rcases hL.1.2.2.2.2 with z | z <;> simp [skF, tk, eo, z, hns]
          rw [e9]
          exact C_73
        · refine j_aload_n X dX2_turnInto_62 rfl ?_
          refine j_getI X dX2_turnInto_63 ff_X2_104 rfl rfl ?_
          refine j_goto (tgt := 73) X dX2_turnInto_66 (by decide) ?_
          rw [show u 26 7 = (kd9 : Int) by rw [← hk9]; unfold tk; rw [if_pos (by omega), eo]]
          exact C_73
  refine L_11 (us + 1) 0 0 0 _ (TI_0 (by decide) hL hK9) (by omega) (by omega)
