/-! ===== search: weigh ===== -/
section JAN
variable {κ : KT} {cc : ByteArray} {own : String} {fr : Nat} {lay : lyT} {ad : Nat → Nat} {cn sn pc : Nat} {ls : List (Option av)} {st : List av} {w : wd}
theorem j_astore_nN (X : Okk κ cc own fr) {i : Fin 4} {ls' : List (Option av)} (hd : decode cc pc = .ok (.astore_n i, 1)) (hn : noL ls = true) (hi : (i : Nat) < ls.length) (hs : ls.set (i : Nat) (some vN) = ls') (k : J κ lay ad cn sn (pc + 1) ls' st w) : J κ lay ad cn sn pc ls (vN :: st) w := by
  obtain ⟨p, l, e, R, s, m, args, below, meth, c, D, cI, cZ, A, Q⟩ := κ
  obtain ⟨hx, hb, hown, hts, hK, hN, hA, hlk, hfr, hlo⟩ := X
  intro H locs arr hP hD hS hL
  subst hs
  exact lv_astore_nN (lv' := (_ :: _)) hx hb hd rfl hL.lv (Nat.lt_of_lt_of_le hi hL.2.1) rfl (fun arr' h' => k H locs arr' hP hD hS (hasL_set hL hn hi h'))
end JAN
theorem wst_add0 (w : wd) (o i : Nat) : wst w o i (w o i + 0) = w := by
  funext k j
  by_cases h : k = o
  · subst h
    by_cases h2 : j = i
    · subst h2; simp [wst, w1]
    · simp [wst, w1, h2]
  · simp [wst, h]
def cpy (w : wd) (m : Nat) : wd := fun o i => if o = 53 ∧ i < m then w 52 i else w o i
theorem cpy_0 (w : wd) : cpy w 0 = w := by
  funext o i
  simp [cpy]
theorem cpy_s (w : wd) (m : Nat) : wst (cpy w m) 53 m (w 52 m) = cpy w (m + 1) := by
  funext o i
  by_cases ho : o = 53
  · subst ho
    by_cases hi : i = m
    · subst hi; simp [wst, w1, cpy]
    · have : i < m + 1 ↔ i < m := by omega
      simp [wst, w1, cpy, hi, this]
  · simp [wst, cpy, ho]
theorem cpy_o {w : wd} {m o : Nat} (h : o ≠ 53) : cpy w m o = w o := by
  funext i
  simp [cpy, h]
def weiW (w : wd) (a g : Nat) (c : Int) : wd := wst (if 0 < c ∧ w 23 8 = 0 then wst (cpy w g) 53 g (tcP w a 4) else w) 23 8 (w 23 8 + c)
theorem tcP_c {w u : wd} {a : Nat} (h4 : u (a + 4) = w (a + 4)) (h5 : u (a + 5) = w (a + 5)) : ∀ m, tcP u a m = tcP w a m := by
  have hf : ∀ s d, fcF u a s d = fcF w a s d := fun s d => by unfold fcF; rw [h5]
  have hl : ∀ s d, lcF u a s d = lcF w a s d := fun s d => by unfold lcF; rw [h4]
  have hi : ∀ s c m, tcI u a s c m = tcI w a s c m := fun s c m => by
    induction m with
    | zero => rfl
    | succ m ih => simp only [tcI, hf, hl, ih]
  intro m
  induction m with
  | zero => rfl
  | succ m ih => simp only [tcP, hi, ih]
theorem cutL_rg {w : wd} {a : Nat} (h : LzO w a) : 0 ≤ cutL w a ∧ cutL w a ≤ 600 := by
  have h0 : ∀ s, s < 4 → ∀ d, 0 ≤ max 0 (lcF w a s d - fcF w a s d + 1) ∧ max 0 (lcF w a s d - fcF w a s d + 1) ≤ 73 := by
    intro s hs d
    have := cf_rg h hs d
    omega
  have h00 := h0 0 (by decide) 0
  have h01 := h0 0 (by decide) 1
  have h10 := h0 1 (by decide) 0
  have h11 := h0 1 (by decide) 1
  have h20 := h0 2 (by decide) 0
  have h21 := h0 2 (by decide) 1
  have h30 := h0 3 (by decide) 0
  have h31 := h0 3 (by decide) 1
  simp only [cutL, sm_s, sm_0]
  omega
set_option maxHeartbeats 4000000 in
set_option maxRecDepth 20000 in
theorem sp_X6_weigh_24 {g : Nat} {w : wd} (hz : LzO w 46) (hg : w 23 5 = (g : Int)) (hg3 : g ≤ 3) (hc0 : w 23 6 = 0 ∨ w 23 6 = 1) (hf : rg (w 23 8)) : CalV yX6_weigh cX6_weigh 4 4 LAY w [vR 23, vR 24] (fun w' => w' = weiW w 46 g (if w 23 6 = 0 then cutL w 46 else 0)) := by
  have hcl := cutL_rg hz
  refine calV_intro (ls := [some (vR 23), some (vR 24), none, none]) (by decide) (Nat.le_of_ble_eq_true rfl) rfl (fun κ ad X hR => ?_)
  have C_15 : ∀ c : Int, (0 ≤ c ∧ c ≤ 600) → c = (if w 23 6 = 0 then cutL w 46 else 0) → J κ LAY ad 0 0 15 [some (vR 23), some (vR 24), none, none] [vI c] w := by
    intro c hcr hce
    rw [← hce] at hR
    refine s_2 X dX6_weigh_15 rfl ?_
    refine j_iload_n X dX6_weigh_16 rfl ?_
    refine j_if_le (tgt := 74) X dX6_weigh_17 (by decide) ⟨by omega, by omega⟩ (fun h_17 => ?_) (fun h_17 => ?_)
    · refine j_aload_n X dX6_weigh_74 rfl ?_
      refine j_dup X dX6_weigh_75 (fun _ h => by cases h) ?_
      refine j_getI X dX6_weigh_76 ff_X6_42 rfl rfl ?_
      refine j_iload_n X dX6_weigh_79 rfl ?_
      refine j_iadd X dX6_weigh_80 ?_
      refine j_putI X dX6_weigh_81 fp_X6_42 rfl rfl ?_
      exact j_return X hR dX6_weigh_84 (by unfold weiW; rw [if_neg (by omega)])
    · refine j_aload_n X dX6_weigh_20 rfl ?_
      refine j_getI X dX6_weigh_21 ff_X6_42 rfl rfl ?_
      refine j_if_ne (tgt := 74) X dX6_weigh_24 (by decide) ⟨by omega, by omega⟩ (fun h_24 => ?_) (fun h_24 => ?_)
      · refine j_aload_n X dX6_weigh_74 rfl ?_
        refine j_dup X dX6_weigh_75 (fun _ h => by cases h) ?_
        refine j_getI X dX6_weigh_76 ff_X6_42 rfl rfl ?_
        refine j_iload_n X dX6_weigh_79 rfl ?_
        refine j_iadd X dX6_weigh_80 ?_
        refine j_putI X dX6_weigh_81 fp_X6_42 rfl rfl ?_
        exact j_return X hR dX6_weigh_84 (by unfold weiW; rw [if_neg (by omega)])
      · refine j_iconst X dX6_weigh_27 ?_
        refine s_3 X dX6_weigh_28 rfl ?_
        have L_29 : ∀ (m : Nat) (i : Nat) (_ : i ≤ g) (_ : g - i < m), J κ LAY ad 0 0 29 [some (vR 23), some (vR 24), some (vI c), some (vI (i : Int))] [] (cpy w i) := by
          intro m
          induction m with
          | zero => intro i h1 h2; exact absurd h2 (Nat.not_lt_zero _)
          | succ m ih29 =>
            intro i h1 h2
            have hgi : cpy w i 23 5 = (g : Int) := hg
            refine j_iload_n X dX6_weigh_29 rfl ?_
            refine j_aload_n X dX6_weigh_30 rfl ?_
            refine j_getI X dX6_weigh_31 ff_X6_66 rfl rfl ?_
            refine j_icmp_ge (tgt := 59) X dX6_weigh_34 (by decide) ⟨by omega, by omega⟩ ⟨by omega, by omega⟩ (fun h_34 => ?_) (fun h_34 => ?_)
            · refine j_aload_n X dX6_weigh_59 rfl ?_
              refine j_getR X dX6_weigh_60 ff_X6_24 rfl rfl ?_
              refine j_aload_n X dX6_weigh_63 rfl ?_
              refine j_getI X dX6_weigh_64 ff_X6_66 rfl rfl ?_
              refine j_aload_n X dX6_weigh_67 rfl ?_
              rw [show i = g by omega]
              refine cV0i X mf_X2_firstCut mv_X2_firstCut ml_X6_123 (by decide) rfl rfl (Nat.le_of_ble_eq_true rfl) dX6_weigh_68 (sp_X2_firstCut_24 (w := cpy w g) (fun r hr => by rw [cpy_o (show (46 : Nat) + 4 ≠ 53 by decide), cpy_o (show (46 : Nat) + 5 ≠ 53 by decide)]; exact hz r hr)) (fun a_68 w_68 h_68 => ?_)
              obtain ⟨_, _⟩ := h_68
              subst a_68
              subst w_68
              rw [show cpy w g 23 5 = (g : Int) from hg]
              rw [tcP_c (w := w) (u := cpy w g) (a := 46) (cpy_o (by decide)) (cpy_o (by decide))]
              refine cS3v X mf_X5_put ms_X5_put ml_X6_112 (by decide) (Nat.le_of_ble_eq_true rfl) dX6_weigh_71 (sp_putk (k := g) rfl (by decide) (by omega)) (fun w_71 h_71 => ?_)
              change _ = _ at h_71
              subst w_71
              refine j_aload_n X dX6_weigh_74 rfl ?_
              refine j_dup X dX6_weigh_75 (fun _ h => by cases h) ?_
              refine j_getI X dX6_weigh_76 ff_X6_42 rfl rfl ?_
              refine j_iload_n X dX6_weigh_79 rfl ?_
              refine j_iadd X dX6_weigh_80 ?_
              refine j_putI X dX6_weigh_81 fp_X6_42 rfl rfl ?_
              exact j_return X hR dX6_weigh_84 (by unfold weiW; rw [if_pos (by omega)]; rfl)
            · refine j_aload_n X dX6_weigh_37 rfl ?_
              refine j_getR X dX6_weigh_38 ff_X6_24 rfl rfl ?_
              refine j_iload_n X dX6_weigh_41 rfl ?_
              refine j_aload_n X dX6_weigh_42 rfl ?_
              refine j_getR X dX6_weigh_43 ff_X6_20 rfl rfl ?_
              refine j_iload_n X dX6_weigh_46 rfl ?_
              refine cS2i X mf_X5_get ms_X5_get ml_X6_60 (by decide) (Nat.le_of_ble_eq_true rfl) dX6_weigh_47 (sp_getk (k := i) rfl (by decide) (by omega)) (fun a_47 w_47 h_47 => ?_)
              obtain ⟨_, _⟩ := h_47
              subst a_47
              subst w_47
              refine cS3v X mf_X5_put ms_X5_put ml_X6_112 (by decide) (Nat.le_of_ble_eq_true rfl) dX6_weigh_50 (sp_putk (k := i) rfl (by decide) (by omega)) (fun w_50 h_50 => ?_)
              change _ = _ at h_50
              subst w_50
              refine inc_3 X dX6_weigh_53 rfl ?_
              refine j_goto (tgt := 29) X dX6_weigh_56 (by decide) ?_
              rw [show cpy w i 52 i = w 52 i from rfl, cpy_s]
              exact ih29 (i + 1) (by omega) (by omega)
        have h0 := L_29 (g + 1) 0 (by omega) (by omega)
        rw [cpy_0] at h0
        exact h0
  refine j_aload_n X dX6_weigh_0 rfl ?_
  refine j_getI X dX6_weigh_1 ff_X6_69 rfl rfl ?_
  refine j_if_eq (tgt := 11) X dX6_weigh_4 (by decide) ⟨by omega, by omega⟩ (fun h_4 => ?_) (fun h_4 => ?_)
  · refine j_aload_n X dX6_weigh_11 rfl ?_
    refine cV0i X mf_X2_cuts mv_X2_cuts ml_X6_120 (by decide) rfl rfl (Nat.le_of_ble_eq_true rfl) dX6_weigh_12 (sp_X2_cuts_24 hz) (fun a_12 w_12 h_12 => ?_)
    obtain ⟨h9, h10⟩ := h_12
    change a_12 = cutL w 46 at h9
    subst a_12
    subst w_12
    exact C_15 _ hcl (if_pos (by omega)).symm
  · refine j_iconst X dX6_weigh_7 ?_
    refine j_goto (tgt := 15) X dX6_weigh_8 (by decide) ?_
    exact C_15 _ ⟨Int.le_refl _, by decide⟩ (if_neg (by omega)).symm
set_option maxHeartbeats 4000000 in
set_option maxRecDepth 20000 in
theorem sp_X6_weigh_25 {g : Nat} {w : wd} (hz : LzO w 40) (hg : w 23 5 = (g : Int)) (hg3 : g ≤ 3) (hc0 : w 23 6 = 0 ∨ w 23 6 = 1) (hf : rg (w 23 8)) : CalV yX6_weigh cX6_weigh 4 4 LAY w [vR 23, vR 25] (fun w' => w' = weiW w 40 g (if w 23 6 = 0 then cutL w 40 else 0)) := by
  have hcl := cutL_rg hz
  refine calV_intro (ls := [some (vR 23), some (vR 25), none, none]) (by decide) (Nat.le_of_ble_eq_true rfl) rfl (fun κ ad X hR => ?_)
  have C_15 : ∀ c : Int, (0 ≤ c ∧ c ≤ 600) → c = (if w 23 6 = 0 then cutL w 40 else 0) → J κ LAY ad 0 0 15 [some (vR 23), some (vR 25), none, none] [vI c] w := by
    intro c hcr hce
    rw [← hce] at hR
    refine s_2 X dX6_weigh_15 rfl ?_
    refine j_iload_n X dX6_weigh_16 rfl ?_
    refine j_if_le (tgt := 74) X dX6_weigh_17 (by decide) ⟨by omega, by omega⟩ (fun h_17 => ?_) (fun h_17 => ?_)
    · refine j_aload_n X dX6_weigh_74 rfl ?_
      refine j_dup X dX6_weigh_75 (fun _ h => by cases h) ?_
      refine j_getI X dX6_weigh_76 ff_X6_42 rfl rfl ?_
      refine j_iload_n X dX6_weigh_79 rfl ?_
      refine j_iadd X dX6_weigh_80 ?_
      refine j_putI X dX6_weigh_81 fp_X6_42 rfl rfl ?_
      exact j_return X hR dX6_weigh_84 (by unfold weiW; rw [if_neg (by omega)])
    · refine j_aload_n X dX6_weigh_20 rfl ?_
      refine j_getI X dX6_weigh_21 ff_X6_42 rfl rfl ?_
      refine j_if_ne (tgt := 74) X dX6_weigh_24 (by decide) ⟨by omega, by omega⟩ (fun h_24 => ?_) (fun h_24 => ?_)
      · refine j_aload_n X dX6_weigh_74 rfl ?_
        refine j_dup X dX6_weigh_75 (fun _ h => by cases h) ?_
        refine j_getI X dX6_weigh_76 ff_X6_42 rfl rfl ?_
        refine j_iload_n X dX6_weigh_79 rfl ?_
        refine j_iadd X dX6_weigh_80 ?_
        refine j_putI X dX6_weigh_81 fp_X6_42 rfl rfl ?_
        exact j_return X hR dX6_weigh_84 (by unfold weiW; rw [if_neg (by omega)])
      · refine j_iconst X dX6_weigh_27 ?_
        refine s_3 X dX6_weigh_28 rfl ?_
        have L_29 : ∀ (m : Nat) (i : Nat) (_ : i ≤ g) (_ : g - i < m), J κ LAY ad 0 0 29 [some (vR 23), some (vR 25), some (vI c), some (vI (i : Int))] [] (cpy w i) := by
          intro m
          induction m with
          | zero => intro i h1 h2; exact absurd h2 (Nat.not_lt_zero _)
          | succ m ih29 =>
            intro i h1 h2
            have hgi : cpy w i 23 5 = (g : Int) := hg
            refine j_iload_n X dX6_weigh_29 rfl ?_
            refine j_aload_n X dX6_weigh_30 rfl ?_
            refine j_getI X dX6_weigh_31 ff_X6_66 rfl rfl ?_
            refine j_icmp_ge (tgt := 59) X dX6_weigh_34 (by decide) ⟨by omega, by omega⟩ ⟨by omega, by omega⟩ (fun h_34 => ?_) (fun h_34 => ?_)
            · refine j_aload_n X dX6_weigh_59 rfl ?_
              refine j_getR X dX6_weigh_60 ff_X6_24 rfl rfl ?_
              refine j_aload_n X dX6_weigh_63 rfl ?_
              refine j_getI X dX6_weigh_64 ff_X6_66 rfl rfl ?_
              refine j_aload_n X dX6_weigh_67 rfl ?_
              rw [show i = g by omega]
              refine cV0i X mf_X2_firstCut mv_X2_firstCut ml_X6_123 (by decide) rfl rfl (Nat.le_of_ble_eq_true rfl) dX6_weigh_68 (sp_X2_firstCut_25 (w := cpy w g) (fun r hr => by rw [cpy_o (show (40 : Nat) + 4 ≠ 53 by decide), cpy_o (show (40 : Nat) + 5 ≠ 53 by decide)]; exact hz r hr)) (fun a_68 w_68 h_68 => ?_)
              obtain ⟨_, _⟩ := h_68
              subst a_68
              subst w_68
              rw [show cpy w g 23 5 = (g : Int) from hg]
              rw [tcP_c (w := w) (u := cpy w g) (a := 40) (cpy_o (by decide)) (cpy_o (by decide))]
              refine cS3v X mf_X5_put ms_X5_put ml_X6_112 (by decide) (Nat.le_of_ble_eq_true rfl) dX6_weigh_71 (sp_putk (k := g) rfl (by decide) (by omega)) (fun w_71 h_71 => ?_)
              change _ = _ at h_71
              subst w_71
              refine j_aload_n X dX6_weigh_74 rfl ?_
              refine j_dup X dX6_weigh_75 (fun _ h => by cases h) ?_
              refine j_getI X dX6_weigh_76 ff_X6_42 rfl rfl ?_
              refine j_iload_n X dX6_weigh_79 rfl ?_
              refine j_iadd X dX6_weigh_80 ?_
              refine j_putI X dX6_weigh_81 fp_X6_42 rfl rfl ?_
              exact j_return X hR dX6_weigh_84 (by unfold weiW; rw [if_pos (by omega)]; rfl)
            · refine j_aload_n X dX6_weigh_37 rfl ?_
              refine j_getR X dX6_weigh_38 ff_X6_24 rfl rfl ?_
              refine j_iload_n X dX6_weigh_41 rfl ?_
              refine j_aload_n X dX6_weigh_42 rfl ?_
              refine j_getR X dX6_weigh_43 ff_X6_20 rfl rfl ?_
              refine j_iload_n X dX6_weigh_46 rfl ?_
              refine cS2i X mf_X5_get ms_X5_get ml_X6_60 (by decide) (Nat.le_of_ble_eq_true rfl) dX6_weigh_47 (sp_getk (k := i) rfl (by decide) (by omega)) (fun a_47 w_47 h_47 => ?_)
              obtain ⟨_, _⟩ := h_47
              subst a_47
              subst w_47
              refine cS3v X mf_X5_put ms_X5_put ml_X6_112 (by decide) (Nat.le_of_ble_eq_true rfl) dX6_weigh_50 (sp_putk (k := i) rfl (by decide) (by omega)) (fun w_50 h_50 => ?_)
              change _ = _ at h_50
              subst w_50
              refine inc_3 X dX6_weigh_53 rfl ?_
              refine j_goto (tgt := 29) X dX6_weigh_56 (by decide) ?_
              rw [show cpy w i 52 i = w 52 i from rfl, cpy_s]
              exact ih29 (i + 1) (by omega) (by omega)
        have h0 := L_29 (g + 1) 0 (by omega) (by omega)
        rw [cpy_0] at h0
        exact h0
  refine j_aload_n X dX6_weigh_0 rfl ?_
  refine j_getI X dX6_weigh_1 ff_X6_69 rfl rfl ?_
  refine j_if_eq (tgt := 11) X dX6_weigh_4 (by decide) ⟨by omega, by omega⟩ (fun h_4 => ?_) (fun h_4 => ?_)
  · refine j_aload_n X dX6_weigh_11 rfl ?_
    refine cV0i X mf_X2_cuts mv_X2_cuts ml_X6_120 (by decide) rfl rfl (Nat.le_of_ble_eq_true rfl) dX6_weigh_12 (sp_X2_cuts_25 hz) (fun a_12 w_12 h_12 => ?_)
    obtain ⟨h9, h10⟩ := h_12
    change a_12 = cutL w 40 at h9
    subst a_12
    subst w_12
    exact C_15 _ hcl (if_pos (by omega)).symm
  · refine j_iconst X dX6_weigh_7 ?_
    refine j_goto (tgt := 15) X dX6_weigh_8 (by decide) ?_
    exact C_15 _ ⟨Int.le_refl _, by decide⟩ (if_neg (by omega)).symm
set_option maxHeartbeats 4000000 in
set_option maxRecDepth 20000 in
theorem sp_X6_weigh_26 {g : Nat} {w : wd} (hz : LzO w 34) (hg : w 23 5 = (g : Int)) (hg3 : g ≤ 3) (hc0 : w 23 6 = 0 ∨ w 23 6 = 1) (hf : rg (w 23 8)) : CalV yX6_weigh cX6_weigh 4 4 LAY w [vR 23, vR 26] (fun w' => w' = weiW w 34 g (if w 23 6 = 0 then cutL w 34 else 0)) := by
  have hcl := cutL_rg hz
  refine calV_intro (ls := [some (vR 23), some (vR 26), none, none]) (by decide) (Nat.le_of_ble_eq_true rfl) rfl (fun κ ad X hR => ?_)
  have C_15 : ∀ c : Int, (0 ≤ c ∧ c ≤ 600) → c = (if w 23 6 = 0 then cutL w 34 else 0) → J κ LAY ad 0 0 15 [some (vR 23), some (vR 26), none, none] [vI c] w := by
    intro c hcr hce
    rw [← hce] at hR
    refine s_2 X dX6_weigh_15 rfl ?_
    refine j_iload_n X dX6_weigh_16 rfl ?_
    refine j_if_le (tgt := 74) X dX6_weigh_17 (by decide) ⟨by omega, by omega⟩ (fun h_17 => ?_) (fun h_17 => ?_)
    · refine j_aload_n X dX6_weigh_74 rfl ?_
      refine j_dup X dX6_weigh_75 (fun _ h => by cases h) ?_
      refine j_getI X dX6_weigh_76 ff_X6_42 rfl rfl ?_
      refine j_iload_n X dX6_weigh_79 rfl ?_
      refine j_iadd X dX6_weigh_80 ?_
      refine j_putI X dX6_weigh_81 fp_X6_42 rfl rfl ?_
      exact j_return X hR dX6_weigh_84 (by unfold weiW; rw [if_neg (by omega)])
    · refine j_aload_n X dX6_weigh_20 rfl ?_
      refine j_getI X dX6_weigh_21 ff_X6_42 rfl rfl ?_
      refine j_if_ne (tgt := 74) X dX6_weigh_24 (by decide) ⟨by omega, by omega⟩ (fun h_24 => ?_) (fun h_24 => ?_)
      · refine j_aload_n X dX6_weigh_74 rfl ?_
        refine j_dup X dX6_weigh_75 (fun _ h => by cases h) ?_
        refine j_getI X dX6_weigh_76 ff_X6_42 rfl rfl ?_
        refine j_iload_n X dX6_weigh_79 rfl ?_
        refine j_iadd X dX6_weigh_80 ?_
        refine j_putI X dX6_weigh_81 fp_X6_42 rfl rfl ?_
        exact j_return X hR dX6_weigh_84 (by unfold weiW; rw [if_neg (by omega)])
      · refine j_iconst X dX6_weigh_27 ?_
        refine s_3 X dX6_weigh_28 rfl ?_
        have L_29 : ∀ (m : Nat) (i : Nat) (_ : i ≤ g) (_ : g - i < m), J κ LAY ad 0 0 29 [some (vR 23), some (vR 26), some (vI c), some (vI (i : Int))] [] (cpy w i) := by
          intro m
          induction m with
          | zero => intro i h1 h2; exact absurd h2 (Nat.not_lt_zero _)
          | succ m ih29 =>
            intro i h1 h2
            have hgi : cpy w i 23 5 = (g : Int) := hg
            refine j_iload_n X dX6_weigh_29 rfl ?_
            refine j_aload_n X dX6_weigh_30 rfl ?_
            refine j_getI X dX6_weigh_31 ff_X6_66 rfl rfl ?_
            refine j_icmp_ge (tgt := 59) X dX6_weigh_34 (by decide) ⟨by omega, by omega⟩ ⟨by omega, by omega⟩ (fun h_34 => ?_) (fun h_34 => ?_)
            · refine j_aload_n X dX6_weigh_59 rfl ?_
              refine j_getR X dX6_weigh_60 ff_X6_24 rfl rfl ?_
              refine j_aload_n X dX6_weigh_63 rfl ?_
              refine j_getI X dX6_weigh_64 ff_X6_66 rfl rfl ?_
              refine j_aload_n X dX6_weigh_67 rfl ?_
              rw [show i = g by omega]
              refine cV0i X mf_X2_firstCut mv_X2_firstCut ml_X6_123 (by decide) rfl rfl (Nat.le_of_ble_eq_true rfl) dX6_weigh_68 (sp_X2_firstCut_26 (w := cpy w g) (fun r hr => by rw [cpy_o (show (34 : Nat) + 4 ≠ 53 by decide), cpy_o (show (34 : Nat) + 5 ≠ 53 by decide)]; exact hz r hr)) (fun a_68 w_68 h_68 => ?_)
              obtain ⟨_, _⟩ := h_68
              subst a_68
              subst w_68
              rw [show cpy w g 23 5 = (g : Int) from hg]
              rw [tcP_c (w := w) (u := cpy w g) (a := 34) (cpy_o (by decide)) (cpy_o (by decide))]
              refine cS3v X mf_X5_put ms_X5_put ml_X6_112 (by decide) (Nat.le_of_ble_eq_true rfl) dX6_weigh_71 (sp_putk (k := g) rfl (by decide) (by omega)) (fun w_71 h_71 => ?_)
              change _ = _ at h_71
              subst w_71
              refine j_aload_n X dX6_weigh_74 rfl ?_
              refine j_dup X dX6_weigh_75 (fun _ h => by cases h) ?_
              refine j_getI X dX6_weigh_76 ff_X6_42 rfl rfl ?_
              refine j_iload_n X dX6_weigh_79 rfl ?_
              refine j_iadd X dX6_weigh_80 ?_
              refine j_putI X dX6_weigh_81 fp_X6_42 rfl rfl ?_
              exact j_return X hR dX6_weigh_84 (by unfold weiW; rw [if_pos (by omega)]; rfl)
            · refine j_aload_n X dX6_weigh_37 rfl ?_
              refine j_getR X dX6_weigh_38 ff_X6_24 rfl rfl ?_
              refine j_iload_n X dX6_weigh_41 rfl ?_
              refine j_aload_n X dX6_weigh_42 rfl ?_
              refine j_getR X dX6_weigh_43 ff_X6_20 rfl rfl ?_
              refine j_iload_n X dX6_weigh_46 rfl ?_
              refine cS2i X mf_X5_get ms_X5_get ml_X6_60 (by decide) (Nat.le_of_ble_eq_true rfl) dX6_weigh_47 (sp_getk (k := i) rfl (by decide) (by omega)) (fun a_47 w_47 h_47 => ?_)
              obtain ⟨_, _⟩ := h_47
              subst a_47
              subst w_47
              refine cS3v X mf_X5_put ms_X5_put ml_X6_112 (by decide) (Nat.le_of_ble_eq_true rfl) dX6_weigh_50 (sp_putk (k := i) rfl (by decide) (by omega)) (fun w_50 h_50 => ?_)
              change _ = _ at h_50
              subst w_50
              refine inc_3 X dX6_weigh_53 rfl ?_
              refine j_goto (tgt := 29) X dX6_weigh_56 (by decide) ?_
              rw [show cpy w i 52 i = w 52 i from rfl, cpy_s]
              exact ih29 (i + 1) (by omega) (by omega)
        have h0 := L_29 (g + 1) 0 (by omega) (by omega)
        rw [cpy_0] at h0
        exact h0
  refine j_aload_n X dX6_weigh_0 rfl ?_
  refine j_getI X dX6_weigh_1 ff_X6_69 rfl rfl ?_
  refine j_if_eq (tgt := 11) X dX6_weigh_4 (by decide) ⟨by omega, by omega⟩ (fun h_4 => ?_) (fun h_4 => ?_)
  · refine j_aload_n X dX6_weigh_11 rfl ?_
    refine cV0i X mf_X2_cuts mv_X2_cuts ml_X6_120 (by decide) rfl rfl (Nat.le_of_ble_eq_true rfl) dX6_weigh_12 (sp_X2_cuts_26 hz) (fun a_12 w_12 h_12 => ?_)
    obtain ⟨h9, h10⟩ := h_12
    change a_12 = cutL w 34 at h9
    subst a_12
    subst w_12
    exact C_15 _ hcl (if_pos (by omega)).symm
  · refine j_iconst X dX6_weigh_7 ?_
    refine j_goto (tgt := 15) X dX6_weigh_8 (by decide) ?_
    exact C_15 _ ⟨Int.le_refl _, by decide⟩ (if_neg (by omega)).symm
set_option maxHeartbeats 4000000 in
set_option maxRecDepth 20000 in
theorem sp_X6_weigh_27 {g : Nat} {w : wd} (hz : LzO w 28) (hg : w 23 5 = (g : Int)) (hg3 : g ≤ 3) (hc0 : w 23 6 = 0 ∨ w 23 6 = 1) (hf : rg (w 23 8)) : CalV yX6_weigh cX6_weigh 4 4 LAY w [vR 23, vR 27] (fun w' => w' = weiW w 28 g (if w 23 6 = 0 then cutL w 28 else 0)) := by
  have hcl := cutL_rg hz
  refine calV_intro (ls := [some (vR 23), some (vR 27), none, none]) (by decide) (Nat.le_of_ble_eq_true rfl) rfl (fun κ ad X hR => ?_)
  have C_15 : ∀ c : Int, (0 ≤ c ∧ c ≤ 600) → c = (if w 23 6 = 0 then cutL w 28 else 0) → J κ LAY ad 0 0 15 [some (vR 23), some (vR 27), none, none] [vI c] w := by
    intro c hcr hce
    rw [← hce] at hR
    refine s_2 X dX6_weigh_15 rfl ?_
    refine j_iload_n X dX6_weigh_16 rfl ?_
    refine j_if_le (tgt := 74) X dX6_weigh_17 (by decide) ⟨by omega, by omega⟩ (fun h_17 => ?_) (fun h_17 => ?_)
    · refine j_aload_n X dX6_weigh_74 rfl ?_
      refine j_dup X dX6_weigh_75 (fun _ h => by cases h) ?_
      refine j_getI X dX6_weigh_76 ff_X6_42 rfl rfl ?_
      refine j_iload_n X dX6_weigh_79 rfl ?_
      refine j_iadd X dX6_weigh_80 ?_
      refine j_putI X dX6_weigh_81 fp_X6_42 rfl rfl ?_
      exact j_return X hR dX6_weigh_84 (by unfold weiW; rw [if_neg (by omega)])
    · refine j_aload_n X dX6_weigh_20 rfl ?_
      refine j_getI X dX6_weigh_21 ff_X6_42 rfl rfl ?_
      refine j_if_ne (tgt := 74) X dX6_weigh_24 (by decide) ⟨by omega, by omega⟩ (fun h_24 => ?_) (fun h_24 => ?_)
      · refine j_aload_n X dX6_weigh_74 rfl ?_
        refine j_dup X dX6_weigh_75 (fun _ h => by cases h) ?_
        refine j_getI X dX6_weigh_76 ff_X6_42 rfl rfl ?_
        refine j_iload_n X dX6_weigh_79 rfl ?_
        refine j_iadd X dX6_weigh_80 ?_
        refine j_putI X dX6_weigh_81 fp_X6_42 rfl rfl ?_
        exact j_return X hR dX6_weigh_84 (by unfold weiW; rw [if_neg (by omega)])
      · refine j_iconst X dX6_weigh_27 ?_
        refine s_3 X dX6_weigh_28 rfl ?_
        have L_29 : ∀ (m : Nat) (i : Nat) (_ : i ≤ g) (_ : g - i < m), J κ LAY ad 0 0 29 [some (vR 23), some (vR 27), some (vI c), some (vI (i : Int))] [] (cpy w i) := by
          intro m
          induction m with
          | zero => intro i h1 h2; exact absurd h2 (Nat.not_lt_zero _)
          | succ m ih29 =>
            intro i h1 h2
            have hgi : cpy w i 23 5 = (g : Int) := hg
            refine j_iload_n X dX6_weigh_29 rfl ?_
            refine j_aload_n X dX6_weigh_30 rfl ?_
            refine j_getI X dX6_weigh_31 ff_X6_66 rfl rfl ?_
            refine j_icmp_ge (tgt := 59) X dX6_weigh_34 (by decide) ⟨by omega, by omega⟩ ⟨by omega, by omega⟩ (fun h_34 => ?_) (fun h_34 => ?_)
            · refine j_aload_n X dX6_weigh_59 rfl ?_
              refine j_getR X dX6_weigh_60 ff_X6_24 rfl rfl ?_
              refine j_aload_n X dX6_weigh_63 rfl ?_
              refine j_getI X dX6_weigh_64 ff_X6_66 rfl rfl ?_
              refine j_aload_n X dX6_weigh_67 rfl ?_
              rw [show i = g by omega]
              refine cV0i X mf_X2_firstCut mv_X2_firstCut ml_X6_123 (by decide) rfl rfl (Nat.le_of_ble_eq_true rfl) dX6_weigh_68 (sp_X2_firstCut_27 (w := cpy w g) (fun r hr => by rw [cpy_o (show (28 : Nat) + 4 ≠ 53 by decide), cpy_o (show (28 : Nat) + 5 ≠ 53 by decide)]; exact hz r hr)) (fun a_68 w_68 h_68 => ?_)
              obtain ⟨_, _⟩ := h_68
              subst a_68
              subst w_68
              rw [show cpy w g 23 5 = (g : Int) from hg]
              rw [tcP_c (w := w) (u := cpy w g) (a := 28) (cpy_o (by decide)) (cpy_o (by decide))]
              refine cS3v X mf_X5_put ms_X5_put ml_X6_112 (by decide) (Nat.le_of_ble_eq_true rfl) dX6_weigh_71 (sp_putk (k := g) rfl (by decide) (by omega)) (fun w_71 h_71 => ?_)
              change _ = _ at h_71
              subst w_71
              refine j_aload_n X dX6_weigh_74 rfl ?_
              refine j_dup X dX6_weigh_75 (fun _ h => by cases h) ?_
              refine j_getI X dX6_weigh_76 ff_X6_42 rfl rfl ?_
              refine j_iload_n X dX6_weigh_79 rfl ?_
              refine j_iadd X dX6_weigh_80 ?_
              refine j_putI X dX6_weigh_81 fp_X6_42 rfl rfl ?_
              exact j_return X hR dX6_weigh_84 (by unfold weiW; rw [if_pos (by omega)]; rfl)
            · refine j_aload_n X dX6_weigh_37 rfl ?_
              refine j_getR X dX6_weigh_38 ff_X6_24 rfl rfl ?_
              refine j_iload_n X dX6_weigh_41 rfl ?_
              refine j_aload_n X dX6_weigh_42 rfl ?_
              refine j_getR X dX6_weigh_43 ff_X6_20 rfl rfl ?_
              refine j_iload_n X dX6_weigh_46 rfl ?_
              refine cS2i X mf_X5_get ms_X5_get ml_X6_60 (by decide) (Nat.le_of_ble_eq_true rfl) dX6_weigh_47 (sp_getk (k := i) rfl (by decide) (by omega)) (fun a_47 w_47 h_47 => ?_)
              obtain ⟨_, _⟩ := h_47
              subst a_47
              subst w_47
              refine cS3v X mf_X5_put ms_X5_put ml_X6_112 (by decide) (Nat.le_of_ble_eq_true rfl) dX6_weigh_50 (sp_putk (k := i) rfl (by decide) (by omega)) (fun w_50 h_50 => ?_)
              change _ = _ at h_50
              subst w_50
              refine inc_3 X dX6_weigh_53 rfl ?_
              refine j_goto (tgt := 29) X dX6_weigh_56 (by decide) ?_
              rw [show cpy w i 52 i = w 52 i from rfl, cpy_s]
              exact ih29 (i + 1) (by omega) (by omega)
        have h0 := L_29 (g + 1) 0 (by omega) (by omega)
        rw [cpy_0] at h0
        exact h0
  refine j_aload_n X dX6_weigh_0 rfl ?_
  refine j_getI X dX6_weigh_1 ff_X6_69 rfl rfl ?_
  refine j_if_eq (tgt := 11) X dX6_weigh_4 (by decide) ⟨by omega, by omega⟩ (fun h_4 => ?_) (fun h_4 => ?_)
  · refine j_aload_n X dX6_weigh_11 rfl ?_
    refine cV0i X mf_X2_cuts mv_X2_cuts ml_X6_120 (by decide) rfl rfl (Nat.le_of_ble_eq_true rfl) dX6_weigh_12 (sp_X2_cuts_27 hz) (fun a_12 w_12 h_12 => ?_)
    obtain ⟨h9, h10⟩ := h_12
    change a_12 = cutL w 28 at h9
    subst a_12
    subst w_12
    exact C_15 _ hcl (if_pos (by omega)).symm
  · refine j_iconst X dX6_weigh_7 ?_
    refine j_goto (tgt := 15) X dX6_weigh_8 (by decide) ?_
    exact C_15 _ ⟨Int.le_refl _, by decide⟩ (if_neg (by omega)).symm
