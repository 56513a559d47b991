/-! ===== a layout: fits, and what is written ===== -/
def widW (w : wd) (a r : Nat) (t : Int) : wd := wst (wst w (a + 4) r (min (w (a + 4) r) t)) (a + 5) r (max (w (a + 5) r) t)
def widP (w : wd) (a kd9 : Nat) (x y q : Int) (m : Nat) : wd := match m with
  | 0 => w
  | s + 1 => widW (widP w a kd9 x y q s) a (4 * kd9 + s) (strip s x y q)
def putA (w : wd) (b a us : Nat) (x y q kd9 : Int) : wd := wst (wst (wst (wst w (a + 3) (spot x y q).toNat kd9) a us x) (a + 1) us y) (a + 2) us q
def putB (w : wd) (b a us : Nat) (sp x y q kd9 : Int) : wd := wst (wst (putA w b a us x y q kd9) b 9 ((us : Int) + 1)) b 8 (sp + if kd9 = w b 7 then 1 else 0)
def putW (w : wd) (b a us : Nat) (sp x y q : Int) (kd9 : Nat) : wd := if w (a + 3) (spot x y q).toNat = 0 then widP (putB w b a us sp x y q kd9) a kd9 x y q 4 else w
def clrP (w : wd) (a m : Nat) : wd := fun o s => if o = a + 3 ∧ s < 1024 ∧ ∃ j, j < m ∧ spot (w a j) (w (a + 1) j) (w (a + 2) j) = (s : Int) then 0 else w o s
def clrW (w : wd) (b a us : Nat) (kd9 : Int) : wd := wst (wst (wst (wfl (wfl (clrP w a us) (a + 4) 12 1000) (a + 5) 12 (-1000)) b 7 kd9) b 8 0) b 9 0
theorem widP_lz {w : wd} {a kd9 : Nat} {x y q : Int} (ha : 5 ≤ a) (h : LzO w a) (hk : kd9 ≤ 2) (hx : -400 ≤ x ∧ x ≤ 400) (hy : -400 ≤ y ∧ y ≤ 400) (hq : 0 ≤ q ∧ q ≤ 3) : ∀ m, m ≤ 4 → LzO (widP w a kd9 x y q m) a
  | 0, _ => h
  | s + 1, hs => by
    have ih := widP_lz ha h hk hx hy hq s (by omega)
    have hst : -900 ≤ strip s x y q ∧ strip s x y q ≤ 900 := by unfold strip; (repeat' split) <;> omega
    intro r hr
    have h1 := ih r hr
    have e4 : widP w a kd9 x y q (s + 1) (a + 4) r = if r = 4 * kd9 + s then min (widP w a kd9 x y q s (a + 4) r) (strip s x y q) else widP w a kd9 x y q s (a + 4) r := by
      by_cases z : r = 4 * kd9 + s
      · subst z; simp [widP, widW, wst, w1]
      · simp [widP, widW, wst, w1, z]
    have e5 : widP w a kd9 x y q (s + 1) (a + 5) r = if r = 4 * kd9 + s then max (widP w a kd9 x y q s (a + 5) r) (strip s x y q) else widP w a kd9 x y q s (a + 5) r := by
      by_cases z : r = 4 * kd9 + s
      · subst z; simp [widP, widW, wst, w1]
      · simp [widP, widW, wst, w1, z]
    rw [e4, e5]
    split <;> omega
theorem widP_o {w : wd} {a kd9 o : Nat} {x y q : Int} (h4 : o ≠ a + 4) (h5 : o ≠ a + 5) : ∀ m, widP w a kd9 x y q m o = w o
  | 0 => rfl
  | s + 1 => by
    have ih := widP_o (w := w) (kd9 := kd9) (x := x) (y := y) (q := q) h4 h5 s
    funext i
    simp only [widP, widW, wst, h4, h5, if_false]
    rw [ih]
theorem clrP_0 (w : wd) (a : Nat) : clrP w a 0 = w := by
  funext o s
  simp [clrP]
theorem clrP_s {w : wd} {a m s : Nat} (hs : spot (w a m) (w (a + 1) m) (w (a + 2) m) = (s : Int)) (h : s < 1024) : wst (clrP w a m) (a + 3) s 0 = clrP w a (m + 1) := by
  funext o i
  by_cases ho : o = a + 3
  · subst ho
    by_cases hi : i = s
    · subst hi
      have : ∃ j, j < m + 1 ∧ spot (w a j) (w (a + 1) j) (w (a + 2) j) = (i : Int) := ⟨m, by omega, hs⟩
      simp [wst, w1, clrP, h, this]
    · have e : (∃ j, j < m + 1 ∧ spot (w a j) (w (a + 1) j) (w (a + 2) j) = (i : Int)) ↔ (∃ j, j < m ∧ spot (w a j) (w (a + 1) j) (w (a + 2) j) = (i : Int)) := by
        constructor
        · rintro ⟨j, h1, h2⟩
          by_cases z : j = m
          · subst z; rw [hs] at h2; omega
          · exact ⟨j, by omega, h2⟩
        · rintro ⟨j, h1, h2⟩
          exact ⟨j, by omega, h2⟩
      simp [wst, w1, clrP, hi, e]
  · simp [wst, clrP, ho]
set_option maxHeartbeats 4000000 in
set_option maxRecDepth 20000 in
theorem sp_X2_fits_24 {sp us : Nat} {sort l : Int} {w : wd} (hu : w 24 9 = (us : Int)) (hsp : w 24 8 = (sp : Int)) (hle : sp ≤ us) (hus : us ≤ 144) (hfk : w 24 7 = 1 ∨ w 24 7 = 2) (hK : ∀ s, s < 1024 → 0 ≤ w 49 s ∧ w 49 s ≤ 2) (hsr : rg sort) : CalI yX2_fits cX2_fits 10 .boolean 2 LAY w [vR 24, vI sort, vI l] (fun r w' => r = ib (fitL w 24 46 sp us sort l) ∧ w' = w) := by
  have hkr : ∀ i, 0 ≤ mspL w 46 sort l i ∧ mspL w 46 sort l i < 1024 := fun i => spot_lt _ _ _
  have hskr : 1 ≤ skF w 24 ∧ skF w 24 ≤ 2 := by unfold skF; split <;> omega
  refine calI_intro (ls := [some (vR 24), some (vI sort), some (vI l), none, none, none, none, none, none, none]) (by decide) (Nat.le_of_ble_eq_true rfl) rfl (fun κ ad X hR => ?_)
  have C_67 : ∀ (m : Nat) (v un : Int) (lo hi i : Nat), hi ≤ us → (1 ≤ un ∧ un ≤ 2) → (lo ≤ i ∧ i ≤ us) → (∀ j, lo ≤ j → j < i → w 49 (mspL w 46 sort l j).toNat ≠ un) → ((∀ j, lo ≤ j → j < hi → w 49 (mspL w 46 sort l j).toNat ≠ un) ↔ fitL w 24 46 sp us sort l) → hi - i < m → J κ LAY ad 0 0 67 [some (vR 24), some (vI sort), some (vI l), some (vI v), some (vI (hi : Int)), some (vI un), some (vI (i : Int)), none, none, none] [] w := by
    intro m
    induction m
    · intro v un lo hi i h1 h2 h3 h4 h5 h6
      exact absurd h6 (Nat.not_lt_zero _)
    rename_i m ih67
    intro v un lo hi i h1 h2 h3 h4 h5 h6
    refine j_iload X dX2_fits_67 rfl ?_
    refine j_iload X dX2_fits_69 rfl ?_
    refine j_icmp_ge (tgt := 168) X dX2_fits_71 (by decide) ⟨by omega, by omega⟩ ⟨by omega, by omega⟩ (fun h_71 => ?_) (fun h_71 => ?_)
    · refine j_iconst X dX2_fits_168 ?_
      exact j_zreturn X hR dX2_fits_169 (by first | exact Or.inl rfl | exact Or.inr rfl | exact ib_01) ⟨(ib_t (h5.mp (fun j q1 q2 => h4 j q1 (by omega)))).symm, rfl⟩
    · have hii : i < us := by omega
      have hmm := hkr i
      have hKK := hK (mspL w 46 sort l i).toNat (by omega)
      refine j_iload_n X dX2_fits_74 rfl ?_
      refine j_iload_n X dX2_fits_75 rfl ?_
      refine j_aload_n X dX2_fits_76 rfl ?_
      refine j_getR X dX2_fits_77 ff_X2_9 rfl rfl ?_
      refine j_iload X dX2_fits_80 rfl ?_
      refine cS2i X mf_X5_get ms_X5_get ml_X2_87 (by decide) (Nat.le_of_ble_eq_true rfl) dX2_fits_82 (sp_getk (k := i) rfl (by decide) (by omega)) (fun a_82 w_82 h_82 => ?_)
      obtain ⟨_, _⟩ := h_82
      subst a_82
      subst w_82
      refine j_aload_n X dX2_fits_85 rfl ?_
      refine j_getR X dX2_fits_86 ff_X2_15 rfl rfl ?_
      refine j_iload X dX2_fits_89 rfl ?_
      refine cS2i X mf_X5_get ms_X5_get ml_X2_87 (by decide) (Nat.le_of_ble_eq_true rfl) dX2_fits_91 (sp_getk (k := i) rfl (by decide) (by omega)) (fun a_91 w_91 h_91 => ?_)
      obtain ⟨_, _⟩ := h_91
      subst a_91
      subst w_91
      refine cS4i X mf_X3_mirrorX ms_X3_mirrorX ml_X2_142 (by decide) (Nat.le_of_ble_eq_true rfl) dX2_fits_94 (sp_X3_mirrorX hsr) (fun a_94 w_94 h_94 => ?_)
      obtain ⟨_, _⟩ := h_94
      subst a_94
      subst w_94
      refine s_7 X dX2_fits_97 rfl ?_
      refine j_iload_n X dX2_fits_99 rfl ?_
      refine j_iload_n X dX2_fits_100 rfl ?_
      refine j_aload_n X dX2_fits_101 rfl ?_
      refine j_getR X dX2_fits_102 ff_X2_9 rfl rfl ?_
      refine j_iload X dX2_fits_105 rfl ?_
      refine cS2i X mf_X5_get ms_X5_get ml_X2_87 (by decide) (Nat.le_of_ble_eq_true rfl) dX2_fits_107 (sp_getk (k := i) rfl (by decide) (by omega)) (fun a_107 w_107 h_107 => ?_)
      obtain ⟨_, _⟩ := h_107
      subst a_107
      subst w_107
      refine j_aload_n X dX2_fits_110 rfl ?_
      refine j_getR X dX2_fits_111 ff_X2_15 rfl rfl ?_
      refine j_iload X dX2_fits_114 rfl ?_
      refine cS2i X mf_X5_get ms_X5_get ml_X2_87 (by decide) (Nat.le_of_ble_eq_true rfl) dX2_fits_116 (sp_getk (k := i) rfl (by decide) (by omega)) (fun a_116 w_116 h_116 => ?_)
      obtain ⟨_, _⟩ := h_116
      subst a_116
      subst w_116
      refine cS4i X mf_X3_mirrorY ms_X3_mirrorY ml_X2_145 (by decide) (Nat.le_of_ble_eq_true rfl) dX2_fits_119 (sp_X3_mirrorY hsr) (fun a_119 w_119 h_119 => ?_)
      obtain ⟨_, _⟩ := h_119
      subst a_119
      subst w_119
      refine s_8 X dX2_fits_122 rfl ?_
      refine j_iload_n X dX2_fits_124 rfl ?_
      refine j_aload_n X dX2_fits_125 rfl ?_
      refine j_getR X dX2_fits_126 ff_X2_18 rfl rfl ?_
      refine j_iload X dX2_fits_129 rfl ?_
      refine cS2i X mf_X5_get ms_X5_get ml_X2_87 (by decide) (Nat.le_of_ble_eq_true rfl) dX2_fits_131 (sp_getk (k := i) rfl (by decide) (by omega)) (fun a_131 w_131 h_131 => ?_)
      obtain ⟨_, _⟩ := h_131
      subst a_131
      subst w_131
      refine cS2i X mf_X3_mirrorQuarter ms_X3_mirrorQuarter ml_X2_148 (by decide) (Nat.le_of_ble_eq_true rfl) dX2_fits_134 (sp_X3_mirrorQuarter hsr) (fun a_134 w_134 h_134 => ?_)
      obtain ⟨_, _⟩ := h_134
      subst a_134
      subst w_134
      refine s_9 X dX2_fits_137 rfl ?_
      refine j_aload_n X dX2_fits_139 rfl ?_
      refine j_getR X dX2_fits_140 ff_X2_23 rfl rfl ?_
      refine j_iload X dX2_fits_143 rfl ?_
      refine j_iload X dX2_fits_145 rfl ?_
      refine j_iload X dX2_fits_147 rfl ?_
      refine cS3i X mf_X3_spot ms_X3_spot ml_X2_93 (by decide) (Nat.le_of_ble_eq_true rfl) dX2_fits_149 (sp_X3_spot) (fun a_149 w_149 h_149 => ?_)
      obtain ⟨_, _⟩ := h_149
      subst a_149
      subst w_149
      refine cS2i X mf_X5_get ms_X5_get ml_X2_87 (by decide) (Nat.le_of_ble_eq_true rfl) dX2_fits_152 (sp_X5_get rfl (by decide) ⟨Int.le_trans (by decide) hmm.1, Int.le_of_lt (Int.lt_of_lt_of_le hmm.2 (by decide))⟩) (fun a_152 w_152 h_152 => ?_)
      obtain ⟨_, _⟩ := h_152
      subst a_152
      subst w_152
      rw [show rget (w 49) 1024 (spot (mirX sort l (w 46 i) (w 47 i)) (mirY sort l (w 46 i) (w 47 i)) (mirQ sort (w 48 i))) = w 49 (mspL w 46 sort l i).toNat by unfold rget; exact if_pos hmm]
      refine j_iload X dX2_fits_155 rfl ?_
      refine j_icmp_ne (tgt := 162) X dX2_fits_157 (by decide) ⟨by omega, by omega⟩ ⟨by omega, by omega⟩ (fun h_157 => ?_) (fun h_157 => ?_)
      · refine inc_6 X dX2_fits_162 rfl ?_
        refine j_goto (tgt := 67) X dX2_fits_165 (by decide) ?_
        refine fg_7 ?_
        refine fg_8 ?_
        refine fg_9 ?_
        exact ih67 v un lo hi (i + 1) h1 h2 (by omega) (fun j q1 q2 => by by_cases z : j = i; rw [z]; exact h_157; exact h4 j q1 (by omega)) h5 (by omega)
      · refine j_iconst X dX2_fits_160 ?_
        exact j_zreturn X hR dX2_fits_161 (by first | exact Or.inl rfl | exact Or.inr rfl | exact ib_01) ⟨(ib_f (fun z => h5.mpr z i h3.1 (by omega) h_157)).symm, rfl⟩
  refine j_iconst X dX2_fits_0 ?_
  refine j_aload_n X dX2_fits_1 rfl ?_
  refine j_getI X dX2_fits_2 ff_X2_107 rfl rfl ?_
  refine j_imul X dX2_fits_5 ?_
  refine j_aload_n X dX2_fits_6 rfl ?_
  refine j_getI X dX2_fits_7 ff_X2_84 rfl rfl ?_
  refine j_icmp_gt (tgt := 17) X dX2_fits_10 (by decide) ⟨by omega, by omega⟩ ⟨by omega, by omega⟩ (fun h_10 => ?_) (fun h_10 => ?_)
  · refine j_iconst X dX2_fits_17 ?_
    refine s_3 X dX2_fits_18 rfl ?_
    refine j_iload_n X dX2_fits_19 rfl ?_
    refine jt_if_eq (tgt := 30) X dX2_fits_20 (by decide) ⟨by omega, by omega⟩ (by first | decide | omega) ?_
    refine j_aload_n X dX2_fits_30 rfl ?_
    refine j_getI X dX2_fits_31 ff_X2_84 rfl rfl ?_
    refine s_4 X dX2_fits_34 rfl ?_
    refine j_iload_n X dX2_fits_36 rfl ?_
    refine jt_if_eq (tgt := 47) X dX2_fits_37 (by decide) ⟨by omega, by omega⟩ (by first | decide | omega) ?_
    refine j_aload_n X dX2_fits_47 rfl ?_
    refine j_getI X dX2_fits_48 ff_X2_104 rfl rfl ?_
    refine s_5 X dX2_fits_51 rfl ?_
    refine j_iload_n X dX2_fits_53 rfl ?_
    refine jt_if_eq (tgt := 61) X dX2_fits_54 (by decide) ⟨by omega, by omega⟩ (by first | decide | omega) ?_
    refine j_aload_n X dX2_fits_61 rfl ?_
    refine j_getI X dX2_fits_62 ff_X2_107 rfl rfl ?_
    refine s_6 X dX2_fits_65 rfl ?_
    rw [hsp, hu]
    exact C_67 (us + 1) _ _ sp us sp (Nat.le_refl _) (by omega) ⟨Nat.le_refl _, hle⟩ (fun j q1 q2 => absurd q2 (by omega)) ⟨fun z => Or.inr ⟨by omega, fun i q1 q2 => z i q2 q1⟩, fun z => by rcases z with z | z; exact absurd z.1 (by omega); exact fun j q1 q2 => z.2 j q2 q1⟩ (by omega)
  · refine j_iconst X dX2_fits_13 ?_
    refine j_goto (tgt := 18) X dX2_fits_14 (by decide) ?_
    refine s_3 X dX2_fits_18 rfl ?_
    refine j_iload_n X dX2_fits_19 rfl ?_
    refine jf_if_eq (tgt := 30) X dX2_fits_20 (by decide) ⟨by omega, by omega⟩ (by first | decide | omega) ?_
    refine j_aload_n X dX2_fits_23 rfl ?_
    refine j_getI X dX2_fits_24 ff_X2_107 rfl rfl ?_
    refine j_goto (tgt := 34) X dX2_fits_27 (by decide) ?_
    refine s_4 X dX2_fits_34 rfl ?_
    refine j_iload_n X dX2_fits_36 rfl ?_
    refine jf_if_eq (tgt := 47) X dX2_fits_37 (by decide) ⟨by omega, by omega⟩ (by first | decide | omega) ?_
    refine j_aload_n X dX2_fits_40 rfl ?_
    refine cV0i X mf_X2_secondKind mv_X2_secondKind ml_X2_138 (by decide) rfl rfl (Nat.le_of_ble_eq_true rfl) dX2_fits_41 (sp_X2_secondKind_24 ⟨by omega, by omega⟩) (fun a_41 w_41 h_41 => ?_)
    obtain ⟨_, _⟩ := h_41
    subst a_41
    subst w_41
    refine j_goto (tgt := 51) X dX2_fits_44 (by decide) ?_
    refine s_5 X dX2_fits_51 rfl ?_
    refine j_iload_n X dX2_fits_53 rfl ?_
    refine jf_if_eq (tgt := 61) X dX2_fits_54 (by decide) ⟨by omega, by omega⟩ (by first | decide | omega) ?_
    refine j_iconst X dX2_fits_57 ?_
    refine j_goto (tgt := 65) X dX2_fits_58 (by decide) ?_
    refine s_6 X dX2_fits_65 rfl ?_
    rw [hsp]
    exact C_67 (us + 1) _ _ 0 sp 0 hle (by omega) ⟨Nat.le_refl _, Nat.zero_le _⟩ (fun j q1 q2 => absurd q2 (by omega)) ⟨fun z => Or.inl ⟨by omega, fun i q1 => z i (Nat.zero_le _) q1⟩, fun z => by rcases z with z | z; exact fun j q1 q2 => z.2 j q2; exact absurd (show 2 * sp ≤ us by omega) z.1⟩ (by omega)
set_option maxHeartbeats 4000000 in
set_option maxRecDepth 20000 in
theorem sp_X2_widen_24 {r : Nat} {t : Int} {w : wd} (hr : r < 12) (hz : LzO w 46) (ht : rg t) : CalV yX2_widen cX2_widen 3 2 LAY w [vR 24, vI (r : Int), vI t] (fun w' => w' = widW w 46 r t) := by
  have h1 := hz r hr
  simp only [show 46 + 4 = 50 from rfl, show 46 + 5 = 51 from rfl] at h1
  refine calV_intro (ls := [some (vR 24), some (vI (r : Int)), some (vI t)]) (by decide) (Nat.le_of_ble_eq_true rfl) rfl (fun κ ad X hR => ?_)
  refine j_aload_n X dX2_widen_0 rfl ?_
  refine j_getR X dX2_widen_1 ff_X2_26 rfl rfl ?_
  refine j_iload_n X dX2_widen_4 rfl ?_
  refine j_aload_n X dX2_widen_5 rfl ?_
  refine j_getR X dX2_widen_6 ff_X2_26 rfl rfl ?_
  refine j_iload_n X dX2_widen_9 rfl ?_
  refine cS2i X mf_X5_get ms_X5_get ml_X2_87 (by decide) (Nat.le_of_ble_eq_true rfl) dX2_widen_10 (sp_getk (k := r) rfl (by decide) hr) (fun a_10 w_10 h_10 => ?_)
  obtain ⟨_, _⟩ := h_10
  subst a_10
  subst w_10
  refine j_iload_n X dX2_widen_13 rfl ?_
  refine j_mmin X csOk_0 mt_X2_124 (by decide) (Nat.le_of_ble_eq_true rfl) dX2_widen_14 ⟨by omega, by omega⟩ ⟨by omega, by omega⟩ ?_
  refine cS3v X mf_X5_put ms_X5_put ml_X2_97 (by decide) (Nat.le_of_ble_eq_true rfl) dX2_widen_17 (sp_putk (k := r) rfl (by decide) hr) (fun w_17 h_17 => ?_)
  change _ = _ at h_17
  subst w_17
  refine j_aload_n X dX2_widen_20 rfl ?_
  refine j_getR X dX2_widen_21 ff_X2_29 rfl rfl ?_
  refine j_iload_n X dX2_widen_24 rfl ?_
  refine j_aload_n X dX2_widen_25 rfl ?_
  refine j_getR X dX2_widen_26 ff_X2_29 rfl rfl ?_
  refine j_iload_n X dX2_widen_29 rfl ?_
  refine cS2i X mf_X5_get ms_X5_get ml_X2_87 (by decide) (Nat.le_of_ble_eq_true rfl) dX2_widen_30 (sp_getk (k := r) rfl (by decide) hr) (fun a_30 w_30 h_30 => ?_)
  obtain ⟨_, _⟩ := h_30
  subst a_30
  subst w_30
  change J κ LAY ad 0 0 _ _ (vI (w 51 r) :: _) _
  refine j_iload_n X dX2_widen_33 rfl ?_
  refine j_mmax X csOk_0 mt_X2_129 (by decide) (Nat.le_of_ble_eq_true rfl) dX2_widen_34 ⟨by omega, by omega⟩ ⟨by omega, by omega⟩ ?_
  refine cS3v X mf_X5_put ms_X5_put ml_X2_97 (by decide) (Nat.le_of_ble_eq_true rfl) dX2_widen_37 (sp_putk (k := r) rfl (by decide) hr) (fun w_37 h_37 => ?_)
  change _ = _ at h_37
  subst w_37
  exact j_return X hR dX2_widen_40 rfl
set_option maxHeartbeats 4000000 in
set_option maxRecDepth 20000 in
theorem sp_X2_clear_24 {us : Nat} {kd9 : Int} {w : wd} (hu : w 24 9 = (us : Int)) (hus : us ≤ 144) : CalV yX2_clear cX2_clear 3 3 LAY w [vR 24, vI kd9] (fun w' => w' = clrW w 24 46 us kd9) := by
  refine calV_intro (ls := [some (vR 24), some (vI kd9), none]) (by decide) (Nat.le_of_ble_eq_true rfl) rfl (fun κ ad X hR => ?_)
  refine j_iconst X dX2_clear_0 ?_
  refine s_2 X dX2_clear_1 rfl ?_
  have L_2 : ∀ (m : Nat) (k : Nat) (_ : k ≤ us) (_ : us - k < m), J κ LAY ad 0 0 2 [some (vR 24), some (vI kd9), some (vI (k : Int))] [] (clrP w 46 k) := by
    intro m
    induction m with
    | zero => intro k h1 h2; exact absurd h2 (Nat.not_lt_zero _)
    | succ m ih2 =>
      intro k h1 h2
      obtain ⟨s, hs, hs2⟩ : ∃ s : Nat, spot (w 46 k) (w 47 k) (w 48 k) = (s : Int) ∧ s < 1024 := ⟨(spot (w 46 k) (w 47 k) (w 48 k)).toNat, by have := spot_lt (w 46 k) (w 47 k) (w 48 k); omega, by have := spot_lt (w 46 k) (w 47 k) (w 48 k); omega⟩
      have hu2 : clrP w 46 k 24 9 = (us : Int) := by rw [← hu]; simp [clrP]
      refine j_iload_n X dX2_clear_2 rfl ?_
      refine j_aload_n X dX2_clear_3 rfl ?_
      refine j_getI X dX2_clear_4 ff_X2_84 rfl rfl ?_
      refine j_icmp_ge (tgt := 51) X dX2_clear_7 (by decide) ⟨by omega, by omega⟩ ⟨by omega, by omega⟩ (fun h_7 => ?_) (fun h_7 => ?_)
      · rw [show k = us by omega]
        refine j_aload_n X dX2_clear_51 rfl ?_
        refine j_getR X dX2_clear_52 ff_X2_26 rfl rfl ?_
        refine j_sipush X dX2_clear_55 (by decide +kernel) ?_
        refine cS2v X mf_X5_fill ms_X5_fill ml_X2_100 (by decide) (Nat.le_of_ble_eq_true rfl) dX2_clear_58 (sp_X5_fill rfl (by decide)) (fun w_58 h_58 => ?_)
        change _ = _ at h_58
        subst w_58
        refine j_aload_n X dX2_clear_61 rfl ?_
        refine j_getR X dX2_clear_62 ff_X2_29 rfl rfl ?_
        refine j_sipush X dX2_clear_65 (by decide +kernel) ?_
        refine cS2v X mf_X5_fill ms_X5_fill ml_X2_100 (by decide) (Nat.le_of_ble_eq_true rfl) dX2_clear_68 (sp_X5_fill rfl (by decide)) (fun w_68 h_68 => ?_)
        change _ = _ at h_68
        subst w_68
        refine j_aload_n X dX2_clear_71 rfl ?_
        refine j_iload_n X dX2_clear_72 rfl ?_
        refine j_putI X dX2_clear_73 fp_X2_104 rfl rfl ?_
        refine j_aload_n X dX2_clear_76 rfl ?_
        refine j_iconst X dX2_clear_77 ?_
        refine j_putI X dX2_clear_78 fp_X2_107 rfl rfl ?_
        refine j_aload_n X dX2_clear_81 rfl ?_
        refine j_iconst X dX2_clear_82 ?_
        refine j_putI X dX2_clear_83 fp_X2_84 rfl rfl ?_
        exact j_return X hR dX2_clear_86 rfl
      · refine j_aload_n X dX2_clear_10 rfl ?_
        refine j_getR X dX2_clear_11 ff_X2_23 rfl rfl ?_
        refine j_aload_n X dX2_clear_14 rfl ?_
        refine j_getR X dX2_clear_15 ff_X2_9 rfl rfl ?_
        refine j_iload_n X dX2_clear_18 rfl ?_
        refine cS2i X mf_X5_get ms_X5_get ml_X2_87 (by decide) (Nat.le_of_ble_eq_true rfl) dX2_clear_19 (sp_getk (k := k) rfl (by decide) (by omega)) (fun a_19 w_19 h_19 => ?_)
        obtain ⟨_, _⟩ := h_19
        subst a_19
        subst w_19
        refine j_aload_n X dX2_clear_22 rfl ?_
        refine j_getR X dX2_clear_23 ff_X2_15 rfl rfl ?_
        refine j_iload_n X dX2_clear_26 rfl ?_
        refine cS2i X mf_X5_get ms_X5_get ml_X2_87 (by decide) (Nat.le_of_ble_eq_true rfl) dX2_clear_27 (sp_getk (k := k) rfl (by decide) (by omega)) (fun a_27 w_27 h_27 => ?_)
        obtain ⟨_, _⟩ := h_27
        subst a_27
        subst w_27
        refine j_aload_n X dX2_clear_30 rfl ?_
        refine j_getR X dX2_clear_31 ff_X2_18 rfl rfl ?_
        refine j_iload_n X dX2_clear_34 rfl ?_
        refine cS2i X mf_X5_get ms_X5_get ml_X2_87 (by decide) (Nat.le_of_ble_eq_true rfl) dX2_clear_35 (sp_getk (k := k) rfl (by decide) (by omega)) (fun a_35 w_35 h_35 => ?_)
        obtain ⟨_, _⟩ := h_35
        subst a_35
        subst w_35
        refine cS3i X mf_X3_spot ms_X3_spot ml_X2_93 (by decide) (Nat.le_of_ble_eq_true rfl) dX2_clear_38 (sp_X3_spot) (fun a_38 w_38 h_38 => ?_)
        obtain ⟨_, _⟩ := h_38
        subst a_38
        subst w_38
        rw [show spot (clrP w 46 k 46 k) (clrP w 46 k 47 k) (clrP w 46 k 48 k) = (s : Int) by rw [← hs]; simp [clrP]]
        refine j_iconst X dX2_clear_41 ?_
        refine cS3v X mf_X5_put ms_X5_put ml_X2_97 (by decide) (Nat.le_of_ble_eq_true rfl) dX2_clear_42 (sp_putk (k := s) rfl (by decide) hs2) (fun w_42 h_42 => ?_)
        change _ = _ at h_42
        subst w_42
        refine inc_2 X dX2_clear_45 rfl ?_
        refine j_goto (tgt := 2) X dX2_clear_48 (by decide) ?_
        rw [clrP_s hs hs2]
        exact ih2 (k + 1) (by omega) (by omega)
  have h0 := L_2 (us + 1) 0 (by omega) (by omega)
  rw [clrP_0] at h0
  exact h0
set_option maxHeartbeats 4000000 in
set_option maxRecDepth 20000 in
theorem sp_X2_put_24 {us kd9 : Nat} {sp x y q : Int} {w : wd} (hu : w 24 9 = (us : Int)) (hsp : w 24 8 = sp) (hus : us < 144) (hfk : w 24 7 = 1 ∨ w 24 7 = 2) (hK : ∀ s, s < 1024 → 0 ≤ w 49 s ∧ w 49 s ≤ 2) (hz : LzO w 46) (hkd : kd9 = 1 ∨ kd9 = 2) (hx : -400 ≤ x ∧ x ≤ 400) (hy : -400 ≤ y ∧ y ≤ 400) (hq : 0 ≤ q ∧ q ≤ 3) : CalV yX2_put cX2_put 7 3 LAY w [vR 24, vI x, vI y, vI q, vI (kd9 : Int)] (fun w' => w' = putW w 24 46 us sp x y q kd9) := by
  obtain ⟨s, hs, hs2⟩ : ∃ s : Nat, spot x y q = (s : Int) ∧ s < 1024 := ⟨(spot x y q).toNat, by have := spot_lt x y q; omega, by have := spot_lt x y q; omega⟩
  have hst : (spot x y q).toNat = s := by rw [hs]; rfl
  have hKs := hK s hs2
  have hz2 : LzO (putB w 24 46 us sp x y q kd9) 46 := hz
  refine calV_intro (ls := [some (vR 24), some (vI x), some (vI y), some (vI q), some (vI (kd9 : Int)), none, none]) (by decide) (Nat.le_of_ble_eq_true rfl) rfl (fun κ ad X hR => ?_)
  refine j_iload_n X dX2_put_0 rfl ?_
  refine j_iload_n X dX2_put_1 rfl ?_
  refine j_iload_n X dX2_put_2 rfl ?_
  refine cS3i X mf_X3_spot ms_X3_spot ml_X2_93 (by decide) (Nat.le_of_ble_eq_true rfl) dX2_put_3 (sp_X3_spot) (fun a_3 w_3 h_3 => ?_)
  obtain ⟨_, _⟩ := h_3
  subst a_3
  subst w_3
  rw [hs]
  refine s_5 X dX2_put_6 rfl ?_
  refine j_aload_n X dX2_put_8 rfl ?_
  refine j_getR X dX2_put_9 ff_X2_23 rfl rfl ?_
  refine j_iload X dX2_put_12 rfl ?_
  refine cS2i X mf_X5_get ms_X5_get ml_X2_87 (by decide) (Nat.le_of_ble_eq_true rfl) dX2_put_14 (sp_getk (k := s) rfl (by decide) hs2) (fun a_14 w_14 h_14 => ?_)
  obtain ⟨_, _⟩ := h_14
  subst a_14
  subst w_14
  refine j_if_eq (tgt := 21) X dX2_put_17 (by decide) ⟨by omega, by omega⟩ (fun h_17 => ?_) (fun h_17 => ?_)
  · refine j_aload_n X dX2_put_21 rfl ?_
    refine j_getR X dX2_put_22 ff_X2_23 rfl rfl ?_
    refine j_iload X dX2_put_25 rfl ?_
    refine j_iload X dX2_put_27 rfl ?_
    refine cS3v X mf_X5_put ms_X5_put ml_X2_97 (by decide) (Nat.le_of_ble_eq_true rfl) dX2_put_29 (sp_putk (k := s) rfl (by decide) hs2) (fun w_29 h_29 => ?_)
    change _ = _ at h_29
    subst w_29
    refine j_aload_n X dX2_put_32 rfl ?_
    refine j_getR X dX2_put_33 ff_X2_9 rfl rfl ?_
    refine j_aload_n X dX2_put_36 rfl ?_
    refine j_getI X dX2_put_37 ff_X2_84 rfl rfl ?_
    change J κ LAY ad 0 0 _ _ (vI (w 24 9) :: _) _
    rw [hu]
    refine j_iload_n X dX2_put_40 rfl ?_
    refine cS3v X mf_X5_put ms_X5_put ml_X2_97 (by decide) (Nat.le_of_ble_eq_true rfl) dX2_put_41 (sp_putk (k := us) rfl (by decide) hus) (fun w_41 h_41 => ?_)
    change _ = _ at h_41
    subst w_41
    refine j_aload_n X dX2_put_44 rfl ?_
    refine j_getR X dX2_put_45 ff_X2_15 rfl rfl ?_
    refine j_aload_n X dX2_put_48 rfl ?_
    refine j_getI X dX2_put_49 ff_X2_84 rfl rfl ?_
    change J κ LAY ad 0 0 _ _ (vI (w 24 9) :: _) _
    rw [hu]
    refine j_iload_n X dX2_put_52 rfl ?_
    refine cS3v X mf_X5_put ms_X5_put ml_X2_97 (by decide) (Nat.le_of_ble_eq_true rfl) dX2_put_53 (sp_putk (k := us) rfl (by decide) hus) (fun w_53 h_53 => ?_)
    change _ = _ at h_53
    subst w_53
    refine j_aload_n X dX2_put_56 rfl ?_
    refine j_getR X dX2_put_57 ff_X2_18 rfl rfl ?_
    refine j_aload_n X dX2_put_60 rfl ?_
    refine j_getI X dX2_put_61 ff_X2_84 rfl rfl ?_
    change J κ LAY ad 0 0 _ _ (vI (w 24 9) :: _) _
    rw [hu]
    refine j_iload_n X dX2_put_64 rfl ?_
    refine cS3v X mf_X5_put ms_X5_put ml_X2_97 (by decide) (Nat.le_of_ble_eq_true rfl) dX2_put_65 (sp_putk (k := us) rfl (by decide) hus) (fun w_65 h_65 => ?_)
    change _ = _ at h_65
    subst w_65
    refine j_aload_n X dX2_put_68 rfl ?_
    refine j_dup X dX2_put_69 (fun _ h => by cases h) ?_
    refine j_getI X dX2_put_70 ff_X2_84 rfl rfl ?_
    change J κ LAY ad 0 0 _ _ (vI (w 24 9) :: _) _
    rw [hu]
    refine j_iconst X dX2_put_73 ?_
    refine j_iadd X dX2_put_74 ?_
    refine j_putI X dX2_put_75 fp_X2_84 rfl rfl ?_
    refine j_aload_n X dX2_put_78 rfl ?_
    refine j_dup X dX2_put_79 (fun _ h => by cases h) ?_
    refine j_getI X dX2_put_80 ff_X2_107 rfl rfl ?_
    change J κ LAY ad 0 0 _ _ (vI (w 24 8) :: _) _
    rw [hsp]
    refine j_iload X dX2_put_83 rfl ?_
    refine j_aload_n X dX2_put_85 rfl ?_
    refine j_getI X dX2_put_86 ff_X2_104 rfl rfl ?_
    change J κ LAY ad 0 0 _ _ (vI (w 24 7) :: _) _
    refine j_icmp_ne (tgt := 96) X dX2_put_89 (by decide) ⟨by omega, by omega⟩ ⟨by omega, by omega⟩ (fun h_89 => ?_) (fun h_89 => ?_)
    · refine j_iconst X dX2_put_96 ?_
      refine cS1i X mf_X9_yes ms_X9_yes ml_X2_110 (by decide) (Nat.le_of_ble_eq_true rfl) dX2_put_97 (sp_X9_yes (by first | exact Or.inr rfl | exact Or.inl rfl | exact ib_01)) (fun a_97 w_97 h_97 => ?_)
      obtain ⟨_, _⟩ := h_97
      subst a_97
      subst w_97
      refine j_iadd X dX2_put_100 ?_
      refine j_putI X dX2_put_101 fp_X2_107 rfl rfl ?_
      refine j_iconst X dX2_put_104 ?_
      refine s_6 X dX2_put_105 rfl ?_
      have L_107 : ∀ (m : Nat) (t : Nat) (_ : t ≤ 4) (_ : 4 - t < m), J κ LAY ad 0 0 107 [some (vR 24), some (vI x), some (vI y), some (vI q), some (vI (kd9 : Int)), some (vI (s : Int)), some (vI (t : Int))] [] (widP (putB w 24 46 us sp x y q kd9) 46 kd9 x y q t) := by
        intro m
        induction m with
        | zero => intro t h1 h2; exact absurd h2 (Nat.not_lt_zero _)
        | succ m ih107 =>
          intro t h1 h2
          have hstr : -900 ≤ strip t x y q ∧ strip t x y q ≤ 900 := by unfold strip; (repeat' split) <;> omega
          refine j_iload X dX2_put_107 rfl ?_
          refine j_iconst X dX2_put_109 ?_
          refine j_icmp_ge (tgt := 138) X dX2_put_110 (by decide) ⟨by omega, by omega⟩ ⟨by omega, by omega⟩ (fun h_110 => ?_) (fun h_110 => ?_)
          · exact j_return X hR dX2_put_138 (by unfold putW; rw [if_pos (by rw [hst]; exact h_17), show (4 : Nat) = t by omega])
          · refine j_aload_n X dX2_put_113 rfl ?_
            refine j_iload X dX2_put_114 rfl ?_
            refine j_iload X dX2_put_116 rfl ?_
            refine cS2i X mf_X2_row ms_X2_row ml_X2_113 (by decide) (Nat.le_of_ble_eq_true rfl) dX2_put_118 (sp_X2_row) (fun a_118 w_118 h_118 => ?_)
            obtain ⟨_, _⟩ := h_118
            subst a_118
            subst w_118
            refine j_iload X dX2_put_121 rfl ?_
            refine j_iload_n X dX2_put_123 rfl ?_
            refine j_iload_n X dX2_put_124 rfl ?_
            refine j_iload_n X dX2_put_125 rfl ?_
            refine cS4i X mf_X3_strip ms_X3_strip ml_X2_116 (by decide) (Nat.le_of_ble_eq_true rfl) dX2_put_126 (sp_X3_strip ⟨by omega, by omega⟩ ⟨by omega, by omega⟩) (fun a_126 w_126 h_126 => ?_)
            obtain ⟨_, _⟩ := h_126
            subst a_126
            subst w_126
            refine cV2v X mf_X2_widen mv_X2_widen ml_X2_120 (by decide) rfl rfl (Nat.le_of_ble_eq_true rfl) dX2_put_129 (sp_X2_widen_24 (r := 4 * kd9 + t) (by omega) (widP_lz (by decide) hz2 (by omega) hx hy hq t (by omega)) ⟨by omega, by omega⟩) (fun w_129 h_129 => ?_)
            change _ = _ at h_129
            subst w_129
            refine inc_6 X dX2_put_132 rfl ?_
            refine j_goto (tgt := 107) X dX2_put_135 (by decide) ?_
            exact ih107 (t + 1) (by omega) (by omega)
      rw [show wst (wst (wst (wst (wst (wst w 49 s (kd9 : Int)) 46 us x) 47 us y) 48 us q) 24 9 ((us : Int) + 1)) 24 8 (sp + 0) = putB w 24 46 us sp x y q kd9 by unfold putB putA; rw [hst, if_neg (by omega)]]
      exact L_107 5 0 (by omega) (by omega)
    · refine j_iconst X dX2_put_92 ?_
      refine j_goto (tgt := 97) X dX2_put_93 (by decide) ?_
      refine cS1i X mf_X9_yes ms_X9_yes ml_X2_110 (by decide) (Nat.le_of_ble_eq_true rfl) dX2_put_97 (sp_X9_yes (by first | exact Or.inr rfl | exact Or.inl rfl | exact ib_01)) (fun a_97 w_97 h_97 => ?_)
      obtain ⟨_, _⟩ := h_97
      subst a_97
      subst w_97
      refine j_iadd X dX2_put_100 ?_
      refine j_putI X dX2_put_101 fp_X2_107 rfl rfl ?_
      refine j_iconst X dX2_put_104 ?_
      refine s_6 X dX2_put_105 rfl ?_
      have L_107 : ∀ (m : Nat) (t : Nat) (_ : t ≤ 4) (_ : 4 - t < m), J κ LAY ad 0 0 107 [some (vR 24), some (vI x), some (vI y), some (vI q), some (vI (kd9 : Int)), some (vI (s : Int)), some (vI (t : Int))] [] (widP (putB w 24 46 us sp x y q kd9) 46 kd9 x y q t) := by
        intro m
        induction m with
        | zero => intro t h1 h2; exact absurd h2 (Nat.not_lt_zero _)
        | succ m ih107 =>
          intro t h1 h2
          have hstr : -900 ≤ strip t x y q ∧ strip t x y q ≤ 900 := by unfold strip; (repeat' split) <;> omega
          refine j_iload X dX2_put_107 rfl ?_
          refine j_iconst X dX2_put_109 ?_
          refine j_icmp_ge (tgt := 138) X dX2_put_110 (by decide) ⟨by omega, by omega⟩ ⟨by omega, by omega⟩ (fun h_110 => ?_) (fun h_110 => ?_)
          · exact j_return X hR dX2_put_138 (by unfold putW; rw [if_pos (by rw [hst]; exact h_17), show (4 : Nat) = t by omega])
          · refine j_aload_n X dX2_put_113 rfl ?_
            refine j_iload X dX2_put_114 rfl ?_
            refine j_iload X dX2_put_116 rfl ?_
            refine cS2i X mf_X2_row ms_X2_row ml_X2_113 (by decide) (Nat.le_of_ble_eq_true rfl) dX2_put_118 (sp_X2_row) (fun a_118 w_118 h_118 => ?_)
            obtain ⟨_, _⟩ := h_118
            subst a_118
            subst w_118
            refine j_iload X dX2_put_121 rfl ?_
            refine j_iload_n X dX2_put_123 rfl ?_
            refine j_iload_n X dX2_put_124 rfl ?_
            refine j_iload_n X dX2_put_125 rfl ?_
            refine cS4i X mf_X3_strip ms_X3_strip ml_X2_116 (by decide) (Nat.le_of_ble_eq_true rfl) dX2_put_126 (sp_X3_strip ⟨by omega, by omega⟩ ⟨by omega, by omega⟩) (fun a_126 w_126 h_126 => ?_)
            obtain ⟨_, _⟩ := h_126
            subst a_126
            subst w_126
            refine cV2v X mf_X2_widen mv_X2_widen ml_X2_120 (by decide) rfl rfl (Nat.le_of_ble_eq_true rfl) dX2_put_129 (sp_X2_widen_24 (r := 4 * kd9 + t) (by omega) (widP_lz (by decide) hz2 (by omega) hx hy hq t (by omega)) ⟨by omega, by omega⟩) (fun w_129 h_129 => ?_)
            change _ = _ at h_129
            subst w_129
            refine inc_6 X dX2_put_132 rfl ?_
            refine j_goto (tgt := 107) X dX2_put_135 (by decide) ?_
            exact ih107 (t + 1) (by omega) (by omega)
      rw [show wst (wst (wst (wst (wst (wst w 49 s (kd9 : Int)) 46 us x) 47 us y) 48 us q) 24 9 ((us : Int) + 1)) 24 8 (sp + 1) = putB w 24 46 us sp x y q kd9 by unfold putB putA; rw [hst, if_pos (by omega)]]
      exact L_107 5 0 (by omega) (by omega)
  · exact j_return X hR dX2_put_20 (by unfold putW; rw [if_neg (by rw [hst]; exact h_17)])
set_option maxHeartbeats 4000000 in
set_option maxRecDepth 20000 in
theorem sp_X2_fits_25 {sp us : Nat} {sort l : Int} {w : wd} (hu : w 25 9 = (us : Int)) (hsp : w 25 8 = (sp : Int)) (hle : sp ≤ us) (hus : us ≤ 144) (hfk : w 25 7 = 1 ∨ w 25 7 = 2) (hK : ∀ s, s < 1024 → 0 ≤ w 43 s ∧ w 43 s ≤ 2) (hsr : rg sort) : CalI yX2_fits cX2_fits 10 .boolean 2 LAY w [vR 25, vI sort, vI l] (fun r w' => r = ib (fitL w 25 40 sp us sort l) ∧ w' = w) := by
  have hkr : ∀ i, 0 ≤ mspL w 40 sort l i ∧ mspL w 40 sort l i < 1024 := fun i => spot_lt _ _ _
  have hskr : 1 ≤ skF w 25 ∧ skF w 25 ≤ 2 := by unfold skF; split <;> omega
  refine calI_intro (ls := [some (vR 25), some (vI sort), some (vI l), none, none, none, none, none, none, none]) (by decide) (Nat.le_of_ble_eq_true rfl) rfl (fun κ ad X hR => ?_)
  have C_67 : ∀ (m : Nat) (v un : Int) (lo hi i : Nat), hi ≤ us → (1 ≤ un ∧ un ≤ 2) → (lo ≤ i ∧ i ≤ us) → (∀ j, lo ≤ j → j < i → w 43 (mspL w 40 sort l j).toNat ≠ un) → ((∀ j, lo ≤ j → j < hi → w 43 (mspL w 40 sort l j).toNat ≠ un) ↔ fitL w 25 40 sp us sort l) → hi - i < m → J κ LAY ad 0 0 67 [some (vR 25), some (vI sort), some (vI l), some (vI v), some (vI (hi : Int)), some (vI un), some (vI (i : Int)), none, none, none] [] w := by
    intro m
    induction m
    · intro v un lo hi i h1 h2 h3 h4 h5 h6
      exact absurd h6 (Nat.not_lt_zero _)
    rename_i m ih67
    intro v un lo hi i h1 h2 h3 h4 h5 h6
    refine j_iload X dX2_fits_67 rfl ?_
    refine j_iload X dX2_fits_69 rfl ?_
    refine j_icmp_ge (tgt := 168) X dX2_fits_71 (by decide) ⟨by omega, by omega⟩ ⟨by omega, by omega⟩ (fun h_71 => ?_) (fun h_71 => ?_)
    · refine j_iconst X dX2_fits_168 ?_
      exact j_zreturn X hR dX2_fits_169 (by first | exact Or.inl rfl | exact Or.inr rfl | exact ib_01) ⟨(ib_t (h5.mp (fun j q1 q2 => h4 j q1 (by omega)))).symm, rfl⟩
    · have hii : i < us := by omega
      have hmm := hkr i
      have hKK := hK (mspL w 40 sort l i).toNat (by omega)
      refine j_iload_n X dX2_fits_74 rfl ?_
      refine j_iload_n X dX2_fits_75 rfl ?_
      refine j_aload_n X dX2_fits_76 rfl ?_
      refine j_getR X dX2_fits_77 ff_X2_9 rfl rfl ?_
      refine j_iload X dX2_fits_80 rfl ?_
      refine cS2i X mf_X5_get ms_X5_get ml_X2_87 (by decide) (Nat.le_of_ble_eq_true rfl) dX2_fits_82 (sp_getk (k := i) rfl (by decide) (by omega)) (fun a_82 w_82 h_82 => ?_)
      obtain ⟨_, _⟩ := h_82
      subst a_82
      subst w_82
      refine j_aload_n X dX2_fits_85 rfl ?_
      refine j_getR X dX2_fits_86 ff_X2_15 rfl rfl ?_
      refine j_iload X dX2_fits_89 rfl ?_
      refine cS2i X mf_X5_get ms_X5_get ml_X2_87 (by decide) (Nat.le_of_ble_eq_true rfl) dX2_fits_91 (sp_getk (k := i) rfl (by decide) (by omega)) (fun a_91 w_91 h_91 => ?_)
      obtain ⟨_, _⟩ := h_91
      subst a_91
      subst w_91
      refine cS4i X mf_X3_mirrorX ms_X3_mirrorX ml_X2_142 (by decide) (Nat.le_of_ble_eq_true rfl) dX2_fits_94 (sp_X3_mirrorX hsr) (fun a_94 w_94 h_94 => ?_)
      obtain ⟨_, _⟩ := h_94
      subst a_94
      subst w_94
      refine s_7 X dX2_fits_97 rfl ?_
      refine j_iload_n X dX2_fits_99 rfl ?_
      refine j_iload_n X dX2_fits_100 rfl ?_
      refine j_aload_n X dX2_fits_101 rfl ?_
      refine j_getR X dX2_fits_102 ff_X2_9 rfl rfl ?_
      refine j_iload X dX2_fits_105 rfl ?_
      refine cS2i X mf_X5_get ms_X5_get ml_X2_87 (by decide) (Nat.le_of_ble_eq_true rfl) dX2_fits_107 (sp_getk (k := i) rfl (by decide) (by omega)) (fun a_107 w_107 h_107 => ?_)
      obtain ⟨_, _⟩ := h_107
      subst a_107
      subst w_107
      refine j_aload_n X dX2_fits_110 rfl ?_
      refine j_getR X dX2_fits_111 ff_X2_15 rfl rfl ?_
      refine j_iload X dX2_fits_114 rfl ?_
      refine cS2i X mf_X5_get ms_X5_get ml_X2_87 (by decide) (Nat.le_of_ble_eq_true rfl) dX2_fits_116 (sp_getk (k := i) rfl (by decide) (by omega)) (fun a_116 w_116 h_116 => ?_)
      obtain ⟨_, _⟩ := h_116
      subst a_116
      subst w_116
      refine cS4i X mf_X3_mirrorY ms_X3_mirrorY ml_X2_145 (by decide) (Nat.le_of_ble_eq_true rfl) dX2_fits_119 (sp_X3_mirrorY hsr) (fun a_119 w_119 h_119 => ?_)
      obtain ⟨_, _⟩ := h_119
      subst a_119
      subst w_119
      refine s_8 X dX2_fits_122 rfl ?_
      refine j_iload_n X dX2_fits_124 rfl ?_
      refine j_aload_n X dX2_fits_125 rfl ?_
      refine j_getR X dX2_fits_126 ff_X2_18 rfl rfl ?_
      refine j_iload X dX2_fits_129 rfl ?_
      refine cS2i X mf_X5_get ms_X5_get ml_X2_87 (by decide) (Nat.le_of_ble_eq_true rfl) dX2_fits_131 (sp_getk (k := i) rfl (by decide) (by omega)) (fun a_131 w_131 h_131 => ?_)
      obtain ⟨_, _⟩ := h_131
      subst a_131
      subst w_131
      refine cS2i X mf_X3_mirrorQuarter ms_X3_mirrorQuarter ml_X2_148 (by decide) (Nat.le_of_ble_eq_true rfl) dX2_fits_134 (sp_X3_mirrorQuarter hsr) (fun a_134 w_134 h_134 => ?_)
      obtain ⟨_, _⟩ := h_134
      subst a_134
      subst w_134
      refine s_9 X dX2_fits_137 rfl ?_
      refine j_aload_n X dX2_fits_139 rfl ?_
      refine j_getR X dX2_fits_140 ff_X2_23 rfl rfl ?_
      refine j_iload X dX2_fits_143 rfl ?_
      refine j_iload X dX2_fits_145 rfl ?_
      refine j_iload X dX2_fits_147 rfl ?_
      refine cS3i X mf_X3_spot ms_X3_spot ml_X2_93 (by decide) (Nat.le_of_ble_eq_true rfl) dX2_fits_149 (sp_X3_spot) (fun a_149 w_149 h_149 => ?_)
      obtain ⟨_, _⟩ := h_149
      subst a_149
      subst w_149
      refine cS2i X mf_X5_get ms_X5_get ml_X2_87 (by decide) (Nat.le_of_ble_eq_true rfl) dX2_fits_152 (sp_X5_get rfl (by decide) ⟨Int.le_trans (by decide) hmm.1, Int.le_of_lt (Int.lt_of_lt_of_le hmm.2 (by decide))⟩) (fun a_152 w_152 h_152 => ?_)
      obtain ⟨_, _⟩ := h_152
      subst a_152
      subst w_152
      rw [show rget (w 43) 1024 (spot (mirX sort l (w 40 i) (w 41 i)) (mirY sort l (w 40 i) (w 41 i)) (mirQ sort (w 42 i))) = w 43 (mspL w 40 sort l i).toNat by unfold rget; exact if_pos hmm]
      refine j_iload X dX2_fits_155 rfl ?_
      refine j_icmp_ne (tgt := 162) X dX2_fits_157 (by decide) ⟨by omega, by omega⟩ ⟨by omega, by omega⟩ (fun h_157 => ?_) (fun h_157 => ?_)
      · refine inc_6 X dX2_fits_162 rfl ?_
        refine j_goto (tgt := 67) X dX2_fits_165 (by decide) ?_
        refine fg_7 ?_
        refine fg_8 ?_
        refine fg_9 ?_
        exact ih67 v un lo hi (i + 1) h1 h2 (by omega) (fun j q1 q2 => by by_cases z : j = i; rw [z]; exact h_157; exact h4 j q1 (by omega)) h5 (by omega)
      · refine j_iconst X dX2_fits_160 ?_
        exact j_zreturn X hR dX2_fits_161 (by first | exact Or.inl rfl | exact Or.inr rfl | exact ib_01) ⟨(ib_f (fun z => h5.mpr z i h3.1 (by omega) h_157)).symm, rfl⟩
  refine j_iconst X dX2_fits_0 ?_
  refine j_aload_n X dX2_fits_1 rfl ?_
  refine j_getI X dX2_fits_2 ff_X2_107 rfl rfl ?_
  refine j_imul X dX2_fits_5 ?_
  refine j_aload_n X dX2_fits_6 rfl ?_
  refine j_getI X dX2_fits_7 ff_X2_84 rfl rfl ?_
  refine j_icmp_gt (tgt := 17) X dX2_fits_10 (by decide) ⟨by omega, by omega⟩ ⟨by omega, by omega⟩ (fun h_10 => ?_) (fun h_10 => ?_)
  · refine j_iconst X dX2_fits_17 ?_
    refine s_3 X dX2_fits_18 rfl ?_
    refine j_iload_n X dX2_fits_19 rfl ?_
    refine jt_if_eq (tgt := 30) X dX2_fits_20 (by decide) ⟨by omega, by omega⟩ (by first | decide | omega) ?_
    refine j_aload_n X dX2_fits_30 rfl ?_
    refine j_getI X dX2_fits_31 ff_X2_84 rfl rfl ?_
    refine s_4 X dX2_fits_34 rfl ?_
    refine j_iload_n X dX2_fits_36 rfl ?_
    refine jt_if_eq (tgt := 47) X dX2_fits_37 (by decide) ⟨by omega, by omega⟩ (by first | decide | omega) ?_
    refine j_aload_n X dX2_fits_47 rfl ?_
    refine j_getI X dX2_fits_48 ff_X2_104 rfl rfl ?_
    refine s_5 X dX2_fits_51 rfl ?_
    refine j_iload_n X dX2_fits_53 rfl ?_
    refine jt_if_eq (tgt := 61) X dX2_fits_54 (by decide) ⟨by omega, by omega⟩ (by first | decide | omega) ?_
    refine j_aload_n X dX2_fits_61 rfl ?_
    refine j_getI X dX2_fits_62 ff_X2_107 rfl rfl ?_
    refine s_6 X dX2_fits_65 rfl ?_
    rw [hsp, hu]
    exact C_67 (us + 1) _ _ sp us sp (Nat.le_refl _) (by omega) ⟨Nat.le_refl _, hle⟩ (fun j q1 q2 => absurd q2 (by omega)) ⟨fun z => Or.inr ⟨by omega, fun i q1 q2 => z i q2 q1⟩, fun z => by rcases z with z | z; exact absurd z.1 (by omega); exact fun j q1 q2 => z.2 j q2 q1⟩ (by omega)
  · refine j_iconst X dX2_fits_13 ?_
    refine j_goto (tgt := 18) X dX2_fits_14 (by decide) ?_
    refine s_3 X dX2_fits_18 rfl ?_
    refine j_iload_n X dX2_fits_19 rfl ?_
    refine jf_if_eq (tgt := 30) X dX2_fits_20 (by decide) ⟨by omega, by omega⟩ (by first | decide | omega) ?_
    refine j_aload_n X dX2_fits_23 rfl ?_
    refine j_getI X dX2_fits_24 ff_X2_107 rfl rfl ?_
    refine j_goto (tgt := 34) X dX2_fits_27 (by decide) ?_
    refine s_4 X dX2_fits_34 rfl ?_
    refine j_iload_n X dX2_fits_36 rfl ?_
    refine jf_if_eq (tgt := 47) X dX2_fits_37 (by decide) ⟨by omega, by omega⟩ (by first | decide | omega) ?_
    refine j_aload_n X dX2_fits_40 rfl ?_
    refine cV0i X mf_X2_secondKind mv_X2_secondKind ml_X2_138 (by decide) rfl rfl (Nat.le_of_ble_eq_true rfl) dX2_fits_41 (sp_X2_secondKind_25 ⟨by omega, by omega⟩) (fun a_41 w_41 h_41 => ?_)
    obtain ⟨_, _⟩ := h_41
    subst a_41
    subst w_41
    refine j_goto (tgt := 51) X dX2_fits_44 (by decide) ?_
    refine s_5 X dX2_fits_51 rfl ?_
    refine j_iload_n X dX2_fits_53 rfl ?_
    refine jf_if_eq (tgt := 61) X dX2_fits_54 (by decide) ⟨by omega, by omega⟩ (by first | decide | omega) ?_
    refine j_iconst X dX2_fits_57 ?_
    refine j_goto (tgt := 65) X dX2_fits_58 (by decide) ?_
    refine s_6 X dX2_fits_65 rfl ?_
    rw [hsp]
    exact C_67 (us + 1) _ _ 0 sp 0 hle (by omega) ⟨Nat.le_refl _, Nat.zero_le _⟩ (fun j q1 q2 => absurd q2 (by omega)) ⟨fun z => Or.inl ⟨by omega, fun i q1 => z i (Nat.zero_le _) q1⟩, fun z => by rcases z with z | z; exact fun j q1 q2 => z.2 j q2; exact absurd (show 2 * sp ≤ us by omega) z.1⟩ (by omega)
set_option maxHeartbeats 4000000 in
set_option maxRecDepth 20000 in
theorem sp_X2_widen_25 {r : Nat} {t : Int} {w : wd} (hr : r < 12) (hz : LzO w 40) (ht : rg t) : CalV yX2_widen cX2_widen 3 2 LAY w [vR 25, vI (r : Int), vI t] (fun w' => w' = widW w 40 r t) := by
  have h1 := hz r hr
  simp only [show 40 + 4 = 44 from rfl, show 40 + 5 = 45 from rfl] at h1
  refine calV_intro (ls := [some (vR 25), some (vI (r : Int)), some (vI t)]) (by decide) (Nat.le_of_ble_eq_true rfl) rfl (fun κ ad X hR => ?_)
  refine j_aload_n X dX2_widen_0 rfl ?_
  refine j_getR X dX2_widen_1 ff_X2_26 rfl rfl ?_
  refine j_iload_n X dX2_widen_4 rfl ?_
  refine j_aload_n X dX2_widen_5 rfl ?_
  refine j_getR X dX2_widen_6 ff_X2_26 rfl rfl ?_
  refine j_iload_n X dX2_widen_9 rfl ?_
  refine cS2i X mf_X5_get ms_X5_get ml_X2_87 (by decide) (Nat.le_of_ble_eq_true rfl) dX2_widen_10 (sp_getk (k := r) rfl (by decide) hr) (fun a_10 w_10 h_10 => ?_)
  obtain ⟨_, _⟩ := h_10
  subst a_10
  subst w_10
  refine j_iload_n X dX2_widen_13 rfl ?_
  refine j_mmin X csOk_0 mt_X2_124 (by decide) (Nat.le_of_ble_eq_true rfl) dX2_widen_14 ⟨by omega, by omega⟩ ⟨by omega, by omega⟩ ?_
  refine cS3v X mf_X5_put ms_X5_put ml_X2_97 (by decide) (Nat.le_of_ble_eq_true rfl) dX2_widen_17 (sp_putk (k := r) rfl (by decide) hr) (fun w_17 h_17 => ?_)
  change _ = _ at h_17
  subst w_17
  refine j_aload_n X dX2_widen_20 rfl ?_
  refine j_getR X dX2_widen_21 ff_X2_29 rfl rfl ?_
  refine j_iload_n X dX2_widen_24 rfl ?_
  refine j_aload_n X dX2_widen_25 rfl ?_
  refine j_getR X dX2_widen_26 ff_X2_29 rfl rfl ?_
  refine j_iload_n X dX2_widen_29 rfl ?_
  refine cS2i X mf_X5_get ms_X5_get ml_X2_87 (by decide) (Nat.le_of_ble_eq_true rfl) dX2_widen_30 (sp_getk (k := r) rfl (by decide) hr) (fun a_30 w_30 h_30 => ?_)
  obtain ⟨_, _⟩ := h_30
  subst a_30
  subst w_30
  change J κ LAY ad 0 0 _ _ (vI (w 45 r) :: _) _
  refine j_iload_n X dX2_widen_33 rfl ?_
  refine j_mmax X csOk_0 mt_X2_129 (by decide) (Nat.le_of_ble_eq_true rfl) dX2_widen_34 ⟨by omega, by omega⟩ ⟨by omega, by omega⟩ ?_
  refine cS3v X mf_X5_put ms_X5_put ml_X2_97 (by decide) (Nat.le_of_ble_eq_true rfl) dX2_widen_37 (sp_putk (k := r) rfl (by decide) hr) (fun w_37 h_37 => ?_)
  change _ = _ at h_37
  subst w_37
  exact j_return X hR dX2_widen_40 rfl
set_option maxHeartbeats 4000000 in
set_option maxRecDepth 20000 in
theorem sp_X2_clear_25 {us : Nat} {kd9 : Int} {w : wd} (hu : w 25 9 = (us : Int)) (hus : us ≤ 144) : CalV yX2_clear cX2_clear 3 3 LAY w [vR 25, vI kd9] (fun w' => w' = clrW w 25 40 us kd9) := by
  refine calV_intro (ls := [some (vR 25), some (vI kd9), none]) (by decide) (Nat.le_of_ble_eq_true rfl) rfl (fun κ ad X hR => ?_)
  refine j_iconst X dX2_clear_0 ?_
  refine s_2 X dX2_clear_1 rfl ?_
  have L_2 : ∀ (m : Nat) (k : Nat) (_ : k ≤ us) (_ : us - k < m), J κ LAY ad 0 0 2 [some (vR 25), some (vI kd9), some (vI (k : Int))] [] (clrP w 40 k) := by
    intro m
    induction m with
    | zero => intro k h1 h2; exact absurd h2 (Nat.not_lt_zero _)
    | succ m ih2 =>
      intro k h1 h2
      obtain ⟨s, hs, hs2⟩ : ∃ s : Nat, spot (w 40 k) (w 41 k) (w 42 k) = (s : Int) ∧ s < 1024 := ⟨(spot (w 40 k) (w 41 k) (w 42 k)).toNat, by have := spot_lt (w 40 k) (w 41 k) (w 42 k); omega, by have := spot_lt (w 40 k) (w 41 k) (w 42 k); omega⟩
      have hu2 : clrP w 40 k 25 9 = (us : Int) := by rw [← hu]; simp [clrP]
      refine j_iload_n X dX2_clear_2 rfl ?_
      refine j_aload_n X dX2_clear_3 rfl ?_
      refine j_getI X dX2_clear_4 ff_X2_84 rfl rfl ?_
      refine j_icmp_ge (tgt := 51) X dX2_clear_7 (by decide) ⟨by omega, by omega⟩ ⟨by omega, by omega⟩ (fun h_7 => ?_) (fun h_7 => ?_)
      · rw [show k = us by omega]
        refine j_aload_n X dX2_clear_51 rfl ?_
        refine j_getR X dX2_clear_52 ff_X2_26 rfl rfl ?_
        refine j_sipush X dX2_clear_55 (by decide +kernel) ?_
        refine cS2v X mf_X5_fill ms_X5_fill ml_X2_100 (by decide) (Nat.le_of_ble_eq_true rfl) dX2_clear_58 (sp_X5_fill rfl (by decide)) (fun w_58 h_58 => ?_)
        change _ = _ at h_58
        subst w_58
        refine j_aload_n X dX2_clear_61 rfl ?_
        refine j_getR X dX2_clear_62 ff_X2_29 rfl rfl ?_
        refine j_sipush X dX2_clear_65 (by decide +kernel) ?_
        refine cS2v X mf_X5_fill ms_X5_fill ml_X2_100 (by decide) (Nat.le_of_ble_eq_true rfl) dX2_clear_68 (sp_X5_fill rfl (by decide)) (fun w_68 h_68 => ?_)
        change _ = _ at h_68
        subst w_68
        refine j_aload_n X dX2_clear_71 rfl ?_
        refine j_iload_n X dX2_clear_72 rfl ?_
        refine j_putI X dX2_clear_73 fp_X2_104 rfl rfl ?_
        refine j_aload_n X dX2_clear_76 rfl ?_
        refine j_iconst X dX2_clear_77 ?_
        refine j_putI X dX2_clear_78 fp_X2_107 rfl rfl ?_
        refine j_aload_n X dX2_clear_81 rfl ?_
        refine j_iconst X dX2_clear_82 ?_
        refine j_putI X dX2_clear_83 fp_X2_84 rfl rfl ?_
        exact j_return X hR dX2_clear_86 rfl
      · refine j_aload_n X dX2_clear_10 rfl ?_
        refine j_getR X dX2_clear_11 ff_X2_23 rfl rfl ?_
        refine j_aload_n X dX2_clear_14 rfl ?_
        refine j_getR X dX2_clear_15 ff_X2_9 rfl rfl ?_
        refine j_iload_n X dX2_clear_18 rfl ?_
        refine cS2i X mf_X5_get ms_X5_get ml_X2_87 (by decide) (Nat.le_of_ble_eq_true rfl) dX2_clear_19 (sp_getk (k := k) rfl (by decide) (by omega)) (fun a_19 w_19 h_19 => ?_)
        obtain ⟨_, _⟩ := h_19
        subst a_19
        subst w_19
        refine j_aload_n X dX2_clear_22 rfl ?_
        refine j_getR X dX2_clear_23 ff_X2_15 rfl rfl ?_
        refine j_iload_n X dX2_clear_26 rfl ?_
        refine cS2i X mf_X5_get ms_X5_get ml_X2_87 (by decide) (Nat.le_of_ble_eq_true rfl) dX2_clear_27 (sp_getk (k := k) rfl (by decide) (by omega)) (fun a_27 w_27 h_27 => ?_)
        obtain ⟨_, _⟩ := h_27
        subst a_27
        subst w_27
        refine j_aload_n X dX2_clear_30 rfl ?_
        refine j_getR X dX2_clear_31 ff_X2_18 rfl rfl ?_
        refine j_iload_n X dX2_clear_34 rfl ?_
        refine cS2i X mf_X5_get ms_X5_get ml_X2_87 (by decide) (Nat.le_of_ble_eq_true rfl) dX2_clear_35 (sp_getk (k := k) rfl (by decide) (by omega)) (fun a_35 w_35 h_35 => ?_)
        obtain ⟨_, _⟩ := h_35
        subst a_35
        subst w_35
        refine cS3i X mf_X3_spot ms_X3_spot ml_X2_93 (by decide) (Nat.le_of_ble_eq_true rfl) dX2_clear_38 (sp_X3_spot) (fun a_38 w_38 h_38 => ?_)
        obtain ⟨_, _⟩ := h_38
        subst a_38
        subst w_38
        rw [show spot (clrP w 40 k 40 k) (clrP w 40 k 41 k) (clrP w 40 k 42 k) = (s : Int) by rw [← hs]; simp [clrP]]
        refine j_iconst X dX2_clear_41 ?_
        refine cS3v X mf_X5_put ms_X5_put ml_X2_97 (by decide) (Nat.le_of_ble_eq_true rfl) dX2_clear_42 (sp_putk (k := s) rfl (by decide) hs2) (fun w_42 h_42 => ?_)
        change _ = _ at h_42
        subst w_42
        refine inc_2 X dX2_clear_45 rfl ?_
        refine j_goto (tgt := 2) X dX2_clear_48 (by decide) ?_
        rw [clrP_s hs hs2]
        exact ih2 (k + 1) (by omega) (by omega)
  have h0 := L_2 (us + 1) 0 (by omega) (by omega)
  rw [clrP_0] at h0
  exact h0
set_option maxHeartbeats 4000000 in
set_option maxRecDepth 20000 in
theorem sp_X2_put_25 {us kd9 : Nat} {sp x y q : Int} {w : wd} (hu : w 25 9 = (us : Int)) (hsp : w 25 8 = sp) (hus : us < 144) (hfk : w 25 7 = 1 ∨ w 25 7 = 2) (hK : ∀ s, s < 1024 → 0 ≤ w 43 s ∧ w 43 s ≤ 2) (hz : LzO w 40) (hkd : kd9 = 1 ∨ kd9 = 2) (hx : -400 ≤ x ∧ x ≤ 400) (hy : -400 ≤ y ∧ y ≤ 400) (hq : 0 ≤ q ∧ q ≤ 3) : CalV yX2_put cX2_put 7 3 LAY w [vR 25, vI x, vI y, vI q, vI (kd9 : Int)] (fun w' => w' = putW w 25 40 us sp x y q kd9) := by
  obtain ⟨s, hs, hs2⟩ : ∃ s : Nat, spot x y q = (s : Int) ∧ s < 1024 := ⟨(spot x y q).toNat, by have := spot_lt x y q; omega, by have := spot_lt x y q; omega⟩
  have hst : (spot x y q).toNat = s := by rw [hs]; rfl
  have hKs := hK s hs2
  have hz2 : LzO (putB w 25 40 us sp x y q kd9) 40 := hz
  refine calV_intro (ls := [some (vR 25), some (vI x), some (vI y), some (vI q), some (vI (kd9 : Int)), none, none]) (by decide) (Nat.le_of_ble_eq_true rfl) rfl (fun κ ad X hR => ?_)
  refine j_iload_n X dX2_put_0 rfl ?_
  refine j_iload_n X dX2_put_1 rfl ?_
  refine j_iload_n X dX2_put_2 rfl ?_
  refine cS3i X mf_X3_spot ms_X3_spot ml_X2_93 (by decide) (Nat.le_of_ble_eq_true rfl) dX2_put_3 (sp_X3_spot) (fun a_3 w_3 h_3 => ?_)
  obtain ⟨_, _⟩ := h_3
  subst a_3
  subst w_3
  rw [hs]
  refine s_5 X dX2_put_6 rfl ?_
  refine j_aload_n X dX2_put_8 rfl ?_
  refine j_getR X dX2_put_9 ff_X2_23 rfl rfl ?_
  refine j_iload X dX2_put_12 rfl ?_
  refine cS2i X mf_X5_get ms_X5_get ml_X2_87 (by decide) (Nat.le_of_ble_eq_true rfl) dX2_put_14 (sp_getk (k := s) rfl (by decide) hs2) (fun a_14 w_14 h_14 => ?_)
  obtain ⟨_, _⟩ := h_14
  subst a_14
  subst w_14
  refine j_if_eq (tgt := 21) X dX2_put_17 (by decide) ⟨by omega, by omega⟩ (fun h_17 => ?_) (fun h_17 => ?_)
  · refine j_aload_n X dX2_put_21 rfl ?_
    refine j_getR X dX2_put_22 ff_X2_23 rfl rfl ?_
    refine j_iload X dX2_put_25 rfl ?_
    refine j_iload X dX2_put_27 rfl ?_
    refine cS3v X mf_X5_put ms_X5_put ml_X2_97 (by decide) (Nat.le_of_ble_eq_true rfl) dX2_put_29 (sp_putk (k := s) rfl (by decide) hs2) (fun w_29 h_29 => ?_)
    change _ = _ at h_29
    subst w_29
    refine j_aload_n X dX2_put_32 rfl ?_
    refine j_getR X dX2_put_33 ff_X2_9 rfl rfl ?_
    refine j_aload_n X dX2_put_36 rfl ?_
    refine j_getI X dX2_put_37 ff_X2_84 rfl rfl ?_
    change J κ LAY ad 0 0 _ _ (vI (w 25 9) :: _) _
    rw [hu]
    refine j_iload_n X dX2_put_40 rfl ?_
    refine cS3v X mf_X5_put ms_X5_put ml_X2_97 (by decide) (Nat.le_of_ble_eq_true rfl) dX2_put_41 (sp_putk (k := us) rfl (by decide) hus) (fun w_41 h_41 => ?_)
    change _ = _ at h_41
    subst w_41
    refine j_aload_n X dX2_put_44 rfl ?_
    refine j_getR X dX2_put_45 ff_X2_15 rfl rfl ?_
    refine j_aload_n X dX2_put_48 rfl ?_
    refine j_getI X dX2_put_49 ff_X2_84 rfl rfl ?_
    change J κ LAY ad 0 0 _ _ (vI (w 25 9) :: _) _
    rw [hu]
    refine j_iload_n X dX2_put_52 rfl ?_
    refine cS3v X mf_X5_put ms_X5_put ml_X2_97 (by decide) (Nat.le_of_ble_eq_true rfl) dX2_put_53 (sp_putk (k := us) rfl (by decide) hus) (fun w_53 h_53 => ?_)
    change _ = _ at h_53
    subst w_53
    refine j_aload_n X dX2_put_56 rfl ?_
    refine j_getR X dX2_put_57 ff_X2_18 rfl rfl ?_
    refine j_aload_n X dX2_put_60 rfl ?_
    refine j_getI X dX2_put_61 ff_X2_84 rfl rfl ?_
    change J κ LAY ad 0 0 _ _ (vI (w 25 9) :: _) _
    rw [hu]
    refine j_iload_n X dX2_put_64 rfl ?_
    refine cS3v X mf_X5_put ms_X5_put ml_X2_97 (by decide) (Nat.le_of_ble_eq_true rfl) dX2_put_65 (sp_putk (k := us) rfl (by decide) hus) (fun w_65 h_65 => ?_)
    change _ = _ at h_65
    subst w_65
    refine j_aload_n X dX2_put_68 rfl ?_
    refine j_dup X dX2_put_69 (fun _ h => by cases h) ?_
    refine j_getI X dX2_put_70 ff_X2_84 rfl rfl ?_
    change J κ LAY ad 0 0 _ _ (vI (w 25 9) :: _) _
    rw [hu]
    refine j_iconst X dX2_put_73 ?_
    refine j_iadd X dX2_put_74 ?_
    refine j_putI X dX2_put_75 fp_X2_84 rfl rfl ?_
    refine j_aload_n X dX2_put_78 rfl ?_
    refine j_dup X dX2_put_79 (fun _ h => by cases h) ?_
    refine j_getI X dX2_put_80 ff_X2_107 rfl rfl ?_
    change J κ LAY ad 0 0 _ _ (vI (w 25 8) :: _) _
    rw [hsp]
    refine j_iload X dX2_put_83 rfl ?_
    refine j_aload_n X dX2_put_85 rfl ?_
    refine j_getI X dX2_put_86 ff_X2_104 rfl rfl ?_
    change J κ LAY ad 0 0 _ _ (vI (w 25 7) :: _) _
    refine j_icmp_ne (tgt := 96) X dX2_put_89 (by decide) ⟨by omega, by omega⟩ ⟨by omega, by omega⟩ (fun h_89 => ?_) (fun h_89 => ?_)
    · refine j_iconst X dX2_put_96 ?_
      refine cS1i X mf_X9_yes ms_X9_yes ml_X2_110 (by decide) (Nat.le_of_ble_eq_true rfl) dX2_put_97 (sp_X9_yes (by first | exact Or.inr rfl | exact Or.inl rfl | exact ib_01)) (fun a_97 w_97 h_97 => ?_)
      obtain ⟨_, _⟩ := h_97
      subst a_97
      subst w_97
      refine j_iadd X dX2_put_100 ?_
      refine j_putI X dX2_put_101 fp_X2_107 rfl rfl ?_
      refine j_iconst X dX2_put_104 ?_
      refine s_6 X dX2_put_105 rfl ?_
      have L_107 : ∀ (m : Nat) (t : Nat) (_ : t ≤ 4) (_ : 4 - t < m), J κ LAY ad 0 0 107 [some (vR 25), some (vI x), some (vI y), some (vI q), some (vI (kd9 : Int)), some (vI (s : Int)), some (vI (t : Int))] [] (widP (putB w 25 40 us sp x y q kd9) 40 kd9 x y q t) := by
        intro m
        induction m with
        | zero => intro t h1 h2; exact absurd h2 (Nat.not_lt_zero _)
        | succ m ih107 =>
          intro t h1 h2
          have hstr : -900 ≤ strip t x y q ∧ strip t x y q ≤ 900 := by unfold strip; (repeat' split) <;> omega
          refine j_iload X dX2_put_107 rfl ?_
          refine j_iconst X dX2_put_109 ?_
          refine j_icmp_ge (tgt := 138) X dX2_put_110 (by decide) ⟨by omega, by omega⟩ ⟨by omega, by omega⟩ (fun h_110 => ?_) (fun h_110 => ?_)
          · exact j_return X hR dX2_put_138 (by unfold putW; rw [if_pos (by rw [hst]; exact h_17), show (4 : Nat) = t by omega])
          · refine j_aload_n X dX2_put_113 rfl ?_
            refine j_iload X dX2_put_114 rfl ?_
            refine j_iload X dX2_put_116 rfl ?_
            refine cS2i X mf_X2_row ms_X2_row ml_X2_113 (by decide) (Nat.le_of_ble_eq_true rfl) dX2_put_118 (sp_X2_row) (fun a_118 w_118 h_118 => ?_)
            obtain ⟨_, _⟩ := h_118
            subst a_118
            subst w_118
            refine j_iload X dX2_put_121 rfl ?_
            refine j_iload_n X dX2_put_123 rfl ?_
            refine j_iload_n X dX2_put_124 rfl ?_
            refine j_iload_n X dX2_put_125 rfl ?_
            refine cS4i X mf_X3_strip ms_X3_strip ml_X2_116 (by decide) (Nat.le_of_ble_eq_true rfl) dX2_put_126 (sp_X3_strip ⟨by omega, by omega⟩ ⟨by omega, by omega⟩) (fun a_126 w_126 h_126 => ?_)
            obtain ⟨_, _⟩ := h_126
            subst a_126
            subst w_126
            refine cV2v X mf_X2_widen mv_X2_widen ml_X2_120 (by decide) rfl rfl (Nat.le_of_ble_eq_true rfl) dX2_put_129 (sp_X2_widen_25 (r := 4 * kd9 + t) (by omega) (widP_lz (by decide) hz2 (by omega) hx hy hq t (by omega)) ⟨by omega, by omega⟩) (fun w_129 h_129 => ?_)
            change _ = _ at h_129
            subst w_129
            refine inc_6 X dX2_put_132 rfl ?_
            refine j_goto (tgt := 107) X dX2_put_135 (by decide) ?_
            exact ih107 (t + 1) (by omega) (by omega)
      rw [show wst (wst (wst (wst (wst (wst w 43 s (kd9 : Int)) 40 us x) 41 us y) 42 us q) 25 9 ((us : Int) + 1)) 25 8 (sp + 0) = putB w 25 40 us sp x y q kd9 by unfold putB putA; rw [hst, if_neg (by omega)]]
      exact L_107 5 0 (by omega) (by omega)
    · refine j_iconst X dX2_put_92 ?_
      refine j_goto (tgt := 97) X dX2_put_93 (by decide) ?_
      refine cS1i X mf_X9_yes ms_X9_yes ml_X2_110 (by decide) (Nat.le_of_ble_eq_true rfl) dX2_put_97 (sp_X9_yes (by first | exact Or.inr rfl | exact Or.inl rfl | exact ib_01)) (fun a_97 w_97 h_97 => ?_)
      obtain ⟨_, _⟩ := h_97
      subst a_97
      subst w_97
      refine j_iadd X dX2_put_100 ?_
      refine j_putI X dX2_put_101 fp_X2_107 rfl rfl ?_
      refine j_iconst X dX2_put_104 ?_
      refine s_6 X dX2_put_105 rfl ?_
      have L_107 : ∀ (m : Nat) (t : Nat) (_ : t ≤ 4) (_ : 4 - t < m), J κ LAY ad 0 0 107 [some (vR 25), some (vI x), some (vI y), some (vI q), some (vI (kd9 : Int)), some (vI (s : Int)), some (vI (t : Int))] [] (widP (putB w 25 40 us sp x y q kd9) 40 kd9 x y q t) := by
        intro m
        induction m with
        | zero => intro t h1 h2; exact absurd h2 (Nat.not_lt_zero _)
        | succ m ih107 =>
          intro t h1 h2
          have hstr : -900 ≤ strip t x y q ∧ strip t x y q ≤ 900 := by unfold strip; (repeat' split) <;> omega
          refine j_iload X dX2_put_107 rfl ?_
          refine j_iconst X dX2_put_109 ?_
          refine j_icmp_ge (tgt := 138) X dX2_put_110 (by decide) ⟨by omega, by omega⟩ ⟨by omega, by omega⟩ (fun h_110 => ?_) (fun h_110 => ?_)
          · exact j_return X hR dX2_put_138 (by unfold putW; rw [if_pos (by rw [hst]; exact h_17), show (4 : Nat) = t by omega])
          · refine j_aload_n X dX2_put_113 rfl ?_
            refine j_iload X dX2_put_114 rfl ?_
            refine j_iload X dX2_put_116 rfl ?_
            refine cS2i X mf_X2_row ms_X2_row ml_X2_113 (by decide) (Nat.le_of_ble_eq_true rfl) dX2_put_118 (sp_X2_row) (fun a_118 w_118 h_118 => ?_)
            obtain ⟨_, _⟩ := h_118
            subst a_118
            subst w_118
            refine j_iload X dX2_put_121 rfl ?_
            refine j_iload_n X dX2_put_123 rfl ?_
            refine j_iload_n X dX2_put_124 rfl ?_
            refine j_iload_n X dX2_put_125 rfl ?_
            refine cS4i X mf_X3_strip ms_X3_strip ml_X2_116 (by decide) (Nat.le_of_ble_eq_true rfl) dX2_put_126 (sp_X3_strip ⟨by omega, by omega⟩ ⟨by omega, by omega⟩) (fun a_126 w_126 h_126 => ?_)
            obtain ⟨_, _⟩ := h_126
            subst a_126
            subst w_126
            refine cV2v X mf_X2_widen mv_X2_widen ml_X2_120 (by decide) rfl rfl (Nat.le_of_ble_eq_true rfl) dX2_put_129 (sp_X2_widen_25 (r := 4 * kd9 + t) (by omega) (widP_lz (by decide) hz2 (by omega) hx hy hq t (by omega)) ⟨by omega, by omega⟩) (fun w_129 h_129 => ?_)
            change _ = _ at h_129
            subst w_129
            refine inc_6 X dX2_put_132 rfl ?_
            refine j_goto (tgt := 107) X dX2_put_135 (by decide) ?_
            exact ih107 (t + 1) (by omega) (by omega)
      rw [show wst (wst (wst (wst (wst (wst w 43 s (kd9 : Int)) 40 us x) 41 us y) 42 us q) 25 9 ((us : Int) + 1)) 25 8 (sp + 1) = putB w 25 40 us sp x y q kd9 by unfold putB putA; rw [hst, if_pos (by omega)]]
      exact L_107 5 0 (by omega) (by omega)
  · exact j_return X hR dX2_put_20 (by unfold putW; rw [if_neg (by rw [hst]; exact h_17)])
set_option maxHeartbeats 4000000 in
set_option maxRecDepth 20000 in
theorem sp_X2_fits_26 {sp us : Nat} {sort l : Int} {w : wd} (hu : w 26 9 = (us : Int)) (hsp : w 26 8 = (sp : Int)) (hle : sp ≤ us) (hus : us ≤ 144) (hfk : w 26 7 = 1 ∨ w 26 7 = 2) (hK : ∀ s, s < 1024 → 0 ≤ w 37 s ∧ w 37 s ≤ 2) (hsr : rg sort) : CalI yX2_fits cX2_fits 10 .boolean 2 LAY w [vR 26, vI sort, vI l] (fun r w' => r = ib (fitL w 26 34 sp us sort l) ∧ w' = w) := by
  have hkr : ∀ i, 0 ≤ mspL w 34 sort l i ∧ mspL w 34 sort l i < 1024 := fun i => spot_lt _ _ _
  have hskr : 1 ≤ skF w 26 ∧ skF w 26 ≤ 2 := by unfold skF; split <;> omega
  refine calI_intro (ls := [some (vR 26), some (vI sort), some (vI l), none, none, none, none, none, none, none]) (by decide) (Nat.le_of_ble_eq_true rfl) rfl (fun κ ad X hR => ?_)
  have C_67 : ∀ (m : Nat) (v un : Int) (lo hi i : Nat), hi ≤ us → (1 ≤ un ∧ un ≤ 2) → (lo ≤ i ∧ i ≤ us) → (∀ j, lo ≤ j → j < i → w 37 (mspL w 34 sort l j).toNat ≠ un) → ((∀ j, lo ≤ j → j < hi → w 37 (mspL w 34 sort l j).toNat ≠ un) ↔ fitL w 26 34 sp us sort l) → hi - i < m → J κ LAY ad 0 0 67 [some (vR 26), some (vI sort), some (vI l), some (vI v), some (vI (hi : Int)), some (vI un), some (vI (i : Int)), none, none, none] [] w := by
    intro m
    induction m
    · intro v un lo hi i h1 h2 h3 h4 h5 h6
      exact absurd h6 (Nat.not_lt_zero _)
    rename_i m ih67
    intro v un lo hi i h1 h2 h3 h4 h5 h6
    refine j_iload X dX2_fits_67 rfl ?_
    refine j_iload X dX2_fits_69 rfl ?_
    refine j_icmp_ge (tgt := 168) X dX2_fits_71 (by decide) ⟨by omega, by omega⟩ ⟨by omega, by omega⟩ (fun h_71 => ?_) (fun h_71 => ?_)
    · refine j_iconst X dX2_fits_168 ?_
      exact j_zreturn X hR dX2_fits_169 (by first | exact Or.inl rfl | exact Or.inr rfl | exact ib_01) ⟨(ib_t (h5.mp (fun j q1 q2 => h4 j q1 (by omega)))).symm, rfl⟩
    · have hii : i < us := by omega
      have hmm := hkr i
      have hKK := hK (mspL w 34 sort l i).toNat (by omega)
      refine j_iload_n X dX2_fits_74 rfl ?_
      refine j_iload_n X dX2_fits_75 rfl ?_
      refine j_aload_n X dX2_fits_76 rfl ?_
      refine j_getR X dX2_fits_77 ff_X2_9 rfl rfl ?_
      refine j_iload X dX2_fits_80 rfl ?_
      refine cS2i X mf_X5_get ms_X5_get ml_X2_87 (by decide) (Nat.le_of_ble_eq_true rfl) dX2_fits_82 (sp_getk (k := i) rfl (by decide) (by omega)) (fun a_82 w_82 h_82 => ?_)
      obtain ⟨_, _⟩ := h_82
      subst a_82
      subst w_82
      refine j_aload_n X dX2_fits_85 rfl ?_
      refine j_getR X dX2_fits_86 ff_X2_15 rfl rfl ?_
      refine j_iload X dX2_fits_89 rfl ?_
      refine cS2i X mf_X5_get ms_X5_get ml_X2_87 (by decide) (Nat.le_of_ble_eq_true rfl) dX2_fits_91 (sp_getk (k := i) rfl (by decide) (by omega)) (fun a_91 w_91 h_91 => ?_)
      obtain ⟨_, _⟩ := h_91
      subst a_91
      subst w_91
      refine cS4i X mf_X3_mirrorX ms_X3_mirrorX ml_X2_142 (by decide) (Nat.le_of_ble_eq_true rfl) dX2_fits_94 (sp_X3_mirrorX hsr) (fun a_94 w_94 h_94 => ?_)
      obtain ⟨_, _⟩ := h_94
      subst a_94
      subst w_94
      refine s_7 X dX2_fits_97 rfl ?_
      refine j_iload_n X dX2_fits_99 rfl ?_
      refine j_iload_n X dX2_fits_100 rfl ?_
      refine j_aload_n X dX2_fits_101 rfl ?_
      refine j_getR X dX2_fits_102 ff_X2_9 rfl rfl ?_
      refine j_iload X dX2_fits_105 rfl ?_
      refine cS2i X mf_X5_get ms_X5_get ml_X2_87 (by decide) (Nat.le_of_ble_eq_true rfl) dX2_fits_107 (sp_getk (k := i) rfl (by decide) (by omega)) (fun a_107 w_107 h_107 => ?_)
      obtain ⟨_, _⟩ := h_107
      subst a_107
      subst w_107
      refine j_aload_n X dX2_fits_110 rfl ?_
      refine j_getR X dX2_fits_111 ff_X2_15 rfl rfl ?_
      refine j_iload X dX2_fits_114 rfl ?_
      refine cS2i X mf_X5_get ms_X5_get ml_X2_87 (by decide) (Nat.le_of_ble_eq_true rfl) dX2_fits_116 (sp_getk (k := i) rfl (by decide) (by omega)) (fun a_116 w_116 h_116 => ?_)
      obtain ⟨_, _⟩ := h_116
      subst a_116
      subst w_116
      refine cS4i X mf_X3_mirrorY ms_X3_mirrorY ml_X2_145 (by decide) (Nat.le_of_ble_eq_true rfl) dX2_fits_119 (sp_X3_mirrorY hsr) (fun a_119 w_119 h_119 => ?_)
      obtain ⟨_, _⟩ := h_119
      subst a_119
      subst w_119
      refine s_8 X dX2_fits_122 rfl ?_
      refine j_iload_n X dX2_fits_124 rfl ?_
      refine j_aload_n X dX2_fits_125 rfl ?_
      refine j_getR X dX2_fits_126 ff_X2_18 rfl rfl ?_
      refine j_iload X dX2_fits_129 rfl ?_
      refine cS2i X mf_X5_get ms_X5_get ml_X2_87 (by decide) (Nat.le_of_ble_eq_true rfl) dX2_fits_131 (sp_getk (k := i) rfl (by decide) (by omega)) (fun a_131 w_131 h_131 => ?_)
      obtain ⟨_, _⟩ := h_131
      subst a_131
      subst w_131
      refine cS2i X mf_X3_mirrorQuarter ms_X3_mirrorQuarter ml_X2_148 (by decide) (Nat.le_of_ble_eq_true rfl) dX2_fits_134 (sp_X3_mirrorQuarter hsr) (fun a_134 w_134 h_134 => ?_)
      obtain ⟨_, _⟩ := h_134
      subst a_134
      subst w_134
      refine s_9 X dX2_fits_137 rfl ?_
      refine j_aload_n X dX2_fits_139 rfl ?_
      refine j_getR X dX2_fits_140 ff_X2_23 rfl rfl ?_
      refine j_iload X dX2_fits_143 rfl ?_
      refine j_iload X dX2_fits_145 rfl ?_
      refine j_iload X dX2_fits_147 rfl ?_
      refine cS3i X mf_X3_spot ms_X3_spot ml_X2_93 (by decide) (Nat.le_of_ble_eq_true rfl) dX2_fits_149 (sp_X3_spot) (fun a_149 w_149 h_149 => ?_)
      obtain ⟨_, _⟩ := h_149
      subst a_149
      subst w_149
      refine cS2i X mf_X5_get ms_X5_get ml_X2_87 (by decide) (Nat.le_of_ble_eq_true rfl) dX2_fits_152 (sp_X5_get rfl (by decide) ⟨Int.le_trans (by decide) hmm.1, Int.le_of_lt (Int.lt_of_lt_of_le hmm.2 (by decide))⟩) (fun a_152 w_152 h_152 => ?_)
      obtain ⟨_, _⟩ := h_152
      subst a_152
      subst w_152
      rw [show rget (w 37) 1024 (spot (mirX sort l (w 34 i) (w 35 i)) (mirY sort l (w 34 i) (w 35 i)) (mirQ sort (w 36 i))) = w 37 (mspL w 34 sort l i).toNat by unfold rget; exact if_pos hmm]
      refine j_iload X dX2_fits_155 rfl ?_
      refine j_icmp_ne (tgt := 162) X dX2_fits_157 (by decide) ⟨by omega, by omega⟩ ⟨by omega, by omega⟩ (fun h_157 => ?_) (fun h_157 => ?_)
      · refine inc_6 X dX2_fits_162 rfl ?_
        refine j_goto (tgt := 67) X dX2_fits_165 (by decide) ?_
        refine fg_7 ?_
        refine fg_8 ?_
        refine fg_9 ?_
        exact ih67 v un lo hi (i + 1) h1 h2 (by omega) (fun j q1 q2 => by by_cases z : j = i; rw [z]; exact h_157; exact h4 j q1 (by omega)) h5 (by omega)
      · refine j_iconst X dX2_fits_160 ?_
        exact j_zreturn X hR dX2_fits_161 (by first | exact Or.inl rfl | exact Or.inr rfl | exact ib_01) ⟨(ib_f (fun z => h5.mpr z i h3.1 (by omega) h_157)).symm, rfl⟩
  refine j_iconst X dX2_fits_0 ?_
  refine j_aload_n X dX2_fits_1 rfl ?_
  refine j_getI X dX2_fits_2 ff_X2_107 rfl rfl ?_
  refine j_imul X dX2_fits_5 ?_
  refine j_aload_n X dX2_fits_6 rfl ?_
  refine j_getI X dX2_fits_7 ff_X2_84 rfl rfl ?_
  refine j_icmp_gt (tgt := 17) X dX2_fits_10 (by decide) ⟨by omega, by omega⟩ ⟨by omega, by omega⟩ (fun h_10 => ?_) (fun h_10 => ?_)
  · refine j_iconst X dX2_fits_17 ?_
    refine s_3 X dX2_fits_18 rfl ?_
    refine j_iload_n X dX2_fits_19 rfl ?_
    refine jt_if_eq (tgt := 30) X dX2_fits_20 (by decide) ⟨by omega, by omega⟩ (by first | decide | omega) ?_
    refine j_aload_n X dX2_fits_30 rfl ?_
    refine j_getI X dX2_fits_31 ff_X2_84 rfl rfl ?_
    refine s_4 X dX2_fits_34 rfl ?_
    refine j_iload_n X dX2_fits_36 rfl ?_
    refine jt_if_eq (tgt := 47) X dX2_fits_37 (by decide) ⟨by omega, by omega⟩ (by first | decide | omega) ?_
    refine j_aload_n X dX2_fits_47 rfl ?_
    refine j_getI X dX2_fits_48 ff_X2_104 rfl rfl ?_
    refine s_5 X dX2_fits_51 rfl ?_
    refine j_iload_n X dX2_fits_53 rfl ?_
    refine jt_if_eq (tgt := 61) X dX2_fits_54 (by decide) ⟨by omega, by omega⟩ (by first | decide | omega) ?_
    refine j_aload_n X dX2_fits_61 rfl ?_
    refine j_getI X dX2_fits_62 ff_X2_107 rfl rfl ?_
    refine s_6 X dX2_fits_65 rfl ?_
    rw [hsp, hu]
    exact C_67 (us + 1) _ _ sp us sp (Nat.le_refl _) (by omega) ⟨Nat.le_refl _, hle⟩ (fun j q1 q2 => absurd q2 (by omega)) ⟨fun z => Or.inr ⟨by omega, fun i q1 q2 => z i q2 q1⟩, fun z => by rcases z with z | z; exact absurd z.1 (by omega); exact fun j q1 q2 => z.2 j q2 q1⟩ (by omega)
  · refine j_iconst X dX2_fits_13 ?_
    refine j_goto (tgt := 18) X dX2_fits_14 (by decide) ?_
    refine s_3 X dX2_fits_18 rfl ?_
    refine j_iload_n X dX2_fits_19 rfl ?_
    refine jf_if_eq (tgt := 30) X dX2_fits_20 (by decide) ⟨by omega, by omega⟩ (by first | decide | omega) ?_
    refine j_aload_n X dX2_fits_23 rfl ?_
    refine j_getI X dX2_fits_24 ff_X2_107 rfl rfl ?_
    refine j_goto (tgt := 34) X dX2_fits_27 (by decide) ?_
    refine s_4 X dX2_fits_34 rfl ?_
    refine j_iload_n X dX2_fits_36 rfl ?_
    refine jf_if_eq (tgt := 47) X dX2_fits_37 (by decide) ⟨by omega, by omega⟩ (by first | decide | omega) ?_
    refine j_aload_n X dX2_fits_40 rfl ?_
    refine cV0i X mf_X2_secondKind mv_X2_secondKind ml_X2_138 (by decide) rfl rfl (Nat.le_of_ble_eq_true rfl) dX2_fits_41 (sp_X2_secondKind_26 ⟨by omega, by omega⟩) (fun a_41 w_41 h_41 => ?_)
    obtain ⟨_, _⟩ := h_41
    subst a_41
    subst w_41
    refine j_goto (tgt := 51) X dX2_fits_44 (by decide) ?_
    refine s_5 X dX2_fits_51 rfl ?_
    refine j_iload_n X dX2_fits_53 rfl ?_
    refine jf_if_eq (tgt := 61) X dX2_fits_54 (by decide) ⟨by omega, by omega⟩ (by first | decide | omega) ?_
    refine j_iconst X dX2_fits_57 ?_
    refine j_goto (tgt := 65) X dX2_fits_58 (by decide) ?_
    refine s_6 X dX2_fits_65 rfl ?_
    rw [hsp]
    exact C_67 (us + 1) _ _ 0 sp 0 hle (by omega) ⟨Nat.le_refl _, Nat.zero_le _⟩ (fun j q1 q2 => absurd q2 (by omega)) ⟨fun z => Or.inl ⟨by omega, fun i q1 => z i (Nat.zero_le _) q1⟩, fun z => by rcases z with z | z; exact fun j q1 q2 => z.2 j q2; exact absurd (show 2 * sp ≤ us by omega) z.1⟩ (by omega)
set_option maxHeartbeats 4000000 in
set_option maxRecDepth 20000 in
theorem sp_X2_widen_26 {r : Nat} {t : Int} {w : wd} (hr : r < 12) (hz : LzO w 34) (ht : rg t) : CalV yX2_widen cX2_widen 3 2 LAY w [vR 26, vI (r : Int), vI t] (fun w' => w' = widW w 34 r t) := by
  have h1 := hz r hr
  simp only [show 34 + 4 = 38 from rfl, show 34 + 5 = 39 from rfl] at h1
  refine calV_intro (ls := [some (vR 26), some (vI (r : Int)), some (vI t)]) (by decide) (Nat.le_of_ble_eq_true rfl) rfl (fun κ ad X hR => ?_)
  refine j_aload_n X dX2_widen_0 rfl ?_
  refine j_getR X dX2_widen_1 ff_X2_26 rfl rfl ?_
  refine j_iload_n X dX2_widen_4 rfl ?_
  refine j_aload_n X dX2_widen_5 rfl ?_
  refine j_getR X dX2_widen_6 ff_X2_26 rfl rfl ?_
  refine j_iload_n X dX2_widen_9 rfl ?_
  refine cS2i X mf_X5_get ms_X5_get ml_X2_87 (by decide) (Nat.le_of_ble_eq_true rfl) dX2_widen_10 (sp_getk (k := r) rfl (by decide) hr) (fun a_10 w_10 h_10 => ?_)
  obtain ⟨_, _⟩ := h_10
  subst a_10
  subst w_10
  refine j_iload_n X dX2_widen_13 rfl ?_
  refine j_mmin X csOk_0 mt_X2_124 (by decide) (Nat.le_of_ble_eq_true rfl) dX2_widen_14 ⟨by omega, by omega⟩ ⟨by omega, by omega⟩ ?_
  refine cS3v X mf_X5_put ms_X5_put ml_X2_97 (by decide) (Nat.le_of_ble_eq_true rfl) dX2_widen_17 (sp_putk (k := r) rfl (by decide) hr) (fun w_17 h_17 => ?_)
  change _ = _ at h_17
  subst w_17
  refine j_aload_n X dX2_widen_20 rfl ?_
  refine j_getR X dX2_widen_21 ff_X2_29 rfl rfl ?_
  refine j_iload_n X dX2_widen_24 rfl ?_
  refine j_aload_n X dX2_widen_25 rfl ?_
  refine j_getR X dX2_widen_26 ff_X2_29 rfl rfl ?_
  refine j_iload_n X dX2_widen_29 rfl ?_
  refine cS2i X mf_X5_get ms_X5_get ml_X2_87 (by decide) (Nat.le_of_ble_eq_true rfl) dX2_widen_30 (sp_getk (k := r) rfl (by decide) hr) (fun a_30 w_30 h_30 => ?_)
  obtain ⟨_, _⟩ := h_30
  subst a_30
  subst w_30
  change J κ LAY ad 0 0 _ _ (vI (w 39 r) :: _) _
  refine j_iload_n X dX2_widen_33 rfl ?_
  refine j_mmax X csOk_0 mt_X2_129 (by decide) (Nat.le_of_ble_eq_true rfl) dX2_widen_34 ⟨by omega, by omega⟩ ⟨by omega, by omega⟩ ?_
  refine cS3v X mf_X5_put ms_X5_put ml_X2_97 (by decide) (Nat.le_of_ble_eq_true rfl) dX2_widen_37 (sp_putk (k := r) rfl (by decide) hr) (fun w_37 h_37 => ?_)
  change _ = _ at h_37
  subst w_37
  exact j_return X hR dX2_widen_40 rfl
set_option maxHeartbeats 4000000 in
set_option maxRecDepth 20000 in
theorem sp_X2_clear_26 {us : Nat} {kd9 : Int} {w : wd} (hu : w 26 9 = (us : Int)) (hus : us ≤ 144) : CalV yX2_clear cX2_clear 3 3 LAY w [vR 26, vI kd9] (fun w' => w' = clrW w 26 34 us kd9) := by
  refine calV_intro (ls := [some (vR 26), some (vI kd9), none]) (by decide) (Nat.le_of_ble_eq_true rfl) rfl (fun κ ad X hR => ?_)
  refine j_iconst X dX2_clear_0 ?_
  refine s_2 X dX2_clear_1 rfl ?_
  have L_2 : ∀ (m : Nat) (k : Nat) (_ : k ≤ us) (_ : us - k < m), J κ LAY ad 0 0 2 [some (vR 26), some (vI kd9), some (vI (k : Int))] [] (clrP w 34 k) := by
    intro m
    induction m with
    | zero => intro k h1 h2; exact absurd h2 (Nat.not_lt_zero _)
    | succ m ih2 =>
      intro k h1 h2
      obtain ⟨s, hs, hs2⟩ : ∃ s : Nat, spot (w 34 k) (w 35 k) (w 36 k) = (s : Int) ∧ s < 1024 := ⟨(spot (w 34 k) (w 35 k) (w 36 k)).toNat, by have := spot_lt (w 34 k) (w 35 k) (w 36 k); omega, by have := spot_lt (w 34 k) (w 35 k) (w 36 k); omega⟩
      have hu2 : clrP w 34 k 26 9 = (us : Int) := by rw [← hu]; simp [clrP]
      refine j_iload_n X dX2_clear_2 rfl ?_
      refine j_aload_n X dX2_clear_3 rfl ?_
      refine j_getI X dX2_clear_4 ff_X2_84 rfl rfl ?_
      refine j_icmp_ge (tgt := 51) X dX2_clear_7 (by decide) ⟨by omega, by omega⟩ ⟨by omega, by omega⟩ (fun h_7 => ?_) (fun h_7 => ?_)
      · rw [show k = us by omega]
        refine j_aload_n X dX2_clear_51 rfl ?_
        refine j_getR X dX2_clear_52 ff_X2_26 rfl rfl ?_
        refine j_sipush X dX2_clear_55 (by decide +kernel) ?_
        refine cS2v X mf_X5_fill ms_X5_fill ml_X2_100 (by decide) (Nat.le_of_ble_eq_true rfl) dX2_clear_58 (sp_X5_fill rfl (by decide)) (fun w_58 h_58 => ?_)
        change _ = _ at h_58
        subst w_58
        refine j_aload_n X dX2_clear_61 rfl ?_
        refine j_getR X dX2_clear_62 ff_X2_29 rfl rfl ?_
        refine j_sipush X dX2_clear_65 (by decide +kernel) ?_
        refine cS2v X mf_X5_fill ms_X5_fill ml_X2_100 (by decide) (Nat.le_of_ble_eq_true rfl) dX2_clear_68 (sp_X5_fill rfl (by decide)) (fun w_68 h_68 => ?_)
        change _ = _ at h_68
        subst w_68
        refine j_aload_n X dX2_clear_71 rfl ?_
        refine j_iload_n X dX2_clear_72 rfl ?_
        refine j_putI X dX2_clear_73 fp_X2_104 rfl rfl ?_
        refine j_aload_n X dX2_clear_76 rfl ?_
        refine j_iconst X dX2_clear_77 ?_
        refine j_putI X dX2_clear_78 fp_X2_107 rfl rfl ?_
        refine j_aload_n X dX2_clear_81 rfl ?_
        refine j_iconst X dX2_clear_82 ?_
        refine j_putI X dX2_clear_83 fp_X2_84 rfl rfl ?_
        exact j_return X hR dX2_clear_86 rfl
      · refine j_aload_n X dX2_clear_10 rfl ?_
        refine j_getR X dX2_clear_11 ff_X2_23 rfl rfl ?_
        refine j_aload_n X dX2_clear_14 rfl ?_
        refine j_getR X dX2_clear_15 ff_X2_9 rfl rfl ?_
        refine j_iload_n X dX2_clear_18 rfl ?_
        refine cS2i X mf_X5_get ms_X5_get ml_X2_87 (by decide) (Nat.le_of_ble_eq_true rfl) dX2_clear_19 (sp_getk (k := k) rfl (by decide) (by omega)) (fun a_19 w_19 h_19 => ?_)
        obtain ⟨_, _⟩ := h_19
        subst a_19
        subst w_19
        refine j_aload_n X dX2_clear_22 rfl ?_
        refine j_getR X dX2_clear_23 ff_X2_15 rfl rfl ?_
        refine j_iload_n X dX2_clear_26 rfl ?_
        refine cS2i X mf_X5_get ms_X5_get ml_X2_87 (by decide) (Nat.le_of_ble_eq_true rfl) dX2_clear_27 (sp_getk (k := k) rfl (by decide) (by omega)) (fun a_27 w_27 h_27 => ?_)
        obtain ⟨_, _⟩ := h_27
        subst a_27
        subst w_27
        refine j_aload_n X dX2_clear_30 rfl ?_
        refine j_getR X dX2_clear_31 ff_X2_18 rfl rfl ?_
        refine j_iload_n X dX2_clear_34 rfl ?_
        refine cS2i X mf_X5_get ms_X5_get ml_X2_87 (by decide) (Nat.le_of_ble_eq_true rfl) dX2_clear_35 (sp_getk (k := k) rfl (by decide) (by omega)) (fun a_35 w_35 h_35 => ?_)
        obtain ⟨_, _⟩ := h_35
        subst a_35
        subst w_35
        refine cS3i X mf_X3_spot ms_X3_spot ml_X2_93 (by decide) (Nat.le_of_ble_eq_true rfl) dX2_clear_38 (sp_X3_spot) (fun a_38 w_38 h_38 => ?_)
        obtain ⟨_, _⟩ := h_38
        subst a_38
        subst w_38
        rw [show spot (clrP w 34 k 34 k) (clrP w 34 k 35 k) (clrP w 34 k 36 k) = (s : Int) by rw [← hs]; simp [clrP]]
        refine j_iconst X dX2_clear_41 ?_
        refine cS3v X mf_X5_put ms_X5_put ml_X2_97 (by decide) (Nat.le_of_ble_eq_true rfl) dX2_clear_42 (sp_putk (k := s) rfl (by decide) hs2) (fun w_42 h_42 => ?_)
        change _ = _ at h_42
        subst w_42
        refine inc_2 X dX2_clear_45 rfl ?_
        refine j_goto (tgt := 2) X dX2_clear_48 (by decide) ?_
        rw [clrP_s hs hs2]
        exact ih2 (k + 1) (by omega) (by omega)
  have h0 := L_2 (us + 1) 0 (by omega) (by omega)
  rw [clrP_0] at h0
  exact h0
set_option maxHeartbeats 4000000 in
set_option maxRecDepth 20000 in
theorem sp_X2_put_26 {us kd9 : Nat} {sp x y q : Int} {w : wd} (hu : w 26 9 = (us : Int)) (hsp : w 26 8 = sp) (hus : us < 144) (hfk : w 26 7 = 1 ∨ w 26 7 = 2) (hK : ∀ s, s < 1024 → 0 ≤ w 37 s ∧ w 37 s ≤ 2) (hz : LzO w 34) (hkd : kd9 = 1 ∨ kd9 = 2) (hx : -400 ≤ x ∧ x ≤ 400) (hy : -400 ≤ y ∧ y ≤ 400) (hq : 0 ≤ q ∧ q ≤ 3) : CalV yX2_put cX2_put 7 3 LAY w [vR 26, vI x, vI y, vI q, vI (kd9 : Int)] (fun w' => w' = putW w 26 34 us sp x y q kd9) := by
  obtain ⟨s, hs, hs2⟩ : ∃ s : Nat, spot x y q = (s : Int) ∧ s < 1024 := ⟨(spot x y q).toNat, by have := spot_lt x y q; omega, by have := spot_lt x y q; omega⟩
  have hst : (spot x y q).toNat = s := by rw [hs]; rfl
  have hKs := hK s hs2
  have hz2 : LzO (putB w 26 34 us sp x y q kd9) 34 := hz
  refine calV_intro (ls := [some (vR 26), some (vI x), some (vI y), some (vI q), some (vI (kd9 : Int)), none, none]) (by decide) (Nat.le_of_ble_eq_true rfl) rfl (fun κ ad X hR => ?_)
  refine j_iload_n X dX2_put_0 rfl ?_
  refine j_iload_n X dX2_put_1 rfl ?_
  refine j_iload_n X dX2_put_2 rfl ?_
  refine cS3i X mf_X3_spot ms_X3_spot ml_X2_93 (by decide) (Nat.le_of_ble_eq_true rfl) dX2_put_3 (sp_X3_spot) (fun a_3 w_3 h_3 => ?_)
  obtain ⟨_, _⟩ := h_3
  subst a_3
  subst w_3
  rw [hs]
  refine s_5 X dX2_put_6 rfl ?_
  refine j_aload_n X dX2_put_8 rfl ?_
  refine j_getR X dX2_put_9 ff_X2_23 rfl rfl ?_
  refine j_iload X dX2_put_12 rfl ?_
  refine cS2i X mf_X5_get ms_X5_get ml_X2_87 (by decide) (Nat.le_of_ble_eq_true rfl) dX2_put_14 (sp_getk (k := s) rfl (by decide) hs2) (fun a_14 w_14 h_14 => ?_)
  obtain ⟨_, _⟩ := h_14
  subst a_14
  subst w_14
  refine j_if_eq (tgt := 21) X dX2_put_17 (by decide) ⟨by omega, by omega⟩ (fun h_17 => ?_) (fun h_17 => ?_)
  · refine j_aload_n X dX2_put_21 rfl ?_
    refine j_getR X dX2_put_22 ff_X2_23 rfl rfl ?_
    refine j_iload X dX2_put_25 rfl ?_
    refine j_iload X dX2_put_27 rfl ?_
    refine cS3v X mf_X5_put ms_X5_put ml_X2_97 (by decide) (Nat.le_of_ble_eq_true rfl) dX2_put_29 (sp_putk (k := s) rfl (by decide) hs2) (fun w_29 h_29 => ?_)
    change _ = _ at h_29
    subst w_29
    refine j_aload_n X dX2_put_32 rfl ?_
    refine j_getR X dX2_put_33 ff_X2_9 rfl rfl ?_
    refine j_aload_n X dX2_put_36 rfl ?_
    refine j_getI X dX2_put_37 ff_X2_84 rfl rfl ?_
    change J κ LAY ad 0 0 _ _ (vI (w 26 9) :: _) _
    rw [hu]
    refine j_iload_n X dX2_put_40 rfl ?_
    refine cS3v X mf_X5_put ms_X5_put ml_X2_97 (by decide) (Nat.le_of_ble_eq_true rfl) dX2_put_41 (sp_putk (k := us) rfl (by decide) hus) (fun w_41 h_41 => ?_)
    change _ = _ at h_41
    subst w_41
    refine j_aload_n X dX2_put_44 rfl ?_
    refine j_getR X dX2_put_45 ff_X2_15 rfl rfl ?_
    refine j_aload_n X dX2_put_48 rfl ?_
    refine j_getI X dX2_put_49 ff_X2_84 rfl rfl ?_
    change J κ LAY ad 0 0 _ _ (vI (w 26 9) :: _) _
    rw [hu]
    refine j_iload_n X dX2_put_52 rfl ?_
    refine cS3v X mf_X5_put ms_X5_put ml_X2_97 (by decide) (Nat.le_of_ble_eq_true rfl) dX2_put_53 (sp_putk (k := us) rfl (by decide) hus) (fun w_53 h_53 => ?_)
    change _ = _ at h_53
    subst w_53
    refine j_aload_n X dX2_put_56 rfl ?_
    refine j_getR X dX2_put_57 ff_X2_18 rfl rfl ?_
    refine j_aload_n X dX2_put_60 rfl ?_
    refine j_getI X dX2_put_61 ff_X2_84 rfl rfl ?_
    change J κ LAY ad 0 0 _ _ (vI (w 26 9) :: _) _
    rw [hu]
    refine j_iload_n X dX2_put_64 rfl ?_
    refine cS3v X mf_X5_put ms_X5_put ml_X2_97 (by decide) (Nat.le_of_ble_eq_true rfl) dX2_put_65 (sp_putk (k := us) rfl (by decide) hus) (fun w_65 h_65 => ?_)
    change _ = _ at h_65
    subst w_65
    refine j_aload_n X dX2_put_68 rfl ?_
    refine j_dup X dX2_put_69 (fun _ h => by cases h) ?_
    refine j_getI X dX2_put_70 ff_X2_84 rfl rfl ?_
    change J κ LAY ad 0 0 _ _ (vI (w 26 9) :: _) _
    rw [hu]
    refine j_iconst X dX2_put_73 ?_
    refine j_iadd X dX2_put_74 ?_
    refine j_putI X dX2_put_75 fp_X2_84 rfl rfl ?_
    refine j_aload_n X dX2_put_78 rfl ?_
    refine j_dup X dX2_put_79 (fun _ h => by cases h) ?_
    refine j_getI X dX2_put_80 ff_X2_107 rfl rfl ?_
    change J κ LAY ad 0 0 _ _ (vI (w 26 8) :: _) _
    rw [hsp]
    refine j_iload X dX2_put_83 rfl ?_
    refine j_aload_n X dX2_put_85 rfl ?_
    refine j_getI X dX2_put_86 ff_X2_104 rfl rfl ?_
    change J κ LAY ad 0 0 _ _ (vI (w 26 7) :: _) _
    refine j_icmp_ne (tgt := 96) X dX2_put_89 (by decide) ⟨by omega, by omega⟩ ⟨by omega, by omega⟩ (fun h_89 => ?_) (fun h_89 => ?_)
    · refine j_iconst X dX2_put_96 ?_
      refine cS1i X mf_X9_yes ms_X9_yes ml_X2_110 (by decide) (Nat.le_of_ble_eq_true rfl) dX2_put_97 (sp_X9_yes (by first | exact Or.inr rfl | exact Or.inl rfl | exact ib_01)) (fun a_97 w_97 h_97 => ?_)
      obtain ⟨_, _⟩ := h_97
      subst a_97
      subst w_97
      refine j_iadd X dX2_put_100 ?_
      refine j_putI X dX2_put_101 fp_X2_107 rfl rfl ?_
      refine j_iconst X dX2_put_104 ?_
      refine s_6 X dX2_put_105 rfl ?_
      have L_107 : ∀ (m : Nat) (t : Nat) (_ : t ≤ 4) (_ : 4 - t < m), J κ LAY ad 0 0 107 [some (vR 26), some (vI x), some (vI y), some (vI q), some (vI (kd9 : Int)), some (vI (s : Int)), some (vI (t : Int))] [] (widP (putB w 26 34 us sp x y q kd9) 34 kd9 x y q t) := by
        intro m
        induction m with
        | zero => intro t h1 h2; exact absurd h2 (Nat.not_lt_zero _)
        | succ m ih107 =>
          intro t h1 h2
          have hstr : -900 ≤ strip t x y q ∧ strip t x y q ≤ 900 := by unfold strip; (repeat' split) <;> omega
          refine j_iload X dX2_put_107 rfl ?_
          refine j_iconst X dX2_put_109 ?_
          refine j_icmp_ge (tgt := 138) X dX2_put_110 (by decide) ⟨by omega, by omega⟩ ⟨by omega, by omega⟩ (fun h_110 => ?_) (fun h_110 => ?_)
          · exact j_return X hR dX2_put_138 (by unfold putW; rw [if_pos (by rw [hst]; exact h_17), show (4 : Nat) = t by omega])
          · refine j_aload_n X dX2_put_113 rfl ?_
            refine j_iload X dX2_put_114 rfl ?_
            refine j_iload X dX2_put_116 rfl ?_
            refine cS2i X mf_X2_row ms_X2_row ml_X2_113 (by decide) (Nat.le_of_ble_eq_true rfl) dX2_put_118 (sp_X2_row) (fun a_118 w_118 h_118 => ?_)
            obtain ⟨_, _⟩ := h_118
            subst a_118
            subst w_118
            refine j_iload X dX2_put_121 rfl ?_
            refine j_iload_n X dX2_put_123 rfl ?_
            refine j_iload_n X dX2_put_124 rfl ?_
            refine j_iload_n X dX2_put_125 rfl ?_
            refine cS4i X mf_X3_strip ms_X3_strip ml_X2_116 (by decide) (Nat.le_of_ble_eq_true rfl) dX2_put_126 (sp_X3_strip ⟨by omega, by omega⟩ ⟨by omega, by omega⟩) (fun a_126 w_126 h_126 => ?_)
            obtain ⟨_, _⟩ := h_126
            subst a_126
            subst w_126
            refine cV2v X mf_X2_widen mv_X2_widen ml_X2_120 (by decide) rfl rfl (Nat.le_of_ble_eq_true rfl) dX2_put_129 (sp_X2_widen_26 (r := 4 * kd9 + t) (by omega) (widP_lz (by decide) hz2 (by omega) hx hy hq t (by omega)) ⟨by omega, by omega⟩) (fun w_129 h_129 => ?_)
            change _ = _ at h_129
            subst w_129
            refine inc_6 X dX2_put_132 rfl ?_
            refine j_goto (tgt := 107) X dX2_put_135 (by decide) ?_
            exact ih107 (t + 1) (by omega) (by omega)
      rw [show wst (wst (wst (wst (wst (wst w 37 s (kd9 : Int)) 34 us x) 35 us y) 36 us q) 26 9 ((us : Int) + 1)) 26 8 (sp + 0) = putB w 26 34 us sp x y q kd9 by unfold putB putA; rw [hst, if_neg (by omega)]]
      exact L_107 5 0 (by omega) (by omega)
    · refine j_iconst X dX2_put_92 ?_
      refine j_goto (tgt := 97) X dX2_put_93 (by decide) ?_
      refine cS1i X mf_X9_yes ms_X9_yes ml_X2_110 (by decide) (Nat.le_of_ble_eq_true rfl) dX2_put_97 (sp_X9_yes (by first | exact Or.inr rfl | exact Or.inl rfl | exact ib_01)) (fun a_97 w_97 h_97 => ?_)
      obtain ⟨_, _⟩ := h_97
      subst a_97
      subst w_97
      refine j_iadd X dX2_put_100 ?_
      refine j_putI X dX2_put_101 fp_X2_107 rfl rfl ?_
      refine j_iconst X dX2_put_104 ?_
      refine s_6 X dX2_put_105 rfl ?_
      have L_107 : ∀ (m : Nat) (t : Nat) (_ : t ≤ 4) (_ : 4 - t < m), J κ LAY ad 0 0 107 [some (vR 26), some (vI x), some (vI y), some (vI q), some (vI (kd9 : Int)), some (vI (s : Int)), some (vI (t : Int))] [] (widP (putB w 26 34 us sp x y q kd9) 34 kd9 x y q t) := by
        intro m
        induction m with
        | zero => intro t h1 h2; exact absurd h2 (Nat.not_lt_zero _)
        | succ m ih107 =>
          intro t h1 h2
          have hstr : -900 ≤ strip t x y q ∧ strip t x y q ≤ 900 := by unfold strip; (repeat' split) <;> omega
          refine j_iload X dX2_put_107 rfl ?_
          refine j_iconst X dX2_put_109 ?_
          refine j_icmp_ge (tgt := 138) X dX2_put_110 (by decide) ⟨by omega, by omega⟩ ⟨by omega, by omega⟩ (fun h_110 => ?_) (fun h_110 => ?_)
          · exact j_return X hR dX2_put_138 (by unfold putW; rw [if_pos (by rw [hst]; exact h_17), show (4 : Nat) = t by omega])
          · refine j_aload_n X dX2_put_113 rfl ?_
            refine j_iload X dX2_put_114 rfl ?_
            refine j_iload X dX2_put_116 rfl ?_
            refine cS2i X mf_X2_row ms_X2_row ml_X2_113 (by decide) (Nat.le_of_ble_eq_true rfl) dX2_put_118 (sp_X2_row) (fun a_118 w_118 h_118 => ?_)
            obtain ⟨_, _⟩ := h_118
            subst a_118
            subst w_118
            refine j_iload X dX2_put_121 rfl ?_
            refine j_iload_n X dX2_put_123 rfl ?_
            refine j_iload_n X dX2_put_124 rfl ?_
            refine j_iload_n X dX2_put_125 rfl ?_
            refine cS4i X mf_X3_strip ms_X3_strip ml_X2_116 (by decide) (Nat.le_of_ble_eq_true rfl) dX2_put_126 (sp_X3_strip ⟨by omega, by omega⟩ ⟨by omega, by omega⟩) (fun a_126 w_126 h_126 => ?_)
            obtain ⟨_, _⟩ := h_126
            subst a_126
            subst w_126
            refine cV2v X mf_X2_widen mv_X2_widen ml_X2_120 (by decide) rfl rfl (Nat.le_of_ble_eq_true rfl) dX2_put_129 (sp_X2_widen_26 (r := 4 * kd9 + t) (by omega) (widP_lz (by decide) hz2 (by omega) hx hy hq t (by omega)) ⟨by omega, by omega⟩) (fun w_129 h_129 => ?_)
            change _ = _ at h_129
            subst w_129
            refine inc_6 X dX2_put_132 rfl ?_
            refine j_goto (tgt := 107) X dX2_put_135 (by decide) ?_
            exact ih107 (t + 1) (by omega) (by omega)
      rw [show wst (wst (wst (wst (wst (wst w 37 s (kd9 : Int)) 34 us x) 35 us y) 36 us q) 26 9 ((us : Int) + 1)) 26 8 (sp + 1) = putB w 26 34 us sp x y q kd9 by unfold putB putA; rw [hst, if_pos (by omega)]]
      exact L_107 5 0 (by omega) (by omega)
  · exact j_return X hR dX2_put_20 (by unfold putW; rw [if_neg (by rw [hst]; exact h_17)])
set_option maxHeartbeats 4000000 in
set_option maxRecDepth 20000 in
theorem sp_X2_fits_27 {sp us : Nat} {sort l : Int} {w : wd} (hu : w 27 9 = (us : Int)) (hsp : w 27 8 = (sp : Int)) (hle : sp ≤ us) (hus : us ≤ 144) (hfk : w 27 7 = 1 ∨ w 27 7 = 2) (hK : ∀ s, s < 1024 → 0 ≤ w 31 s ∧ w 31 s ≤ 2) (hsr : rg sort) : CalI yX2_fits cX2_fits 10 .boolean 2 LAY w [vR 27, vI sort, vI l] (fun r w' => r = ib (fitL w 27 28 sp us sort l) ∧ w' = w) := by
  have hkr : ∀ i, 0 ≤ mspL w 28 sort l i ∧ mspL w 28 sort l i < 1024 := fun i => spot_lt _ _ _
  have hskr : 1 ≤ skF w 27 ∧ skF w 27 ≤ 2 := by unfold skF; split <;> omega
  refine calI_intro (ls := [some (vR 27), some (vI sort), some (vI l), none, none, none, none, none, none, none]) (by decide) (Nat.le_of_ble_eq_true rfl) rfl (fun κ ad X hR => ?_)
  have C_67 : ∀ (m : Nat) (v un : Int) (lo hi i : Nat), hi ≤ us → (1 ≤ un ∧ un ≤ 2) → (lo ≤ i ∧ i ≤ us) → (∀ j, lo ≤ j → j < i → w 31 (mspL w 28 sort l j).toNat ≠ un) → ((∀ j, lo ≤ j → j < hi → w 31 (mspL w 28 sort l j).toNat ≠ un) ↔ fitL w 27 28 sp us sort l) → hi - i < m → J κ LAY ad 0 0 67 [some (vR 27), some (vI sort), some (vI l), some (vI v), some (vI (hi : Int)), some (vI un), some (vI (i : Int)), none, none, none] [] w := by
    intro m
    induction m
    · intro v un lo hi i h1 h2 h3 h4 h5 h6
      exact absurd h6 (Nat.not_lt_zero _)
    rename_i m ih67
    intro v un lo hi i h1 h2 h3 h4 h5 h6
    refine j_iload X dX2_fits_67 rfl ?_
    refine j_iload X dX2_fits_69 rfl ?_
    refine j_icmp_ge (tgt := 168) X dX2_fits_71 (by decide) ⟨by omega, by omega⟩ ⟨by omega, by omega⟩ (fun h_71 => ?_) (fun h_71 => ?_)
    · refine j_iconst X dX2_fits_168 ?_
      exact j_zreturn X hR dX2_fits_169 (by first | exact Or.inl rfl | exact Or.inr rfl | exact ib_01) ⟨(ib_t (h5.mp (fun j q1 q2 => h4 j q1 (by omega)))).symm, rfl⟩
    · have hii : i < us := by omega
      have hmm := hkr i
      have hKK := hK (mspL w 28 sort l i).toNat (by omega)
      refine j_iload_n X dX2_fits_74 rfl ?_
      refine j_iload_n X dX2_fits_75 rfl ?_
      refine j_aload_n X dX2_fits_76 rfl ?_
      refine j_getR X dX2_fits_77 ff_X2_9 rfl rfl ?_
      refine j_iload X dX2_fits_80 rfl ?_
      refine cS2i X mf_X5_get ms_X5_get ml_X2_87 (by decide) (Nat.le_of_ble_eq_true rfl) dX2_fits_82 (sp_getk (k := i) rfl (by decide) (by omega)) (fun a_82 w_82 h_82 => ?_)
      obtain ⟨_, _⟩ := h_82
      subst a_82
      subst w_82
      refine j_aload_n X dX2_fits_85 rfl ?_
      refine j_getR X dX2_fits_86 ff_X2_15 rfl rfl ?_
      refine j_iload X dX2_fits_89 rfl ?_
      refine cS2i X mf_X5_get ms_X5_get ml_X2_87 (by decide) (Nat.le_of_ble_eq_true rfl) dX2_fits_91 (sp_getk (k := i) rfl (by decide) (by omega)) (fun a_91 w_91 h_91 => ?_)
      obtain ⟨_, _⟩ := h_91
      subst a_91
      subst w_91
      refine cS4i X mf_X3_mirrorX ms_X3_mirrorX ml_X2_142 (by decide) (Nat.le_of_ble_eq_true rfl) dX2_fits_94 (sp_X3_mirrorX hsr) (fun a_94 w_94 h_94 => ?_)
      obtain ⟨_, _⟩ := h_94
      subst a_94
      subst w_94
      refine s_7 X dX2_fits_97 rfl ?_
      refine j_iload_n X dX2_fits_99 rfl ?_
      refine j_iload_n X dX2_fits_100 rfl ?_
      refine j_aload_n X dX2_fits_101 rfl ?_
      refine j_getR X dX2_fits_102 ff_X2_9 rfl rfl ?_
      refine j_iload X dX2_fits_105 rfl ?_
      refine cS2i X mf_X5_get ms_X5_get ml_X2_87 (by decide) (Nat.le_of_ble_eq_true rfl) dX2_fits_107 (sp_getk (k := i) rfl (by decide) (by omega)) (fun a_107 w_107 h_107 => ?_)
      obtain ⟨_, _⟩ := h_107
      subst a_107
      subst w_107
      refine j_aload_n X dX2_fits_110 rfl ?_
      refine j_getR X dX2_fits_111 ff_X2_15 rfl rfl ?_
      refine j_iload X dX2_fits_114 rfl ?_
      refine cS2i X mf_X5_get ms_X5_get ml_X2_87 (by decide) (Nat.le_of_ble_eq_true rfl) dX2_fits_116 (sp_getk (k := i) rfl (by decide) (by omega)) (fun a_116 w_116 h_116 => ?_)
      obtain ⟨_, _⟩ := h_116
      subst a_116
      subst w_116
      refine cS4i X mf_X3_mirrorY ms_X3_mirrorY ml_X2_145 (by decide) (Nat.le_of_ble_eq_true rfl) dX2_fits_119 (sp_X3_mirrorY hsr) (fun a_119 w_119 h_119 => ?_)
      obtain ⟨_, _⟩ := h_119
      subst a_119
      subst w_119
      refine s_8 X dX2_fits_122 rfl ?_
      refine j_iload_n X dX2_fits_124 rfl ?_
      refine j_aload_n X dX2_fits_125 rfl ?_
      refine j_getR X dX2_fits_126 ff_X2_18 rfl rfl ?_
      refine j_iload X dX2_fits_129 rfl ?_
      refine cS2i X mf_X5_get ms_X5_get ml_X2_87 (by decide) (Nat.le_of_ble_eq_true rfl) dX2_fits_131 (sp_getk (k := i) rfl (by decide) (by omega)) (fun a_131 w_131 h_131 => ?_)
      obtain ⟨_, _⟩ := h_131
      subst a_131
      subst w_131
      refine cS2i X mf_X3_mirrorQuarter ms_X3_mirrorQuarter ml_X2_148 (by decide) (Nat.le_of_ble_eq_true rfl) dX2_fits_134 (sp_X3_mirrorQuarter hsr) (fun a_134 w_134 h_134 => ?_)
      obtain ⟨_, _⟩ := h_134
      subst a_134
      subst w_134
      refine s_9 X dX2_fits_137 rfl ?_
      refine j_aload_n X dX2_fits_139 rfl ?_
      refine j_getR X dX2_fits_140 ff_X2_23 rfl rfl ?_
      refine j_iload X dX2_fits_143 rfl ?_
      refine j_iload X dX2_fits_145 rfl ?_
      refine j_iload X dX2_fits_147 rfl ?_
      refine cS3i X mf_X3_spot ms_X3_spot ml_X2_93 (by decide) (Nat.le_of_ble_eq_true rfl) dX2_fits_149 (sp_X3_spot) (fun a_149 w_149 h_149 => ?_)
      obtain ⟨_, _⟩ := h_149
      subst a_149
      subst w_149
      refine cS2i X mf_X5_get ms_X5_get ml_X2_87 (by decide) (Nat.le_of_ble_eq_true rfl) dX2_fits_152 (sp_X5_get rfl (by decide) ⟨Int.le_trans (by decide) hmm.1, Int.le_of_lt (Int.lt_of_lt_of_le hmm.2 (by decide))⟩) (fun a_152 w_152 h_152 => ?_)
      obtain ⟨_, _⟩ := h_152
      subst a_152
      subst w_152
      rw [show rget (w 31) 1024 (spot (mirX sort l (w 28 i) (w 29 i)) (mirY sort l (w 28 i) (w 29 i)) (mirQ sort (w 30 i))) = w 31 (mspL w 28 sort l i).toNat by unfold rget; exact if_pos hmm]
      refine j_iload X dX2_fits_155 rfl ?_
      refine j_icmp_ne (tgt := 162) X dX2_fits_157 (by decide) ⟨by omega, by omega⟩ ⟨by omega, by omega⟩ (fun h_157 => ?_) (fun h_157 => ?_)
      · refine inc_6 X dX2_fits_162 rfl ?_
        refine j_goto (tgt := 67) X dX2_fits_165 (by decide) ?_
        refine fg_7 ?_
        refine fg_8 ?_
        refine fg_9 ?_
        exact ih67 v un lo hi (i + 1) h1 h2 (by omega) (fun j q1 q2 => by by_cases z : j = i; rw [z]; exact h_157; exact h4 j q1 (by omega)) h5 (by omega)
      · refine j_iconst X dX2_fits_160 ?_
        exact j_zreturn X hR dX2_fits_161 (by first | exact Or.inl rfl | exact Or.inr rfl | exact ib_01) ⟨(ib_f (fun z => h5.mpr z i h3.1 (by omega) h_157)).symm, rfl⟩
  refine j_iconst X dX2_fits_0 ?_
  refine j_aload_n X dX2_fits_1 rfl ?_
  refine j_getI X dX2_fits_2 ff_X2_107 rfl rfl ?_
  refine j_imul X dX2_fits_5 ?_
  refine j_aload_n X dX2_fits_6 rfl ?_
  refine j_getI X dX2_fits_7 ff_X2_84 rfl rfl ?_
  refine j_icmp_gt (tgt := 17) X dX2_fits_10 (by decide) ⟨by omega, by omega⟩ ⟨by omega, by omega⟩ (fun h_10 => ?_) (fun h_10 => ?_)
  · refine j_iconst X dX2_fits_17 ?_
    refine s_3 X dX2_fits_18 rfl ?_
    refine j_iload_n X dX2_fits_19 rfl ?_
    refine jt_if_eq (tgt := 30) X dX2_fits_20 (by decide) ⟨by omega, by omega⟩ (by first | decide | omega) ?_
    refine j_aload_n X dX2_fits_30 rfl ?_
    refine j_getI X dX2_fits_31 ff_X2_84 rfl rfl ?_
    refine s_4 X dX2_fits_34 rfl ?_
    refine j_iload_n X dX2_fits_36 rfl ?_
    refine jt_if_eq (tgt := 47) X dX2_fits_37 (by decide) ⟨by omega, by omega⟩ (by first | decide | omega) ?_
    refine j_aload_n X dX2_fits_47 rfl ?_
    refine j_getI X dX2_fits_48 ff_X2_104 rfl rfl ?_
    refine s_5 X dX2_fits_51 rfl ?_
    refine j_iload_n X dX2_fits_53 rfl ?_
    refine jt_if_eq (tgt := 61) X dX2_fits_54 (by decide) ⟨by omega, by omega⟩ (by first | decide | omega) ?_
    refine j_aload_n X dX2_fits_61 rfl ?_
    refine j_getI X dX2_fits_62 ff_X2_107 rfl rfl ?_
    refine s_6 X dX2_fits_65 rfl ?_
    rw [hsp, hu]
    exact C_67 (us + 1) _ _ sp us sp (Nat.le_refl _) (by omega) ⟨Nat.le_refl _, hle⟩ (fun j q1 q2 => absurd q2 (by omega)) ⟨fun z => Or.inr ⟨by omega, fun i q1 q2 => z i q2 q1⟩, fun z => by rcases z with z | z; exact absurd z.1 (by omega); exact fun j q1 q2 => z.2 j q2 q1⟩ (by omega)
  · refine j_iconst X dX2_fits_13 ?_
    refine j_goto (tgt := 18) X dX2_fits_14 (by decide) ?_
    refine s_3 X dX2_fits_18 rfl ?_
    refine j_iload_n X dX2_fits_19 rfl ?_
    refine jf_if_eq (tgt := 30) X dX2_fits_20 (by decide) ⟨by omega, by omega⟩ (by first | decide | omega) ?_
    refine j_aload_n X dX2_fits_23 rfl ?_
    refine j_getI X dX2_fits_24 ff_X2_107 rfl rfl ?_
    refine j_goto (tgt := 34) X dX2_fits_27 (by decide) ?_
    refine s_4 X dX2_fits_34 rfl ?_
    refine j_iload_n X dX2_fits_36 rfl ?_
    refine jf_if_eq (tgt := 47) X dX2_fits_37 (by decide) ⟨by omega, by omega⟩ (by first | decide | omega) ?_
    refine j_aload_n X dX2_fits_40 rfl ?_
    refine cV0i X mf_X2_secondKind mv_X2_secondKind ml_X2_138 (by decide) rfl rfl (Nat.le_of_ble_eq_true rfl) dX2_fits_41 (sp_X2_secondKind_27 ⟨by omega, by omega⟩) (fun a_41 w_41 h_41 => ?_)
    obtain ⟨_, _⟩ := h_41
    subst a_41
    subst w_41
    refine j_goto (tgt := 51) X dX2_fits_44 (by decide) ?_
    refine s_5 X dX2_fits_51 rfl ?_
    refine j_iload_n X dX2_fits_53 rfl ?_
    refine jf_if_eq (tgt := 61) X dX2_fits_54 (by decide) ⟨by omega, by omega⟩ (by first | decide | omega) ?_
    refine j_iconst X dX2_fits_57 ?_
    refine j_goto (tgt := 65) X dX2_fits_58 (by decide) ?_
    refine s_6 X dX2_fits_65 rfl ?_
    rw [hsp]
    exact C_67 (us + 1) _ _ 0 sp 0 hle (by omega) ⟨Nat.le_refl _, Nat.zero_le _⟩ (fun j q1 q2 => absurd q2 (by omega)) ⟨fun z => Or.inl ⟨by omega, fun i q1 => z i (Nat.zero_le _) q1⟩, fun z => by rcases z with z | z; exact fun j q1 q2 => z.2 j q2; exact absurd (show 2 * sp ≤ us by omega) z.1⟩ (by omega)
set_option maxHeartbeats 4000000 in
set_option maxRecDepth 20000 in
theorem sp_X2_widen_27 {r : Nat} {t : Int} {w : wd} (hr : r < 12) (hz : LzO w 28) (ht : rg t) : CalV yX2_widen cX2_widen 3 2 LAY w [vR 27, vI (r : Int), vI t] (fun w' => w' = widW w 28 r t) := by
  have h1 := hz r hr
  simp only [show 28 + 4 = 32 from rfl, show 28 + 5 = 33 from rfl] at h1
  refine calV_intro (ls := [some (vR 27), some (vI (r : Int)), some (vI t)]) (by decide) (Nat.le_of_ble_eq_true rfl) rfl (fun κ ad X hR => ?_)
  refine j_aload_n X dX2_widen_0 rfl ?_
  refine j_getR X dX2_widen_1 ff_X2_26 rfl rfl ?_
  refine j_iload_n X dX2_widen_4 rfl ?_
  refine j_aload_n X dX2_widen_5 rfl ?_
  refine j_getR X dX2_widen_6 ff_X2_26 rfl rfl ?_
  refine j_iload_n X dX2_widen_9 rfl ?_
  refine cS2i X mf_X5_get ms_X5_get ml_X2_87 (by decide) (Nat.le_of_ble_eq_true rfl) dX2_widen_10 (sp_getk (k := r) rfl (by decide) hr) (fun a_10 w_10 h_10 => ?_)
  obtain ⟨_, _⟩ := h_10
  subst a_10
  subst w_10
  refine j_iload_n X dX2_widen_13 rfl ?_
  refine j_mmin X csOk_0 mt_X2_124 (by decide) (Nat.le_of_ble_eq_true rfl) dX2_widen_14 ⟨by omega, by omega⟩ ⟨by omega, by omega⟩ ?_
  refine cS3v X mf_X5_put ms_X5_put ml_X2_97 (by decide) (Nat.le_of_ble_eq_true rfl) dX2_widen_17 (sp_putk (k := r) rfl (by decide) hr) (fun w_17 h_17 => ?_)
  change _ = _ at h_17
  subst w_17
  refine j_aload_n X dX2_widen_20 rfl ?_
  refine j_getR X dX2_widen_21 ff_X2_29 rfl rfl ?_
  refine j_iload_n X dX2_widen_24 rfl ?_
  refine j_aload_n X dX2_widen_25 rfl ?_
  refine j_getR X dX2_widen_26 ff_X2_29 rfl rfl ?_
  refine j_iload_n X dX2_widen_29 rfl ?_
  refine cS2i X mf_X5_get ms_X5_get ml_X2_87 (by decide) (Nat.le_of_ble_eq_true rfl) dX2_widen_30 (sp_getk (k := r) rfl (by decide) hr) (fun a_30 w_30 h_30 => ?_)
  obtain ⟨_, _⟩ := h_30
  subst a_30
  subst w_30
  change J κ LAY ad 0 0 _ _ (vI (w 33 r) :: _) _
  refine j_iload_n X dX2_widen_33 rfl ?_
  refine j_mmax X csOk_0 mt_X2_129 (by decide) (Nat.le_of_ble_eq_true rfl) dX2_widen_34 ⟨by omega, by omega⟩ ⟨by omega, by omega⟩ ?_
  refine cS3v X mf_X5_put ms_X5_put ml_X2_97 (by decide) (Nat.le_of_ble_eq_true rfl) dX2_widen_37 (sp_putk (k := r) rfl (by decide) hr) (fun w_37 h_37 => ?_)
  change _ = _ at h_37
  subst w_37
  exact j_return X hR dX2_widen_40 rfl
set_option maxHeartbeats 4000000 in
set_option maxRecDepth 20000 in
theorem sp_X2_clear_27 {us : Nat} {kd9 : Int} {w : wd} (hu : w 27 9 = (us : Int)) (hus : us ≤ 144) : CalV yX2_clear cX2_clear 3 3 LAY w [vR 27, vI kd9] (fun w' => w' = clrW w 27 28 us kd9) := by
  refine calV_intro (ls := [some (vR 27), some (vI kd9), none]) (by decide) (Nat.le_of_ble_eq_true rfl) rfl (fun κ ad X hR => ?_)
  refine j_iconst X dX2_clear_0 ?_
  refine s_2 X dX2_clear_1 rfl ?_
  have L_2 : ∀ (m : Nat) (k : Nat) (_ : k ≤ us) (_ : us - k < m), J κ LAY ad 0 0 2 [some (vR 27), some (vI kd9), some (vI (k : Int))] [] (clrP w 28 k) := by
    intro m
    induction m with
    | zero => intro k h1 h2; exact absurd h2 (Nat.not_lt_zero _)
    | succ m ih2 =>
      intro k h1 h2
      obtain ⟨s, hs, hs2⟩ : ∃ s : Nat, spot (w 28 k) (w 29 k) (w 30 k) = (s : Int) ∧ s < 1024 := ⟨(spot (w 28 k) (w 29 k) (w 30 k)).toNat, by have := spot_lt (w 28 k) (w 29 k) (w 30 k); omega, by have := spot_lt (w 28 k) (w 29 k) (w 30 k); omega⟩
      have hu2 : clrP w 28 k 27 9 = (us : Int) := by rw [← hu]; simp [clrP]
      refine j_iload_n X dX2_clear_2 rfl ?_
      refine j_aload_n X dX2_clear_3 rfl ?_
      refine j_getI X dX2_clear_4 ff_X2_84 rfl rfl ?_
      refine j_icmp_ge (tgt := 51) X dX2_clear_7 (by decide) ⟨by omega, by omega⟩ ⟨by omega, by omega⟩ (fun h_7 => ?_) (fun h_7 => ?_)
      · rw [show k = us by omega]
        refine j_aload_n X dX2_clear_51 rfl ?_
        refine j_getR X dX2_clear_52 ff_X2_26 rfl rfl ?_
        refine j_sipush X dX2_clear_55 (by decide +kernel) ?_
        refine cS2v X mf_X5_fill ms_X5_fill ml_X2_100 (by decide) (Nat.le_of_ble_eq_true rfl) dX2_clear_58 (sp_X5_fill rfl (by decide)) (fun w_58 h_58 => ?_)
        change _ = _ at h_58
        subst w_58
        refine j_aload_n X dX2_clear_61 rfl ?_
        refine j_getR X dX2_clear_62 ff_X2_29 rfl rfl ?_
        refine j_sipush X dX2_clear_65 (by decide +kernel) ?_
        refine cS2v X mf_X5_fill ms_X5_fill ml_X2_100 (by decide) (Nat.le_of_ble_eq_true rfl) dX2_clear_68 (sp_X5_fill rfl (by decide)) (fun w_68 h_68 => ?_)
        change _ = _ at h_68
        subst w_68
        refine j_aload_n X dX2_clear_71 rfl ?_
        refine j_iload_n X dX2_clear_72 rfl ?_
        refine j_putI X dX2_clear_73 fp_X2_104 rfl rfl ?_
        refine j_aload_n X dX2_clear_76 rfl ?_
        refine j_iconst X dX2_clear_77 ?_
        refine j_putI X dX2_clear_78 fp_X2_107 rfl rfl ?_
        refine j_aload_n X dX2_clear_81 rfl ?_
        refine j_iconst X dX2_clear_82 ?_
        refine j_putI X dX2_clear_83 fp_X2_84 rfl rfl ?_
        exact j_return X hR dX2_clear_86 rfl
      · refine j_aload_n X dX2_clear_10 rfl ?_
        refine j_getR X dX2_clear_11 ff_X2_23 rfl rfl ?_
        refine j_aload_n X dX2_clear_14 rfl ?_
        refine j_getR X dX2_clear_15 ff_X2_9 rfl rfl ?_
        refine j_iload_n X dX2_clear_18 rfl ?_
        refine cS2i X mf_X5_get ms_X5_get ml_X2_87 (by decide) (Nat.le_of_ble_eq_true rfl) dX2_clear_19 (sp_getk (k := k) rfl (by decide) (by omega)) (fun a_19 w_19 h_19 => ?_)
        obtain ⟨_, _⟩ := h_19
        subst a_19
        subst w_19
        refine j_aload_n X dX2_clear_22 rfl ?_
        refine j_getR X dX2_clear_23 ff_X2_15 rfl rfl ?_
        refine j_iload_n X dX2_clear_26 rfl ?_
        refine cS2i X mf_X5_get ms_X5_get ml_X2_87 (by decide) (Nat.le_of_ble_eq_true rfl) dX2_clear_27 (sp_getk (k := k) rfl (by decide) (by omega)) (fun a_27 w_27 h_27 => ?_)
        obtain ⟨_, _⟩ := h_27
        subst a_27
        subst w_27
        refine j_aload_n X dX2_clear_30 rfl ?_
        refine j_getR X dX2_clear_31 ff_X2_18 rfl rfl ?_
        refine j_iload_n X dX2_clear_34 rfl ?_
        refine cS2i X mf_X5_get ms_X5_get ml_X2_87 (by decide) (Nat.le_of_ble_eq_true rfl) dX2_clear_35 (sp_getk (k := k) rfl (by decide) (by omega)) (fun a_35 w_35 h_35 => ?_)
        obtain ⟨_, _⟩ := h_35
        subst a_35
        subst w_35
        refine cS3i X mf_X3_spot ms_X3_spot ml_X2_93 (by decide) (Nat.le_of_ble_eq_true rfl) dX2_clear_38 (sp_X3_spot) (fun a_38 w_38 h_38 => ?_)
        obtain ⟨_, _⟩ := h_38
        subst a_38
        subst w_38
        rw [show spot (clrP w 28 k 28 k) (clrP w 28 k 29 k) (clrP w 28 k 30 k) = (s : Int) by rw [← hs]; simp [clrP]]
        refine j_iconst X dX2_clear_41 ?_
        refine cS3v X mf_X5_put ms_X5_put ml_X2_97 (by decide) (Nat.le_of_ble_eq_true rfl) dX2_clear_42 (sp_putk (k := s) rfl (by decide) hs2) (fun w_42 h_42 => ?_)
        change _ = _ at h_42
        subst w_42
        refine inc_2 X dX2_clear_45 rfl ?_
        refine j_goto (tgt := 2) X dX2_clear_48 (by decide) ?_
        rw [clrP_s hs hs2]
        exact ih2 (k + 1) (by omega) (by omega)
  have h0 := L_2 (us + 1) 0 (by omega) (by omega)
  rw [clrP_0] at h0
  exact h0
set_option maxHeartbeats 4000000 in
set_option maxRecDepth 20000 in
theorem sp_X2_put_27 {us kd9 : Nat} {sp x y q : Int} {w : wd} (hu : w 27 9 = (us : Int)) (hsp : w 27 8 = sp) (hus : us < 144) (hfk : w 27 7 = 1 ∨ w 27 7 = 2) (hK : ∀ s, s < 1024 → 0 ≤ w 31 s ∧ w 31 s ≤ 2) (hz : LzO w 28) (hkd : kd9 = 1 ∨ kd9 = 2) (hx : -400 ≤ x ∧ x ≤ 400) (hy : -400 ≤ y ∧ y ≤ 400) (hq : 0 ≤ q ∧ q ≤ 3) : CalV yX2_put cX2_put 7 3 LAY w [vR 27, vI x, vI y, vI q, vI (kd9 : Int)] (fun w' => w' = putW w 27 28 us sp x y q kd9) := by
  obtain ⟨s, hs, hs2⟩ : ∃ s : Nat, spot x y q = (s : Int) ∧ s < 1024 := ⟨(spot x y q).toNat, by have := spot_lt x y q; omega, by have := spot_lt x y q; omega⟩
  have hst : (spot x y q).toNat = s := by rw [hs]; rfl
  have hKs := hK s hs2
  have hz2 : LzO (putB w 27 28 us sp x y q kd9) 28 := hz
  refine calV_intro (ls := [some (vR 27), some (vI x), some (vI y), some (vI q), some (vI (kd9 : Int)), none, none]) (by decide) (Nat.le_of_ble_eq_true rfl) rfl (fun κ ad X hR => ?_)
  refine j_iload_n X dX2_put_0 rfl ?_
  refine j_iload_n X dX2_put_1 rfl ?_
  refine j_iload_n X dX2_put_2 rfl ?_
  refine cS3i X mf_X3_spot ms_X3_spot ml_X2_93 (by decide) (Nat.le_of_ble_eq_true rfl) dX2_put_3 (sp_X3_spot) (fun a_3 w_3 h_3 => ?_)
  obtain ⟨_, _⟩ := h_3
  subst a_3
  subst w_3
  rw [hs]
  refine s_5 X dX2_put_6 rfl ?_
  refine j_aload_n X dX2_put_8 rfl ?_
  refine j_getR X dX2_put_9 ff_X2_23 rfl rfl ?_
  refine j_iload X dX2_put_12 rfl ?_
  refine cS2i X mf_X5_get ms_X5_get ml_X2_87 (by decide) (Nat.le_of_ble_eq_true rfl) dX2_put_14 (sp_getk (k := s) rfl (by decide) hs2) (fun a_14 w_14 h_14 => ?_)
  obtain ⟨_, _⟩ := h_14
  subst a_14
  subst w_14
  refine j_if_eq (tgt := 21) X dX2_put_17 (by decide) ⟨by omega, by omega⟩ (fun h_17 => ?_) (fun h_17 => ?_)
  · refine j_aload_n X dX2_put_21 rfl ?_
    refine j_getR X dX2_put_22 ff_X2_23 rfl rfl ?_
    refine j_iload X dX2_put_25 rfl ?_
    refine j_iload X dX2_put_27 rfl ?_
    refine cS3v X mf_X5_put ms_X5_put ml_X2_97 (by decide) (Nat.le_of_ble_eq_true rfl) dX2_put_29 (sp_putk (k := s) rfl (by decide) hs2) (fun w_29 h_29 => ?_)
    change _ = _ at h_29
    subst w_29
    refine j_aload_n X dX2_put_32 rfl ?_
    refine j_getR X dX2_put_33 ff_X2_9 rfl rfl ?_
    refine j_aload_n X dX2_put_36 rfl ?_
    refine j_getI X dX2_put_37 ff_X2_84 rfl rfl ?_
    change J κ LAY ad 0 0 _ _ (vI (w 27 9) :: _) _
    rw [hu]
    refine j_iload_n X dX2_put_40 rfl ?_
    refine cS3v X mf_X5_put ms_X5_put ml_X2_97 (by decide) (Nat.le_of_ble_eq_true rfl) dX2_put_41 (sp_putk (k := us) rfl (by decide) hus) (fun w_41 h_41 => ?_)
    change _ = _ at h_41
    subst w_41
    refine j_aload_n X dX2_put_44 rfl ?_
    refine j_getR X dX2_put_45 ff_X2_15 rfl rfl ?_
    refine j_aload_n X dX2_put_48 rfl ?_
    refine j_getI X dX2_put_49 ff_X2_84 rfl rfl ?_
    change J κ LAY ad 0 0 _ _ (vI (w 27 9) :: _) _
    rw [hu]
    refine j_iload_n X dX2_put_52 rfl ?_
    refine cS3v X mf_X5_put ms_X5_put ml_X2_97 (by decide) (Nat.le_of_ble_eq_true rfl) dX2_put_53 (sp_putk (k := us) rfl (by decide) hus) (fun w_53 h_53 => ?_)
    change _ = _ at h_53
    subst w_53
    refine j_aload_n X dX2_put_56 rfl ?_
    refine j_getR X dX2_put_57 ff_X2_18 rfl rfl ?_
    refine j_aload_n X dX2_put_60 rfl ?_
    refine j_getI X dX2_put_61 ff_X2_84 rfl rfl ?_
    change J κ LAY ad 0 0 _ _ (vI (w 27 9) :: _) _
    rw [hu]
    refine j_iload_n X dX2_put_64 rfl ?_
    refine cS3v X mf_X5_put ms_X5_put ml_X2_97 (by decide) (Nat.le_of_ble_eq_true rfl) dX2_put_65 (sp_putk (k := us) rfl (by decide) hus) (fun w_65 h_65 => ?_)
    change _ = _ at h_65
    subst w_65
    refine j_aload_n X dX2_put_68 rfl ?_
    refine j_dup X dX2_put_69 (fun _ h => by cases h) ?_
    refine j_getI X dX2_put_70 ff_X2_84 rfl rfl ?_
    change J κ LAY ad 0 0 _ _ (vI (w 27 9) :: _) _
    rw [hu]
    refine j_iconst X dX2_put_73 ?_
    refine j_iadd X dX2_put_74 ?_
    refine j_putI X dX2_put_75 fp_X2_84 rfl rfl ?_
    refine j_aload_n X dX2_put_78 rfl ?_
    refine j_dup X dX2_put_79 (fun _ h => by cases h) ?_
    refine j_getI X dX2_put_80 ff_X2_107 rfl rfl ?_
    change J κ LAY ad 0 0 _ _ (vI (w 27 8) :: _) _
    rw [hsp]
    refine j_iload X dX2_put_83 rfl ?_
    refine j_aload_n X dX2_put_85 rfl ?_
    refine j_getI X dX2_put_86 ff_X2_104 rfl rfl ?_
    change J κ LAY ad 0 0 _ _ (vI (w 27 7) :: _) _
    refine j_icmp_ne (tgt := 96) X dX2_put_89 (by decide) ⟨by omega, by omega⟩ ⟨by omega, by omega⟩ (fun h_89 => ?_) (fun h_89 => ?_)
    · refine j_iconst X dX2_put_96 ?_
      refine cS1i X mf_X9_yes ms_X9_yes ml_X2_110 (by decide) (Nat.le_of_ble_eq_true rfl) dX2_put_97 (sp_X9_yes (by first | exact Or.inr rfl | exact Or.inl rfl | exact ib_01)) (fun a_97 w_97 h_97 => ?_)
      obtain ⟨_, _⟩ := h_97
      subst a_97
      subst w_97
      refine j_iadd X dX2_put_100 ?_
      refine j_putI X dX2_put_101 fp_X2_107 rfl rfl ?_
      refine j_iconst X dX2_put_104 ?_
      refine s_6 X dX2_put_105 rfl ?_
      have L_107 : ∀ (m : Nat) (t : Nat) (_ : t ≤ 4) (_ : 4 - t < m), J κ LAY ad 0 0 107 [some (vR 27), some (vI x), some (vI y), some (vI q), some (vI (kd9 : Int)), some (vI (s : Int)), some (vI (t : Int))] [] (widP (putB w 27 28 us sp x y q kd9) 28 kd9 x y q t) := by
        intro m
        induction m with
        | zero => intro t h1 h2; exact absurd h2 (Nat.not_lt_zero _)
        | succ m ih107 =>
          intro t h1 h2
          have hstr : -900 ≤ strip t x y q ∧ strip t x y q ≤ 900 := by unfold strip; (repeat' split) <;> omega
          refine j_iload X dX2_put_107 rfl ?_
          refine j_iconst X dX2_put_109 ?_
          refine j_icmp_ge (tgt := 138) X dX2_put_110 (by decide) ⟨by omega, by omega⟩ ⟨by omega, by omega⟩ (fun h_110 => ?_) (fun h_110 => ?_)
          · exact j_return X hR dX2_put_138 (by unfold putW; rw [if_pos (by rw [hst]; exact h_17), show (4 : Nat) = t by omega])
          · refine j_aload_n X dX2_put_113 rfl ?_
            refine j_iload X dX2_put_114 rfl ?_
            refine j_iload X dX2_put_116 rfl ?_
            refine cS2i X mf_X2_row ms_X2_row ml_X2_113 (by decide) (Nat.le_of_ble_eq_true rfl) dX2_put_118 (sp_X2_row) (fun a_118 w_118 h_118 => ?_)
            obtain ⟨_, _⟩ := h_118
            subst a_118
            subst w_118
            refine j_iload X dX2_put_121 rfl ?_
            refine j_iload_n X dX2_put_123 rfl ?_
            refine j_iload_n X dX2_put_124 rfl ?_
            refine j_iload_n X dX2_put_125 rfl ?_
            refine cS4i X mf_X3_strip ms_X3_strip ml_X2_116 (by decide) (Nat.le_of_ble_eq_true rfl) dX2_put_126 (sp_X3_strip ⟨by omega, by omega⟩ ⟨by omega, by omega⟩) (fun a_126 w_126 h_126 => ?_)
            obtain ⟨_, _⟩ := h_126
            subst a_126
            subst w_126
            refine cV2v X mf_X2_widen mv_X2_widen ml_X2_120 (by decide) rfl rfl (Nat.le_of_ble_eq_true rfl) dX2_put_129 (sp_X2_widen_27 (r := 4 * kd9 + t) (by omega) (widP_lz (by decide) hz2 (by omega) hx hy hq t (by omega)) ⟨by omega, by omega⟩) (fun w_129 h_129 => ?_)
            change _ = _ at h_129
            subst w_129
            refine inc_6 X dX2_put_132 rfl ?_
            refine j_goto (tgt := 107) X dX2_put_135 (by decide) ?_
            exact ih107 (t + 1) (by omega) (by omega)
      rw [show wst (wst (wst (wst (wst (wst w 31 s (kd9 : Int)) 28 us x) 29 us y) 30 us q) 27 9 ((us : Int) + 1)) 27 8 (sp + 0) = putB w 27 28 us sp x y q kd9 by unfold putB putA; rw [hst, if_neg (by omega)]]
      exact L_107 5 0 (by omega) (by omega)
    · refine j_iconst X dX2_put_92 ?_
      refine j_goto (tgt := 97) X dX2_put_93 (by decide) ?_
      refine cS1i X mf_X9_yes ms_X9_yes ml_X2_110 (by decide) (Nat.le_of_ble_eq_true rfl) dX2_put_97 (sp_X9_yes (by first | exact Or.inr rfl | exact Or.inl rfl | exact ib_01)) (fun a_97 w_97 h_97 => ?_)
      obtain ⟨_, _⟩ := h_97
      subst a_97
      subst w_97
      refine j_iadd X dX2_put_100 ?_
      refine j_putI X dX2_put_101 fp_X2_107 rfl rfl ?_
      refine j_iconst X dX2_put_104 ?_
      refine s_6 X dX2_put_105 rfl ?_
      have L_107 : ∀ (m : Nat) (t : Nat) (_ : t ≤ 4) (_ : 4 - t < m), J κ LAY ad 0 0 107 [some (vR 27), some (vI x), some (vI y), some (vI q), some (vI (kd9 : Int)), some (vI (s : Int)), some (vI (t : Int))] [] (widP (putB w 27 28 us sp x y q kd9) 28 kd9 x y q t) := by
        intro m
        induction m with
        | zero => intro t h1 h2; exact absurd h2 (Nat.not_lt_zero _)
        | succ m ih107 =>
          intro t h1 h2
          have hstr : -900 ≤ strip t x y q ∧ strip t x y q ≤ 900 := by unfold strip; (repeat' split) <;> omega
          refine j_iload X dX2_put_107 rfl ?_
          refine j_iconst X dX2_put_109 ?_
          refine j_icmp_ge (tgt := 138) X dX2_put_110 (by decide) ⟨by omega, by omega⟩ ⟨by omega, by omega⟩ (fun h_110 => ?_) (fun h_110 => ?_)
          · exact j_return X hR dX2_put_138 (by unfold putW; rw [if_pos (by rw [hst]; exact h_17), show (4 : Nat) = t by omega])
          · refine j_aload_n X dX2_put_113 rfl ?_
            refine j_iload X dX2_put_114 rfl ?_
            refine j_iload X dX2_put_116 rfl ?_
            refine cS2i X mf_X2_row ms_X2_row ml_X2_113 (by decide) (Nat.le_of_ble_eq_true rfl) dX2_put_118 (sp_X2_row) (fun a_118 w_118 h_118 => ?_)
            obtain ⟨_, _⟩ := h_118
            subst a_118
            subst w_118
            refine j_iload X dX2_put_121 rfl ?_
            refine j_iload_n X dX2_put_123 rfl ?_
            refine j_iload_n X dX2_put_124 rfl ?_
            refine j_iload_n X dX2_put_125 rfl ?_
            refine cS4i X mf_X3_strip ms_X3_strip ml_X2_116 (by decide) (Nat.le_of_ble_eq_true rfl) dX2_put_126 (sp_X3_strip ⟨by omega, by omega⟩ ⟨by omega, by omega⟩) (fun a_126 w_126 h_126 => ?_)
            obtain ⟨_, _⟩ := h_126
            subst a_126
            subst w_126
            refine cV2v X mf_X2_widen mv_X2_widen ml_X2_120 (by decide) rfl rfl (Nat.le_of_ble_eq_true rfl) dX2_put_129 (sp_X2_widen_27 (r := 4 * kd9 + t) (by omega) (widP_lz (by decide) hz2 (by omega) hx hy hq t (by omega)) ⟨by omega, by omega⟩) (fun w_129 h_129 => ?_)
            change _ = _ at h_129
            subst w_129
            refine inc_6 X dX2_put_132 rfl ?_
            refine j_goto (tgt := 107) X dX2_put_135 (by decide) ?_
            exact ih107 (t + 1) (by omega) (by omega)
      rw [show wst (wst (wst (wst (wst (wst w 31 s (kd9 : Int)) 28 us x) 29 us y) 30 us q) 27 9 ((us : Int) + 1)) 27 8 (sp + 1) = putB w 27 28 us sp x y q kd9 by unfold putB putA; rw [hst, if_pos (by omega)]]
      exact L_107 5 0 (by omega) (by omega)
  · exact j_return X hR dX2_put_20 (by unfold putW; rw [if_neg (by rw [hst]; exact h_17)])
