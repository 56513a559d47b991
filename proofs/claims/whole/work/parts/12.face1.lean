/-! ===== the class's own face ===== -/
def CI (n : Nat) (w : wd) : Prop := ShO n w ∧ PlO (4 * n * n) w ∧ LyO (4 * n * n) w ∧ HtO w ∧ FgO w ∧ FlO w ∧ LsO w ∧ (w 17 4 = 0 ∨ w 17 4 = 1) ∧ (∃ m : Nat, m ≤ 8 ∧ w 5 11 = (m : Int)) ∧ (1 ≤ w 0 6 ∧ w 0 6 ≤ 144)
set_option maxHeartbeats 4000000 in
set_option maxRecDepth 20000 in
theorem sp_X9_places {n : Nat} {w : wd} (hc : CI n w) : CalI yX9_places cX9_places 1 .int 4 LAY w [vR 0] (fun a w' => a = sm (fun k => ib (w 9 k = 0)) (4 * n * n) ∧ w' = w) := by
  obtain ⟨hs, hp, hy, hh, hg, hf, hL, hm, hmd, hkn⟩ := id hc
  have h144 := nn_le hs.1.2
  have hn2 := hs.2.2.1
  have hn3 := hs.2.1
  have hn6 := hs.1
  refine calI_intro (ls := [some (vR 0)]) (by decide) (Nat.le_of_ble_eq_true rfl) rfl (fun κ ad X hR => ?_)
  refine j_aload_n X dX9_places_0 rfl ?_
  refine j_getR X dX9_places_1 ff_X9_21 rfl rfl ?_
  refine cV0i X mf_X4_taken mv_X4_taken ml_X9_91 (by decide) rfl rfl (Nat.le_of_ble_eq_true rfl) dX9_places_4 (sp_X4_taken hn2 hy h144) (fun a_4 w_4 h_4 => ?_)
  obtain ⟨_, _⟩ := h_4
  subst a_4
  subst w_4
  exact j_ireturn X hR dX9_places_7 ⟨rfl, rfl⟩
set_option maxHeartbeats 4000000 in
set_option maxRecDepth 20000 in
theorem sp_X9_deepest {n : Nat} {w : wd} (hc : CI n w) : CalI yX9_deepest cX9_deepest 1 .int 5 LAY w [vR 0] (fun a w' => a = mxf (fun k => w 11 (psp w k).toNat) (4 * n * n) ∧ w' = w) := by
  obtain ⟨hs, hp, hy, hh, hg, hf, hL, hm, hmd, hkn⟩ := id hc
  have h144 := nn_le hs.1.2
  have hn2 := hs.2.2.1
  have hn3 := hs.2.1
  have hn6 := hs.1
  refine calI_intro (ls := [some (vR 0)]) (by decide) (Nat.le_of_ble_eq_true rfl) rfl (fun κ ad X hR => ?_)
  refine j_aload_n X dX9_deepest_0 rfl ?_
  refine j_getR X dX9_deepest_1 ff_X9_21 rfl rfl ?_
  refine cV0i X mf_X4_highest mv_X4_highest ml_X9_132 (by decide) rfl rfl (Nat.le_of_ble_eq_true rfl) dX9_deepest_4 (sp_X4_highest hn2 hh h144) (fun a_4 w_4 h_4 => ?_)
  obtain ⟨_, _⟩ := h_4
  subst a_4
  subst w_4
  exact j_ireturn X hR dX9_deepest_7 ⟨rfl, rfl⟩
theorem nn_pos {n : Nat} (h : 1 ≤ n) : 1 ≤ 4 * n * n := by
  have := Nat.mul_le_mul (Nat.mul_le_mul (Nat.le_refl 4) h) h
  omega
set_option maxHeartbeats 4000000 in
set_option maxRecDepth 20000 in
theorem sp_X9_reach {n : Nat} {w : wd} (hc : CI n w) {t : Int} (ht : rg t) : CalI yX9_reach cX9_reach 2 .int 4 LAY w [vR 0, vI t] (fun a w' => a = (if t = 0 then mnA (w 6) (4 * n * n - 1) else if t = 1 then mxA (w 6) (4 * n * n - 1) else if t = 2 then mnA (w 7) (4 * n * n - 1) else if t = 3 then mxA (w 7) (4 * n * n - 1) else -2) ∧ w' = w) := by
  obtain ⟨hs, hp, hy, hh, hg, hf, hL, hm, hmd, hkn⟩ := id hc
  have h144 := nn_le hs.1.2
  have hn2 := hs.2.2.1
  have hn3 := hs.2.1
  have hn6 := hs.1
  refine calI_intro (ls := [some (vR 0), some (vI t)]) (by decide) (Nat.le_of_ble_eq_true rfl) rfl (fun κ ad X hR => ?_)
  refine j_iload_n X dX9_reach_0 rfl ?_
  rcases (by omega : t = 0 ∨ t = 1 ∨ t = 2 ∨ t = 3 ∨ (t < 0 ∨ 3 < t)) with rfl | rfl | rfl | rfl | hsw
  · refine j_tabIn (off := 31) (tgt := 32) X dX9_reach_1 ⟨by decide, by decide⟩ (by decide) (by decide) rfl (by decide) ?_
    refine j_aload_n X dX9_reach_32 rfl ?_
    refine j_getR X dX9_reach_33 ff_X9_21 rfl rfl ?_
    refine cV0i X mf_X4_leastX mv_X4_leastX ml_X9_135 (by decide) rfl rfl (Nat.le_of_ble_eq_true rfl) dX9_reach_36 (sp_X4_leastX hn2 hp h144 (nn_pos hn6.1)) (fun a_36 w_36 h_36 => ?_)
    obtain ⟨_, _⟩ := h_36
    subst a_36
    subst w_36
    exact j_ireturn X hR dX9_reach_39 ⟨rfl, rfl⟩
  · refine j_tabIn (off := 39) (tgt := 40) X dX9_reach_1 ⟨by decide, by decide⟩ (by decide) (by decide) rfl (by decide) ?_
    refine j_aload_n X dX9_reach_40 rfl ?_
    refine j_getR X dX9_reach_41 ff_X9_21 rfl rfl ?_
    refine cV0i X mf_X4_greatestX mv_X4_greatestX ml_X9_138 (by decide) rfl rfl (Nat.le_of_ble_eq_true rfl) dX9_reach_44 (sp_X4_greatestX hn2 hp h144 (nn_pos hn6.1)) (fun a_44 w_44 h_44 => ?_)
    obtain ⟨_, _⟩ := h_44
    subst a_44
    subst w_44
    exact j_ireturn X hR dX9_reach_47 ⟨rfl, rfl⟩
  · refine j_tabIn (off := 47) (tgt := 48) X dX9_reach_1 ⟨by decide, by decide⟩ (by decide) (by decide) rfl (by decide) ?_
    refine j_aload_n X dX9_reach_48 rfl ?_
    refine j_getR X dX9_reach_49 ff_X9_21 rfl rfl ?_
    refine cV0i X mf_X4_leastY mv_X4_leastY ml_X9_141 (by decide) rfl rfl (Nat.le_of_ble_eq_true rfl) dX9_reach_52 (sp_X4_leastY hn2 hp h144 (nn_pos hn6.1)) (fun a_52 w_52 h_52 => ?_)
    obtain ⟨_, _⟩ := h_52
    subst a_52
    subst w_52
    exact j_ireturn X hR dX9_reach_55 ⟨rfl, rfl⟩
  · refine j_tabIn (off := 55) (tgt := 56) X dX9_reach_1 ⟨by decide, by decide⟩ (by decide) (by decide) rfl (by decide) ?_
    refine j_aload_n X dX9_reach_56 rfl ?_
    refine j_getR X dX9_reach_57 ff_X9_21 rfl rfl ?_
    refine cV0i X mf_X4_greatestY mv_X4_greatestY ml_X9_144 (by decide) rfl rfl (Nat.le_of_ble_eq_true rfl) dX9_reach_60 (sp_X4_greatestY hn2 hp h144 (nn_pos hn6.1)) (fun a_60 w_60 h_60 => ?_)
    obtain ⟨_, _⟩ := h_60
    subst a_60
    subst w_60
    exact j_ireturn X hR dX9_reach_63 ⟨rfl, rfl⟩
  · refine j_tabOut (tgt := 64) X dX9_reach_1 ht hsw (by decide) ?_
    refine j_bipush X dX9_reach_64 (by decide +kernel) ?_
    exact j_ireturn X hR dX9_reach_66 ⟨by rw [if_neg (by omega), if_neg (by omega), if_neg (by omega), if_neg (by omega)], rfl⟩
set_option maxHeartbeats 4000000 in
set_option maxRecDepth 20000 in
theorem sp_X9_folds {w : wd} : CalI yX9_folds cX9_folds 1 .int 1 LAY w [vR 0] (fun a w' => a = w 5 11 ∧ w' = w) := by
  refine calI_intro (ls := [some (vR 0)]) (by decide) (Nat.le_of_ble_eq_true rfl) rfl (fun κ ad X hR => ?_)
  refine j_aload_n X dX9_folds_0 rfl ?_
  refine j_getR X dX9_folds_1 ff_X9_21 rfl rfl ?_
  refine j_getI X dX9_folds_4 ff_X9_85 rfl rfl ?_
  exact j_ireturn X hR dX9_folds_7 ⟨rfl, rfl⟩
set_option maxHeartbeats 4000000 in
set_option maxRecDepth 20000 in
theorem sp_X9_facet {n : Nat} {w : wd} (hc : CI n w) {k : Int} {t : Int} (hk : rg k) (ht : rg t) : CalI yX9_facet cX9_facet 3 .int 4 LAY w [vR 0, vI k, vI t] (fun a w' => a = (if ¬ (0 ≤ k ∧ k < ((4 * n * n : Nat) : Int)) then -1 else if t = 0 then w 6 k.toNat else if t = 1 then w 7 k.toNat else if t = 2 then w 8 k.toNat else if t = 3 then w 9 k.toNat else if t = 4 then ib (w 10 k.toNat = 1) else if t = 5 then w 11 (psp w k.toNat).toNat else if t = 6 then ib (w 18 k.toNat = 1) else if t = 7 then ib (w 22 k.toNat = 1) else -2) ∧ w' = w) := by
  obtain ⟨hs, hp, hy, hh, hg, hf, hL, hm, hmd, hkn⟩ := id hc
  have h144 := nn_le hs.1.2
  have hn2 := hs.2.2.1
  have hn3 := hs.2.1
  have hn6 := hs.1
  refine calI_intro (ls := [some (vR 0), some (vI k), some (vI t)]) (by decide) (Nat.le_of_ble_eq_true rfl) rfl (fun κ ad X hR => ?_)
  refine j_aload_n X dX9_facet_0 rfl ?_
  refine j_getR X dX9_facet_1 ff_X9_12 rfl rfl ?_
  refine j_iload_n X dX9_facet_4 rfl ?_
  refine cV1i X mf_X7_has mv_X7_has ml_X9_98 (by decide) rfl rfl (Nat.le_of_ble_eq_true rfl) dX9_facet_5 (sp_X7_has hn2 h144 hk) (fun a_5 w_5 h_5 => ?_)
  obtain ⟨_, _⟩ := h_5
  subst a_5
  subst w_5
  refine jb_ne (tgt := 13) X dX9_facet_8 (by decide) (fun h_8 => ?_) (fun h_8 => ?_)
  · obtain ⟨j, rfl⟩ := Int.eq_ofNat_of_zero_le h_8.1
    have hj : j < 4 * n * n := by omega
    refine j_iload_n X dX9_facet_13 rfl ?_
    rcases (by omega : t = 0 ∨ t = 1 ∨ t = 2 ∨ t = 3 ∨ t = 4 ∨ t = 5 ∨ t = 6 ∨ t = 7 ∨ (t < 0 ∨ 7 < t)) with rfl | rfl | rfl | rfl | rfl | rfl | rfl | rfl | hsw
    · refine j_tabIn (off := 46) (tgt := 60) X dX9_facet_14 ⟨by decide, by decide⟩ (by decide) (by decide) rfl (by decide) ?_
      refine j_aload_n X dX9_facet_60 rfl ?_
      refine j_getR X dX9_facet_61 ff_X9_21 rfl rfl ?_
      refine j_iload_n X dX9_facet_64 rfl ?_
      refine cV1i X mf_X4_x mv_X4_x ml_X9_101 (by decide) rfl rfl (Nat.le_of_ble_eq_true rfl) dX9_facet_65 (sp_X4_x (by omega)) (fun a_65 w_65 h_65 => ?_)
      obtain ⟨_, _⟩ := h_65
      subst a_65
      subst w_65
      exact j_ireturn X hR dX9_facet_68 ⟨by rw [if_neg (fun z => z h_8)]; rfl, rfl⟩
    · refine j_tabIn (off := 55) (tgt := 69) X dX9_facet_14 ⟨by decide, by decide⟩ (by decide) (by decide) rfl (by decide) ?_
      refine j_aload_n X dX9_facet_69 rfl ?_
      refine j_getR X dX9_facet_70 ff_X9_21 rfl rfl ?_
      refine j_iload_n X dX9_facet_73 rfl ?_
      refine cV1i X mf_X4_y mv_X4_y ml_X9_105 (by decide) rfl rfl (Nat.le_of_ble_eq_true rfl) dX9_facet_74 (sp_X4_y (by omega)) (fun a_74 w_74 h_74 => ?_)
      obtain ⟨_, _⟩ := h_74
      subst a_74
      subst w_74
      exact j_ireturn X hR dX9_facet_77 ⟨by rw [if_neg (fun z => z h_8)]; rfl, rfl⟩
    · refine j_tabIn (off := 64) (tgt := 78) X dX9_facet_14 ⟨by decide, by decide⟩ (by decide) (by decide) rfl (by decide) ?_
      refine j_aload_n X dX9_facet_78 rfl ?_
      refine j_getR X dX9_facet_79 ff_X9_21 rfl rfl ?_
      refine j_iload_n X dX9_facet_82 rfl ?_
      refine cV1i X mf_X4_quarter mv_X4_quarter ml_X9_108 (by decide) rfl rfl (Nat.le_of_ble_eq_true rfl) dX9_facet_83 (sp_X4_quarter (by omega)) (fun a_83 w_83 h_83 => ?_)
      obtain ⟨_, _⟩ := h_83
      subst a_83
      subst w_83
      exact j_ireturn X hR dX9_facet_86 ⟨by rw [if_neg (fun z => z h_8)]; rfl, rfl⟩
    · refine j_tabIn (off := 73) (tgt := 87) X dX9_facet_14 ⟨by decide, by decide⟩ (by decide) (by decide) rfl (by decide) ?_
      refine j_aload_n X dX9_facet_87 rfl ?_
      refine j_getR X dX9_facet_88 ff_X9_21 rfl rfl ?_
      refine j_iload_n X dX9_facet_91 rfl ?_
      refine cV1i X mf_X4_layer mv_X4_layer ml_X9_111 (by decide) rfl rfl (Nat.le_of_ble_eq_true rfl) dX9_facet_92 (sp_X4_layer (by omega)) (fun a_92 w_92 h_92 => ?_)
      obtain ⟨_, _⟩ := h_92
      subst a_92
      subst w_92
      exact j_ireturn X hR dX9_facet_95 ⟨by rw [if_neg (fun z => z h_8)]; rfl, rfl⟩
    · refine j_tabIn (off := 82) (tgt := 96) X dX9_facet_14 ⟨by decide, by decide⟩ (by decide) (by decide) rfl (by decide) ?_
      refine j_aload_n X dX9_facet_96 rfl ?_
      refine j_getR X dX9_facet_97 ff_X9_21 rfl rfl ?_
      refine j_iload_n X dX9_facet_100 rfl ?_
      refine cV1i X mf_X4_isUp mv_X4_isUp ml_X9_114 (by decide) rfl rfl (Nat.le_of_ble_eq_true rfl) dX9_facet_101 (sp_X4_isUp (by omega) (hp j hj).2.2.2) (fun a_101 w_101 h_101 => ?_)
      obtain ⟨_, _⟩ := h_101
      subst a_101
      subst w_101
      refine cS1i X mf_X9_yes ms_X9_yes ml_X9_117 (by decide) (Nat.le_of_ble_eq_true rfl) dX9_facet_104 (sp_X9_yes (by first | exact Or.inr rfl | exact Or.inl rfl | exact ib_01)) (fun a_104 w_104 h_104 => ?_)
      obtain ⟨_, _⟩ := h_104
      subst a_104
      subst w_104
      exact j_ireturn X hR dX9_facet_107 ⟨by rw [if_neg (fun z => z h_8)]; rfl, rfl⟩
    · refine j_tabIn (off := 94) (tgt := 108) X dX9_facet_14 ⟨by decide, by decide⟩ (by decide) (by decide) rfl (by decide) ?_
      refine j_aload_n X dX9_facet_108 rfl ?_
      refine j_getR X dX9_facet_109 ff_X9_21 rfl rfl ?_
      refine j_iload_n X dX9_facet_112 rfl ?_
      refine cV1i X mf_X4_heightOver mv_X4_heightOver ml_X9_121 (by decide) rfl rfl (Nat.le_of_ble_eq_true rfl) dX9_facet_113 (sp_X4_heightOver (by omega)) (fun a_113 w_113 h_113 => ?_)
      obtain ⟨_, _⟩ := h_113
      subst a_113
      subst w_113
      exact j_ireturn X hR dX9_facet_116 ⟨by rw [if_neg (fun z => z h_8)]; rfl, rfl⟩
    · refine j_tabIn (off := 103) (tgt := 117) X dX9_facet_14 ⟨by decide, by decide⟩ (by decide) (by decide) rfl (by decide) ?_
      refine j_aload_n X dX9_facet_117 rfl ?_
      refine j_getR X dX9_facet_118 ff_X9_37 rfl rfl ?_
      refine j_iload_n X dX9_facet_121 rfl ?_
      refine cV1i X mf_X8_isDown mv_X8_isDown ml_X9_124 (by decide) rfl rfl (Nat.le_of_ble_eq_true rfl) dX9_facet_122 (sp_X8_isDown hf (by omega)) (fun a_122 w_122 h_122 => ?_)
      obtain ⟨_, _⟩ := h_122
      subst a_122
      subst w_122
      refine cS1i X mf_X9_yes ms_X9_yes ml_X9_117 (by decide) (Nat.le_of_ble_eq_true rfl) dX9_facet_125 (sp_X9_yes (by first | exact Or.inr rfl | exact Or.inl rfl | exact ib_01)) (fun a_125 w_125 h_125 => ?_)
      obtain ⟨_, _⟩ := h_125
      subst a_125
      subst w_125
      exact j_ireturn X hR dX9_facet_128 ⟨by rw [if_neg (fun z => z h_8)]; rfl, rfl⟩
    · refine j_tabIn (off := 115) (tgt := 129) X dX9_facet_14 ⟨by decide, by decide⟩ (by decide) (by decide) rfl (by decide) ?_
      refine j_aload_n X dX9_facet_129 rfl ?_
      refine j_getR X dX9_facet_130 ff_X9_44 rfl rfl ?_
      refine j_iload_n X dX9_facet_133 rfl ?_
      refine cV1i X mf_X1_has mv_X1_has ml_X9_127 (by decide) rfl rfl (Nat.le_of_ble_eq_true rfl) dX9_facet_134 (sp_X1_has hg (by omega)) (fun a_134 w_134 h_134 => ?_)
      obtain ⟨_, _⟩ := h_134
      subst a_134
      subst w_134
      refine cS1i X mf_X9_yes ms_X9_yes ml_X9_117 (by decide) (Nat.le_of_ble_eq_true rfl) dX9_facet_137 (sp_X9_yes (by first | exact Or.inr rfl | exact Or.inl rfl | exact ib_01)) (fun a_137 w_137 h_137 => ?_)
      obtain ⟨_, _⟩ := h_137
      subst a_137
      subst w_137
      exact j_ireturn X hR dX9_facet_140 ⟨by rw [if_neg (fun z => z h_8)]; rfl, rfl⟩
    · refine j_tabOut (tgt := 141) X dX9_facet_14 ht hsw (by decide) ?_
      refine j_bipush X dX9_facet_141 (by decide +kernel) ?_
      exact j_ireturn X hR dX9_facet_143 ⟨by rw [if_neg (fun z => z h_8), if_neg (by omega), if_neg (by omega), if_neg (by omega), if_neg (by omega), if_neg (by omega), if_neg (by omega), if_neg (by omega), if_neg (by omega)], rfl⟩
  · refine j_iconst X dX9_facet_11 ?_
    exact j_ireturn X hR dX9_facet_12 ⟨by rw [if_pos h_8], rfl⟩
set_option maxHeartbeats 4000000 in
set_option maxRecDepth 20000 in
theorem sp_X9_at {n : Nat} {w : wd} (hc : CI n w) {x y q l : Int} (hx : rg x) (hy0 : rg y) (hq : rg q) (hl : rg l) : CalI yX9_at cX9_at 5 .int 4 LAY w [vR 0, vI x, vI y, vI q, vI l] (fun a w' => (if q < 0 ∨ 3 < q then a = -2 else ((∃ k, k < 4 * n * n ∧ a = (k : Int) ∧ (w 6 k = x ∧ w 7 k = y ∧ w 8 k = q ∧ w 9 k = l) ∧ ∀ j, j < k → ¬ (w 6 j = x ∧ w 7 j = y ∧ w 8 j = q ∧ w 9 j = l)) ∨ (a = -99999 ∧ ∀ j, j < 4 * n * n → ¬ (w 6 j = x ∧ w 7 j = y ∧ w 8 j = q ∧ w 9 j = l)))) ∧ w' = w) := by
  obtain ⟨hs, hp, hy, hh, hg, hf, hL, hm, hmd, hkn⟩ := id hc
  have h144 := nn_le hs.1.2
  have hn2 := hs.2.2.1
  have hn3 := hs.2.1
  have hn6 := hs.1
  refine calI_intro (ls := [some (vR 0), some (vI x), some (vI y), some (vI q), some (vI l)]) (by decide) (Nat.le_of_ble_eq_true rfl) rfl (fun κ ad X hR => ?_)
  refine j_iload_n X dX9_at_0 rfl ?_
  refine j_if_lt (tgt := 9) X dX9_at_1 (by decide) ⟨by omega, by omega⟩ (fun h_1 => ?_) (fun h_1 => ?_)
  · refine j_bipush X dX9_at_9 (by decide +kernel) ?_
    exact j_ireturn X hR dX9_at_11 ⟨by rw [if_pos (by omega)], rfl⟩
  · refine j_iload_n X dX9_at_4 rfl ?_
    refine j_iconst X dX9_at_5 ?_
    refine j_icmp_le (tgt := 12) X dX9_at_6 (by decide) ⟨by omega, by omega⟩ ⟨by omega, by omega⟩ (fun h_6 => ?_) (fun h_6 => ?_)
    · refine j_aload_n X dX9_at_12 rfl ?_
      refine j_getR X dX9_at_13 ff_X9_21 rfl rfl ?_
      refine j_iload_n X dX9_at_16 rfl ?_
      refine j_iload_n X dX9_at_17 rfl ?_
      refine j_iload_n X dX9_at_18 rfl ?_
      refine j_iload X dX9_at_19 rfl ?_
      refine cV4i X mf_X4_find mv_X4_find ml_X9_128 (by decide) rfl rfl (Nat.le_of_ble_eq_true rfl) dX9_at_21 (sp_X4_find hn2 hp hy h144 hx hy0 hq hl) (fun a_21 w_21 h_21 => ?_)
      obtain ⟨hfd, _⟩ := h_21
      subst w_21
      exact j_ireturn X hR dX9_at_24 ⟨by rw [if_neg (by omega)]; exact hfd, rfl⟩
    · refine j_bipush X dX9_at_9 (by decide +kernel) ?_
      exact j_ireturn X hR dX9_at_11 ⟨by rw [if_pos (by omega)], rfl⟩
set_option maxHeartbeats 4000000 in
set_option maxRecDepth 20000 in
theorem sp_X9_crease {n : Nat} {w : wd} (hc : CI n w) {k : Int} {t : Int} (hk : rg k) (ht : rg t) : CalI yX9_crease cX9_crease 3 .int 4 LAY w [vR 0, vI k, vI t] (fun a w' => a = (if ¬ (0 ≤ k ∧ k < ((4 * n * n : Nat) : Int)) then -1 else if 0 ≤ t ∧ t ≤ 2 then kd n w k.toNat t.toNat else -2) ∧ w' = w) := by
  obtain ⟨hs, hp, hy, hh, hg, hf, hL, hm, hmd, hkn⟩ := id hc
  have h144 := nn_le hs.1.2
  have hn2 := hs.2.2.1
  have hn3 := hs.2.1
  have hn6 := hs.1
  refine calI_intro (ls := [some (vR 0), some (vI k), some (vI t)]) (by decide) (Nat.le_of_ble_eq_true rfl) rfl (fun κ ad X hR => ?_)
  refine j_aload_n X dX9_crease_0 rfl ?_
  refine j_getR X dX9_crease_1 ff_X9_12 rfl rfl ?_
  refine j_iload_n X dX9_crease_4 rfl ?_
  refine cV1i X mf_X7_has mv_X7_has ml_X9_98 (by decide) rfl rfl (Nat.le_of_ble_eq_true rfl) dX9_crease_5 (sp_X7_has hn2 h144 hk) (fun a_5 w_5 h_5 => ?_)
  obtain ⟨_, _⟩ := h_5
  subst a_5
  subst w_5
  refine jb_ne (tgt := 13) X dX9_crease_8 (by decide) (fun h_8 => ?_) (fun h_8 => ?_)
  · obtain ⟨j, rfl⟩ := Int.eq_ofNat_of_zero_le h_8.1
    have hj : j < 4 * n * n := by omega
    refine j_iload_n X dX9_crease_13 rfl ?_
    refine cS1i X mf_X9_isEdge ms_X9_isEdge ml_X9_147 (by decide) (Nat.le_of_ble_eq_true rfl) dX9_crease_14 (sp_X9_isEdge ht) (fun a_14 w_14 h_14 => ?_)
    obtain ⟨_, _⟩ := h_14
    subst a_14
    subst w_14
    refine jb_eq (tgt := 32) X dX9_crease_17 (by decide) (fun h_17 => ?_) (fun h_17 => ?_)
    · refine j_bipush X dX9_crease_32 (by decide +kernel) ?_
      exact j_ireturn X hR dX9_crease_34 ⟨by rw [if_neg (fun z => z h_8), if_neg h_17], rfl⟩
    · obtain ⟨e, rfl⟩ := Int.eq_ofNat_of_zero_le h_17.1
      refine j_aload_n X dX9_crease_20 rfl ?_
      refine j_getR X dX9_crease_21 ff_X9_30 rfl rfl ?_
      refine j_iload_n X dX9_crease_24 rfl ?_
      refine j_iload_n X dX9_crease_25 rfl ?_
      refine cV2i X mf_X0_kind mv_X0_kind ml_X9_150 (by decide) rfl rfl (Nat.le_of_ble_eq_true rfl) dX9_crease_26 (sp_X0_kind hs hp hy hj (by omega)) (fun a_26 w_26 h_26 => ?_)
      obtain ⟨_, _⟩ := h_26
      subst a_26
      subst w_26
      refine j_goto (tgt := 34) X dX9_crease_29 (by decide) ?_
      exact j_ireturn X hR dX9_crease_34 ⟨by rw [if_neg (fun z => z h_8), if_pos h_17]; rfl, rfl⟩
  · refine j_iconst X dX9_crease_11 ?_
    exact j_ireturn X hR dX9_crease_12 ⟨by rw [if_pos h_8], rfl⟩
set_option maxHeartbeats 4000000 in
set_option maxRecDepth 20000 in
theorem sp_X9_neighbour {n : Nat} {w : wd} (hc : CI n w) {k : Int} {t : Int} (hk : rg k) (ht : rg t) : CalI yX9_neighbour cX9_neighbour 3 .int 3 LAY w [vR 0, vI k, vI t] (fun a w' => a = (if ¬ (0 ≤ k ∧ k < ((4 * n * n : Nat) : Int)) then -1 else if 0 ≤ t ∧ t ≤ 2 then nb n k.toNat t.toNat else -2) ∧ w' = w) := by
  obtain ⟨hs, hp, hy, hh, hg, hf, hL, hm, hmd, hkn⟩ := id hc
  have h144 := nn_le hs.1.2
  have hn2 := hs.2.2.1
  have hn3 := hs.2.1
  have hn6 := hs.1
  refine calI_intro (ls := [some (vR 0), some (vI k), some (vI t)]) (by decide) (Nat.le_of_ble_eq_true rfl) rfl (fun κ ad X hR => ?_)
  refine j_aload_n X dX9_neighbour_0 rfl ?_
  refine j_getR X dX9_neighbour_1 ff_X9_12 rfl rfl ?_
  refine j_iload_n X dX9_neighbour_4 rfl ?_
  refine cV1i X mf_X7_has mv_X7_has ml_X9_98 (by decide) rfl rfl (Nat.le_of_ble_eq_true rfl) dX9_neighbour_5 (sp_X7_has hn2 h144 hk) (fun a_5 w_5 h_5 => ?_)
  obtain ⟨_, _⟩ := h_5
  subst a_5
  subst w_5
  refine jb_ne (tgt := 13) X dX9_neighbour_8 (by decide) (fun h_8 => ?_) (fun h_8 => ?_)
  · obtain ⟨j, rfl⟩ := Int.eq_ofNat_of_zero_le h_8.1
    have hj : j < 4 * n * n := by omega
    refine j_iload_n X dX9_neighbour_13 rfl ?_
    refine cS1i X mf_X9_isEdge ms_X9_isEdge ml_X9_147 (by decide) (Nat.le_of_ble_eq_true rfl) dX9_neighbour_14 (sp_X9_isEdge ht) (fun a_14 w_14 h_14 => ?_)
    obtain ⟨_, _⟩ := h_14
    subst a_14
    subst w_14
    refine jb_eq (tgt := 32) X dX9_neighbour_17 (by decide) (fun h_17 => ?_) (fun h_17 => ?_)
    · refine j_bipush X dX9_neighbour_32 (by decide +kernel) ?_
      exact j_ireturn X hR dX9_neighbour_34 ⟨by rw [if_neg (fun z => z h_8), if_neg h_17], rfl⟩
    · obtain ⟨e, rfl⟩ := Int.eq_ofNat_of_zero_le h_17.1
      refine j_aload_n X dX9_neighbour_20 rfl ?_
      refine j_getR X dX9_neighbour_21 ff_X9_12 rfl rfl ?_
      refine j_iload_n X dX9_neighbour_24 rfl ?_
      refine j_iload_n X dX9_neighbour_25 rfl ?_
      refine cV2i X mf_X7_beside mv_X7_beside ml_X9_154 (by decide) rfl rfl (Nat.le_of_ble_eq_true rfl) dX9_neighbour_26 (sp_X7_beside hs hj (by omega)) (fun a_26 w_26 h_26 => ?_)
      obtain ⟨_, _⟩ := h_26
      subst a_26
      subst w_26
      refine j_goto (tgt := 34) X dX9_neighbour_29 (by decide) ?_
      exact j_ireturn X hR dX9_neighbour_34 ⟨by rw [if_neg (fun z => z h_8), if_pos h_17]; rfl, rfl⟩
  · refine j_iconst X dX9_neighbour_11 ?_
    exact j_ireturn X hR dX9_neighbour_12 ⟨by rw [if_pos h_8], rfl⟩
set_option maxHeartbeats 4000000 in
set_option maxRecDepth 20000 in
theorem sp_X9_creases {n : Nat} {w : wd} (hc : CI n w) {b : Int} (hb : b = 0 ∨ b = 1) : CalI yX9_creases cX9_creases 2 .int 5 LAY w [vR 0, vI b] (fun a w' => a = sm (crT n w (if b = 0 then 1 else 2)) (4 * n * n) ∧ w' = w) := by
  obtain ⟨hs, hp, hy, hh, hg, hf, hL, hm, hmd, hkn⟩ := id hc
  have h144 := nn_le hs.1.2
  have hn2 := hs.2.2.1
  have hn3 := hs.2.1
  have hn6 := hs.1
  refine calI_intro (ls := [some (vR 0), some (vI b)]) (by decide) (Nat.le_of_ble_eq_true rfl) rfl (fun κ ad X hR => ?_)
  refine j_aload_n X dX9_creases_0 rfl ?_
  refine j_getR X dX9_creases_1 ff_X9_30 rfl rfl ?_
  refine j_iload_n X dX9_creases_4 rfl ?_
  refine j_if_eq (tgt := 12) X dX9_creases_5 (by decide) ⟨by omega, by omega⟩ (fun h_5 => ?_) (fun h_5 => ?_)
  · refine j_iconst X dX9_creases_12 ?_
    refine cV1i X mf_X0_total mv_X0_total ml_X9_157 (by decide) rfl rfl (Nat.le_of_ble_eq_true rfl) dX9_creases_13 (sp_X0_total hs hp hy ⟨by omega, by omega⟩) (fun a_13 w_13 h_13 => ?_)
    obtain ⟨_, _⟩ := h_13
    subst a_13
    subst w_13
    exact j_ireturn X hR dX9_creases_16 ⟨by rw [if_pos (by omega)], rfl⟩
  · refine j_iconst X dX9_creases_8 ?_
    refine j_goto (tgt := 13) X dX9_creases_9 (by decide) ?_
    refine cV1i X mf_X0_total mv_X0_total ml_X9_157 (by decide) rfl rfl (Nat.le_of_ble_eq_true rfl) dX9_creases_13 (sp_X0_total hs hp hy ⟨by omega, by omega⟩) (fun a_13 w_13 h_13 => ?_)
    obtain ⟨_, _⟩ := h_13
    subst a_13
    subst w_13
    exact j_ireturn X hR dX9_creases_16 ⟨by rw [if_neg (by omega)], rfl⟩
set_option maxHeartbeats 4000000 in
set_option maxRecDepth 20000 in
theorem sp_X9_balance {n : Nat} {w : wd} (hc : CI n w) {x y : Int} (hx : rg x) (hy0 : rg y) {b : Int} (hb : b = 0 ∨ b = 1) : CalI yX9_balance cX9_balance 4 .int 5 LAY w [vR 0, vI x, vI y, vI b] (fun a w' => a = (if 0 ≤ x ∧ 0 ≤ y ∧ ((b = 1 ∧ x < n ∧ y < n) ∨ (b = 0 ∧ x ≤ n ∧ y ≤ n)) then sm (crE n w 2 (2 * x + b) (2 * y + b)) (4 * n * n) - sm (crE n w 1 (2 * x + b) (2 * y + b)) (4 * n * n) else -2) ∧ w' = w) := by
  obtain ⟨hs, hp, hy, hh, hg, hf, hL, hm, hmd, hkn⟩ := id hc
  have h144 := nn_le hs.1.2
  have hn2 := hs.2.2.1
  have hn3 := hs.2.1
  have hn6 := hs.1
  refine calI_intro (ls := [some (vR 0), some (vI x), some (vI y), some (vI b)]) (by decide) (Nat.le_of_ble_eq_true rfl) rfl (fun κ ad X hR => ?_)
  refine j_aload_n X dX9_balance_0 rfl ?_
  refine j_getR X dX9_balance_1 ff_X9_12 rfl rfl ?_
  refine j_iload_n X dX9_balance_4 rfl ?_
  refine j_iload_n X dX9_balance_5 rfl ?_
  refine j_iload_n X dX9_balance_6 rfl ?_
  refine cV3i X mf_X7_hasPoint mv_X7_hasPoint ml_X9_160 (by decide) rfl rfl (Nat.le_of_ble_eq_true rfl) dX9_balance_7 (sp_X7_hasPoint hn3 ⟨by omega, by omega⟩ hx hy0 hb) (fun a_7 w_7 h_7 => ?_)
  obtain ⟨_, _⟩ := h_7
  subst a_7
  subst w_7
  refine jb_ne (tgt := 16) X dX9_balance_10 (by decide) (fun h_10 => ?_) (fun h_10 => ?_)
  · refine j_aload_n X dX9_balance_16 rfl ?_
    refine j_getR X dX9_balance_17 ff_X9_30 rfl rfl ?_
    refine j_iconst X dX9_balance_20 ?_
    refine j_iload_n X dX9_balance_21 rfl ?_
    refine j_iload_n X dX9_balance_22 rfl ?_
    refine j_iload_n X dX9_balance_23 rfl ?_
    refine cV4i X mf_X0_ending mv_X0_ending ml_X9_164 (by decide) rfl rfl (Nat.le_of_ble_eq_true rfl) dX9_balance_24 (sp_X0_ending hs hp hy ⟨by omega, by omega⟩ (by omega) (by omega) hb) (fun a_24 w_24 h_24 => ?_)
    obtain ⟨_, _⟩ := h_24
    subst a_24
    subst w_24
    refine j_aload_n X dX9_balance_27 rfl ?_
    refine j_getR X dX9_balance_28 ff_X9_30 rfl rfl ?_
    refine j_iconst X dX9_balance_31 ?_
    refine j_iload_n X dX9_balance_32 rfl ?_
    refine j_iload_n X dX9_balance_33 rfl ?_
    refine j_iload_n X dX9_balance_34 rfl ?_
    refine cV4i X mf_X0_ending mv_X0_ending ml_X9_164 (by decide) rfl rfl (Nat.le_of_ble_eq_true rfl) dX9_balance_35 (sp_X0_ending hs hp hy ⟨by omega, by omega⟩ (by omega) (by omega) hb) (fun a_35 w_35 h_35 => ?_)
    obtain ⟨_, _⟩ := h_35
    subst a_35
    subst w_35
    refine j_isub X dX9_balance_38 ?_
    exact j_ireturn X hR dX9_balance_39 ⟨by rw [if_pos h_10], rfl⟩
  · refine j_bipush X dX9_balance_13 (by decide +kernel) ?_
    exact j_ireturn X hR dX9_balance_15 ⟨by rw [if_neg h_10], rfl⟩
set_option maxHeartbeats 4000000 in
set_option maxRecDepth 20000 in
theorem sp_X9_degree {n : Nat} {w : wd} (hc : CI n w) {x y : Int} (hx : rg x) (hy0 : rg y) {b : Int} (hb : b = 0 ∨ b = 1) : CalI yX9_degree cX9_degree 4 .int 5 LAY w [vR 0, vI x, vI y, vI b] (fun a w' => a = (if 0 ≤ x ∧ 0 ≤ y ∧ ((b = 1 ∧ x < n ∧ y < n) ∨ (b = 0 ∧ x ≤ n ∧ y ≤ n)) then sm (crE n w 2 (2 * x + b) (2 * y + b)) (4 * n * n) + sm (crE n w 1 (2 * x + b) (2 * y + b)) (4 * n * n) else -2) ∧ w' = w) := by
  obtain ⟨hs, hp, hy, hh, hg, hf, hL, hm, hmd, hkn⟩ := id hc
  have h144 := nn_le hs.1.2
  have hn2 := hs.2.2.1
  have hn3 := hs.2.1
  have hn6 := hs.1
  refine calI_intro (ls := [some (vR 0), some (vI x), some (vI y), some (vI b)]) (by decide) (Nat.le_of_ble_eq_true rfl) rfl (fun κ ad X hR => ?_)
  refine j_aload_n X dX9_degree_0 rfl ?_
  refine j_getR X dX9_degree_1 ff_X9_12 rfl rfl ?_
  refine j_iload_n X dX9_degree_4 rfl ?_
  refine j_iload_n X dX9_degree_5 rfl ?_
  refine j_iload_n X dX9_degree_6 rfl ?_
  refine cV3i X mf_X7_hasPoint mv_X7_hasPoint ml_X9_160 (by decide) rfl rfl (Nat.le_of_ble_eq_true rfl) dX9_degree_7 (sp_X7_hasPoint hn3 ⟨by omega, by omega⟩ hx hy0 hb) (fun a_7 w_7 h_7 => ?_)
  obtain ⟨_, _⟩ := h_7
  subst a_7
  subst w_7
  refine jb_ne (tgt := 16) X dX9_degree_10 (by decide) (fun h_10 => ?_) (fun h_10 => ?_)
  · refine j_aload_n X dX9_degree_16 rfl ?_
    refine j_getR X dX9_degree_17 ff_X9_30 rfl rfl ?_
    refine j_iconst X dX9_degree_20 ?_
    refine j_iload_n X dX9_degree_21 rfl ?_
    refine j_iload_n X dX9_degree_22 rfl ?_
    refine j_iload_n X dX9_degree_23 rfl ?_
    refine cV4i X mf_X0_ending mv_X0_ending ml_X9_164 (by decide) rfl rfl (Nat.le_of_ble_eq_true rfl) dX9_degree_24 (sp_X0_ending hs hp hy ⟨by omega, by omega⟩ (by omega) (by omega) hb) (fun a_24 w_24 h_24 => ?_)
    obtain ⟨_, _⟩ := h_24
    subst a_24
    subst w_24
    refine j_aload_n X dX9_degree_27 rfl ?_
    refine j_getR X dX9_degree_28 ff_X9_30 rfl rfl ?_
    refine j_iconst X dX9_degree_31 ?_
    refine j_iload_n X dX9_degree_32 rfl ?_
    refine j_iload_n X dX9_degree_33 rfl ?_
    refine j_iload_n X dX9_degree_34 rfl ?_
    refine cV4i X mf_X0_ending mv_X0_ending ml_X9_164 (by decide) rfl rfl (Nat.le_of_ble_eq_true rfl) dX9_degree_35 (sp_X0_ending hs hp hy ⟨by omega, by omega⟩ (by omega) (by omega) hb) (fun a_35 w_35 h_35 => ?_)
    obtain ⟨_, _⟩ := h_35
    subst a_35
    subst w_35
    refine j_iadd X dX9_degree_38 ?_
    exact j_ireturn X hR dX9_degree_39 ⟨by rw [if_pos h_10], rfl⟩
  · refine j_bipush X dX9_degree_13 (by decide +kernel) ?_
    exact j_ireturn X hR dX9_degree_15 ⟨by rw [if_neg h_10], rfl⟩
set_option maxHeartbeats 4000000 in
set_option maxRecDepth 20000 in
theorem sp_X9_knife {n : Nat} {w : wd} (hc : CI n w) {t : Int} (ht : rg t) : CalI yX9_knife cX9_knife 3 .int 1 LAY w [vR 0, vI t] (fun a w' => (if 1 ≤ t ∧ t ≤ 144 then a = w 0 6 ∧ w' = wst w 0 6 t else a = -2 ∧ w' = w)) := by
  obtain ⟨hs, hp, hy, hh, hg, hf, hL, hm, hmd, hkn⟩ := id hc
  have h144 := nn_le hs.1.2
  have hn2 := hs.2.2.1
  have hn3 := hs.2.1
  have hn6 := hs.1
  refine calI_intro (ls := [some (vR 0), some (vI t), none]) (by decide) (Nat.le_of_ble_eq_true rfl) rfl (fun κ ad X hR => ?_)
  refine j_iload_n X dX9_knife_0 rfl ?_
  refine j_iconst X dX9_knife_1 ?_
  refine j_icmp_lt (tgt := 12) X dX9_knife_2 (by decide) ⟨by omega, by omega⟩ ⟨by omega, by omega⟩ (fun h_2 => ?_) (fun h_2 => ?_)
  · refine j_bipush X dX9_knife_12 (by decide +kernel) ?_
    exact j_ireturn X hR dX9_knife_14 (by rw [if_neg (by omega)]; exact ⟨rfl, rfl⟩)
  · refine j_iload_n X dX9_knife_5 rfl ?_
    refine j_sipush X dX9_knife_6 (by decide +kernel) ?_
    refine j_icmp_le (tgt := 15) X dX9_knife_9 (by decide) ⟨by omega, by omega⟩ ⟨by omega, by omega⟩ (fun h_9 => ?_) (fun h_9 => ?_)
    · refine j_aload_n X dX9_knife_15 rfl ?_
      refine j_getI X dX9_knife_16 ff_X9_57 rfl rfl ?_
      refine s_2 X dX9_knife_19 rfl ?_
      refine j_aload_n X dX9_knife_20 rfl ?_
      refine j_iload_n X dX9_knife_21 rfl ?_
      refine j_putI X dX9_knife_22 fp_X9_57 rfl rfl ?_
      refine j_iload_n X dX9_knife_25 rfl ?_
      exact j_ireturn X hR dX9_knife_26 (by rw [if_pos (by omega)]; exact ⟨rfl, rfl⟩)
    · refine j_bipush X dX9_knife_12 (by decide +kernel) ?_
      exact j_ireturn X hR dX9_knife_14 (by rw [if_neg (by omega)]; exact ⟨rfl, rfl⟩)
set_option maxHeartbeats 4000000 in
set_option maxRecDepth 20000 in
theorem sp_X9_thickness {n : Nat} {w : wd} (hc : CI n w) {sort l : Int} (hsr : rg sort) (hlr : rg l) : CalI yX9_thickness cX9_thickness 3 .int 5 LAY w [vR 0, vI sort, vI l] (fun a w' => a = (if isLine sort l then mxf (fun k => if touch sort l (w 6 k) (w 7 k) (w 8 k) then w 11 (psp w k).toNat else 0) (4 * n * n) else -2) ∧ w' = w) := by
  obtain ⟨hs, hp, hy, hh, hg, hf, hL, hm, hmd, hkn⟩ := id hc
  have h144 := nn_le hs.1.2
  have hn2 := hs.2.2.1
  have hn3 := hs.2.1
  have hn6 := hs.1
  refine calI_intro (ls := [some (vR 0), some (vI sort), some (vI l)]) (by decide) (Nat.le_of_ble_eq_true rfl) rfl (fun κ ad X hR => ?_)
  refine j_iload_n X dX9_thickness_0 rfl ?_
  refine j_iload_n X dX9_thickness_1 rfl ?_
  refine cS2i X mf_X3_isLine ms_X3_isLine ml_X9_68 (by decide) (Nat.le_of_ble_eq_true rfl) dX9_thickness_2 (sp_X3_isLine hsr hlr) (fun a_2 w_2 h_2 => ?_)
  obtain ⟨_, _⟩ := h_2
  subst a_2
  subst w_2
  refine jb_eq (tgt := 20) X dX9_thickness_5 (by decide) (fun h_5 => ?_) (fun h_5 => ?_)
  · refine j_bipush X dX9_thickness_20 (by decide +kernel) ?_
    exact j_ireturn X hR dX9_thickness_22 ⟨by rw [if_neg h_5], rfl⟩
  · refine j_aload_n X dX9_thickness_8 rfl ?_
    refine j_getR X dX9_thickness_9 ff_X9_21 rfl rfl ?_
    refine j_iload_n X dX9_thickness_12 rfl ?_
    refine j_iload_n X dX9_thickness_13 rfl ?_
    refine cV2i X mf_X4_heightOn mv_X4_heightOn ml_X9_168 (by decide) rfl rfl (Nat.le_of_ble_eq_true rfl) dX9_thickness_14 (sp_X4_heightOn hn2 hp hh h144 hsr hlr) (fun a_14 w_14 h_14 => ?_)
    obtain ⟨_, _⟩ := h_14
    subst a_14
    subst w_14
    refine j_goto (tgt := 22) X dX9_thickness_17 (by decide) ?_
    exact j_ireturn X hR dX9_thickness_22 ⟨by rw [if_pos h_5], rfl⟩
set_option maxHeartbeats 4000000 in
set_option maxRecDepth 20000 in
theorem sp_X9_would {n : Nat} {w : wd} (hc : CI n w) {sort l : Int} (hsr : rg sort) (hlr : rg l) {side : Int} (hdr : rg side) : CalI yX9_would cX9_would 4 .int 5 LAY w [vR 0, vI sort, vI l, vI side] (fun a w' => a = (if isLine sort l ∧ isSide side then sm (fun k => ib (pon sort l side w k)) (4 * n * n) else -2) ∧ w' = w) := by
  obtain ⟨hs, hp, hy, hh, hg, hf, hL, hm, hmd, hkn⟩ := id hc
  have h144 := nn_le hs.1.2
  have hn2 := hs.2.2.1
  have hn3 := hs.2.1
  have hn6 := hs.1
  refine calI_intro (ls := [some (vR 0), some (vI sort), some (vI l), some (vI side)]) (by decide) (Nat.le_of_ble_eq_true rfl) rfl (fun κ ad X hR => ?_)
  refine j_iload_n X dX9_would_0 rfl ?_
  refine j_iload_n X dX9_would_1 rfl ?_
  refine cS2i X mf_X3_isLine ms_X3_isLine ml_X9_68 (by decide) (Nat.le_of_ble_eq_true rfl) dX9_would_2 (sp_X3_isLine hsr hlr) (fun a_2 w_2 h_2 => ?_)
  obtain ⟨_, _⟩ := h_2
  subst a_2
  subst w_2
  refine jb_eq (tgt := 15) X dX9_would_5 (by decide) (fun h_5 => ?_) (fun h_5 => ?_)
  · refine j_bipush X dX9_would_15 (by decide +kernel) ?_
    exact j_ireturn X hR dX9_would_17 ⟨by rw [if_neg (fun z => h_5 z.1)], rfl⟩
  · refine j_iload_n X dX9_would_8 rfl ?_
    refine cS1i X mf_X3_isSide ms_X3_isSide ml_X9_74 (by decide) (Nat.le_of_ble_eq_true rfl) dX9_would_9 (sp_X3_isSide hdr) (fun a_9 w_9 h_9 => ?_)
    obtain ⟨_, _⟩ := h_9
    subst a_9
    subst w_9
    refine jb_ne (tgt := 18) X dX9_would_12 (by decide) (fun h_12 => ?_) (fun h_12 => ?_)
    · refine j_aload_n X dX9_would_18 rfl ?_
      refine j_getR X dX9_would_19 ff_X9_21 rfl rfl ?_
      refine j_iload_n X dX9_would_22 rfl ?_
      refine j_iload_n X dX9_would_23 rfl ?_
      refine j_iload_n X dX9_would_24 rfl ?_
      refine cV3i X mf_X4_lying mv_X4_lying ml_X9_171 (by decide) rfl rfl (Nat.le_of_ble_eq_true rfl) dX9_would_25 (sp_X4_lying hn2 hp h144 hsr hlr hdr) (fun a_25 w_25 h_25 => ?_)
      obtain ⟨_, _⟩ := h_25
      subst a_25
      subst w_25
      exact j_ireturn X hR dX9_would_28 ⟨by rw [if_pos ⟨h_5, h_12⟩], rfl⟩
    · refine j_bipush X dX9_would_15 (by decide +kernel) ?_
      exact j_ireturn X hR dX9_would_17 ⟨by rw [if_neg (fun z => h_12 z.2)], rfl⟩
set_option maxHeartbeats 4000000 in
set_option maxRecDepth 20000 in
theorem sp_X9_fold {n : Nat} {w : wd} (hc : CI n w) {sort l : Int} (hsr : rg sort) (hlr : rg l) {side : Int} (hdr : rg side) {ov : Int} (ho : ov = 0 ∨ ov = 1) (hA : ∀ m : Nat, m < 8 → w 5 11 = (m : Int) → isLine sort l → isSide side → w 17 4 = 0 → (0 < sm (fun k => ib (pon sort l 0 w k)) (4 * n * n) ∧ sm (fun k => ib (pon sort l 0 w k)) (4 * n * n) < ((4 * n * n : Nat) : Int)) → LyO (4 * n * n) (addW (4 * n * n) m sort l side ov w)) : CalI yX9_fold cX9_fold 5 .int 7 LAY w [vR 0, vI sort, vI l, vI side, vI ov] (fun a w' => if isLine sort l ∧ isSide side then (if w 17 4 = 0 ∧ (0 < sm (fun k => ib (pon sort l 0 w k)) (4 * n * n) ∧ sm (fun k => ib (pon sort l 0 w k)) (4 * n * n) < ((4 * n * n : Nat) : Int)) then (if w 5 11 < 8 then w' = addW (4 * n * n) (w 5 11).toNat sort l side ov w ∧ a = sm (fun k => ib (w' 9 k = 0)) (4 * n * n) else a = -4 ∧ w' = w) else a = -3 ∧ w' = w) else a = -2 ∧ w' = w) := by
  obtain ⟨hs, hp, hy, hh, hg, hf, hL, hm, hmd, hkn⟩ := id hc
  have h144 := nn_le hs.1.2
  have hn2 := hs.2.2.1
  have hn3 := hs.2.1
  have hn6 := hs.1
  obtain ⟨m, hm8, hmd⟩ := hmd
  refine calI_intro (ls := [some (vR 0), some (vI sort), some (vI l), some (vI side), some (vI ov)]) (by decide) (Nat.le_of_ble_eq_true rfl) rfl (fun κ ad X hR => ?_)
  refine j_iload_n X dX9_fold_0 rfl ?_
  refine j_iload_n X dX9_fold_1 rfl ?_
  refine cS2i X mf_X3_isLine ms_X3_isLine ml_X9_68 (by decide) (Nat.le_of_ble_eq_true rfl) dX9_fold_2 (sp_X3_isLine hsr hlr) (fun a_2 w_2 h_2 => ?_)
  obtain ⟨_, _⟩ := h_2
  subst a_2
  subst w_2
  refine jb_eq (tgt := 15) X dX9_fold_5 (by decide) (fun h_5 => ?_) (fun h_5 => ?_)
  · refine j_bipush X dX9_fold_15 (by decide +kernel) ?_
    exact j_ireturn X hR dX9_fold_17 (by rw [if_neg (fun z => h_5 z.1)]; exact ⟨rfl, rfl⟩)
  · refine j_iload_n X dX9_fold_8 rfl ?_
    refine cS1i X mf_X3_isSide ms_X3_isSide ml_X9_74 (by decide) (Nat.le_of_ble_eq_true rfl) dX9_fold_9 (sp_X3_isSide hdr) (fun a_9 w_9 h_9 => ?_)
    obtain ⟨_, _⟩ := h_9
    subst a_9
    subst w_9
    refine jb_ne (tgt := 18) X dX9_fold_12 (by decide) (fun h_12 => ?_) (fun h_12 => ?_)
    · refine j_aload_n X dX9_fold_18 rfl ?_
      refine j_getR X dX9_fold_19 ff_X9_37 rfl rfl ?_
      refine j_getI X dX9_fold_22 ff_X9_78 rfl rfl ?_
      refine j_if_ne (tgt := 40) X dX9_fold_25 (by decide) ⟨by omega, by omega⟩ (fun h_25 => ?_) (fun h_25 => ?_)
      · refine j_bipush X dX9_fold_40 (by decide +kernel) ?_
        exact j_ireturn X hR dX9_fold_42 (by rw [if_pos ⟨h_5, h_12⟩, if_neg (fun z => h_25 z.1)]; exact ⟨rfl, rfl⟩)
      · refine j_aload_n X dX9_fold_28 rfl ?_
        refine j_getR X dX9_fold_29 ff_X9_21 rfl rfl ?_
        refine j_iload_n X dX9_fold_32 rfl ?_
        refine j_iload_n X dX9_fold_33 rfl ?_
        refine cV2i X mf_X4_isCrossed mv_X4_isCrossed ml_X9_82 (by decide) rfl rfl (Nat.le_of_ble_eq_true rfl) dX9_fold_34 (sp_X4_isCrossed hn2 hp h144 hsr hlr) (fun a_34 w_34 h_34 => ?_)
        obtain ⟨_, _⟩ := h_34
        subst a_34
        subst w_34
        refine jb_ne (tgt := 43) X dX9_fold_37 (by decide) (fun h_37 => ?_) (fun h_37 => ?_)
        · refine j_aload_n X dX9_fold_43 rfl ?_
          refine j_getR X dX9_fold_44 ff_X9_21 rfl rfl ?_
          refine j_getI X dX9_fold_47 ff_X9_85 rfl rfl ?_
          refine j_bipush X dX9_fold_50 (by decide +kernel) ?_
          refine j_icmp_lt (tgt := 58) X dX9_fold_52 (by decide) ⟨by omega, by omega⟩ ⟨by omega, by omega⟩ (fun h_52 => ?_) (fun h_52 => ?_)
          · refine j_aload_n X dX9_fold_58 rfl ?_
            refine j_getR X dX9_fold_59 ff_X9_21 rfl rfl ?_
            refine j_iload_n X dX9_fold_62 rfl ?_
            refine j_iload_n X dX9_fold_63 rfl ?_
            refine j_iload_n X dX9_fold_64 rfl ?_
            refine j_iload X dX9_fold_65 rfl ?_
            refine cV4v X mf_X4_add mv_X4_add ml_X9_87 (by decide) rfl rfl (Nat.le_of_ble_eq_true rfl) dX9_fold_67 (sp_X4_add (m := m) hn2 h144 hp (by omega) hmd hsr hlr hdr ho) (fun w_67 h_67 => ?_)
            change _ = _ at h_67
            subst w_67
            have hn9 : addW (4 * n * n) m sort l side ov w 1 4 = ((4 * n * n : Nat) : Int) := by unfold addW; rw [turW_o (by omega)]; exact hn2
            refine j_aload_n X dX9_fold_70 rfl ?_
            refine j_getR X dX9_fold_71 ff_X9_21 rfl rfl ?_
            refine cV0i X mf_X4_taken mv_X4_taken ml_X9_91 (by decide) rfl rfl (Nat.le_of_ble_eq_true rfl) dX9_fold_74 (sp_X4_taken (N := 4 * n * n) hn9 (hA m (by omega) hmd h_5 h_12 h_25 h_37) h144) (fun a_74 w_74 h_74 => ?_)
            obtain ⟨_, _⟩ := h_74
            subst a_74
            subst w_74
            exact j_ireturn X hR dX9_fold_77 (by rw [if_pos ⟨h_5, h_12⟩, if_pos ⟨h_25, h_37⟩, if_pos (by omega), show (w 5 11).toNat = m by rw [hmd]; rfl]; exact ⟨rfl, rfl⟩)
          · refine j_bipush X dX9_fold_55 (by decide +kernel) ?_
            exact j_ireturn X hR dX9_fold_57 (by rw [if_pos ⟨h_5, h_12⟩, if_pos ⟨h_25, h_37⟩, if_neg (by omega)]; exact ⟨rfl, rfl⟩)
        · refine j_bipush X dX9_fold_40 (by decide +kernel) ?_
          exact j_ireturn X hR dX9_fold_42 (by rw [if_pos ⟨h_5, h_12⟩, if_neg (fun z => h_37 z.2)]; exact ⟨rfl, rfl⟩)
    · refine j_bipush X dX9_fold_15 (by decide +kernel) ?_
      exact j_ireturn X hR dX9_fold_17 (by rw [if_neg (fun z => h_12 z.2)]; exact ⟨rfl, rfl⟩)
set_option maxHeartbeats 4000000 in
set_option maxRecDepth 20000 in
theorem sp_X9_unfold {n : Nat} {w : wd} (hc : CI n w) (hf9 : ∀ i, i < 8 → rg (w 12 i) ∧ rg (w 13 i) ∧ rg (w 14 i) ∧ (w 15 i = 0 ∨ w 15 i = 1)) (hp9 : ∀ mm : Nat, w 5 11 = (mm : Int) + 1 → ∀ i, i < mm → PlO (4 * n * n) (redo (4 * n * n) (flatW n (wst w 5 11 mm)) i)) : CalI yX9_unfold cX9_unfold 1 .int 7 LAY w [vR 0] (fun a w' => if w 5 11 = 0 then a = -3 ∧ w' = w else w' = redo (4 * n * n) (flatW n (wst w 5 11 (w 5 11 - 1))) (w 5 11 - 1).toNat ∧ a = w 5 11 - 1) := by
  obtain ⟨hs, hp, hy, hh, hg, hf, hL, hm, hmd, hkn⟩ := id hc
  have h144 := nn_le hs.1.2
  have hn2 := hs.2.2.1
  have hn3 := hs.2.1
  have hn6 := hs.1
  obtain ⟨m, hm8, hmd⟩ := hmd
  refine calI_intro (ls := [some (vR 0)]) (by decide) (Nat.le_of_ble_eq_true rfl) rfl (fun κ ad X hR => ?_)
  refine j_aload_n X dX9_unfold_0 rfl ?_
  refine j_getR X dX9_unfold_1 ff_X9_21 rfl rfl ?_
  refine j_getI X dX9_unfold_4 ff_X9_85 rfl rfl ?_
  refine j_if_ne (tgt := 13) X dX9_unfold_7 (by decide) ⟨by omega, by omega⟩ (fun h_7 => ?_) (fun h_7 => ?_)
  · obtain ⟨mm, rfl⟩ : ∃ mm, m = mm + 1 := ⟨m - 1, by omega⟩
    have hmm : w 5 11 = (mm : Int) + 1 := by rw [hmd]; rfl
    have hm1 : w 5 11 - 1 = (mm : Int) := by omega
    refine j_aload_n X dX9_unfold_13 rfl ?_
    refine j_getR X dX9_unfold_14 ff_X9_21 rfl rfl ?_
    refine cV0v X mf_X4_undo mv_X4_undo ml_X9_95 (by decide) rfl rfl (Nat.le_of_ble_eq_true rfl) dX9_unfold_17 (sp_X4_undo (mm := mm) hs (by omega) hmm (fun i hi => hf9 i (by omega)) (hp9 mm hmm)) (fun w_17 h_17 => ?_)
    change _ = _ at h_17
    subst w_17
    refine j_aload_n X dX9_unfold_20 rfl ?_
    refine j_getR X dX9_unfold_21 ff_X9_21 rfl rfl ?_
    refine j_getI X dX9_unfold_24 ff_X9_85 rfl rfl ?_
    rw [show redo (4 * n * n) (flatW n (wst w 5 11 (mm : Int))) mm 5 11 = (mm : Int) by rw [redo_o (by omega), flatW_o (by omega)]; simp [wst, w1]]
    exact j_ireturn X hR dX9_unfold_27 (by rw [if_neg h_7, hm1]; exact ⟨rfl, rfl⟩)
  · refine j_bipush X dX9_unfold_10 (by decide +kernel) ?_
    exact j_ireturn X hR dX9_unfold_12 (by rw [if_pos h_7]; exact ⟨rfl, rfl⟩)
set_option maxHeartbeats 4000000 in
set_option maxRecDepth 20000 in
theorem sp_X9_pieces {n : Nat} {w : wd} (hc : CI n w) {b : Int} (hb : b = 0 ∨ b = 1) : CalI yX9_pieces cX9_pieces 2 .int 4 LAY w [vR 0, vI b] (fun a w' => a = sm (fun k => ib (w 19 k = (k : Int) ∧ ib (w 18 k = 1) = 1 - b)) (4 * n * n) ∧ w' = w) := by
  obtain ⟨hs, hp, hy, hh, hg, hf, hL, hm, hmd, hkn⟩ := id hc
  have h144 := nn_le hs.1.2
  have hn2 := hs.2.2.1
  have hn3 := hs.2.1
  have hn6 := hs.1
  refine calI_intro (ls := [some (vR 0), some (vI b)]) (by decide) (Nat.le_of_ble_eq_true rfl) rfl (fun κ ad X hR => ?_)
  refine j_aload_n X dX9_pieces_0 rfl ?_
  refine j_getR X dX9_pieces_1 ff_X9_37 rfl rfl ?_
  refine j_iload_n X dX9_pieces_4 rfl ?_
  refine j_if_ne (tgt := 12) X dX9_pieces_5 (by decide) ⟨by omega, by omega⟩ (fun h_5 => ?_) (fun h_5 => ?_)
  · refine j_iconst X dX9_pieces_12 ?_
    refine cV1i X mf_X8_total mv_X8_total ml_X9_182 (by decide) rfl rfl (Nat.le_of_ble_eq_true rfl) dX9_pieces_13 (sp_X8_total (b := 0) hn2 h144 hf hL (Or.inl rfl)) (fun a_13 w_13 h_13 => ?_)
    obtain ⟨_, _⟩ := h_13
    subst a_13
    subst w_13
    exact j_ireturn X hR dX9_pieces_16 ⟨by rw [show (1 : Int) - b = 0 by omega], rfl⟩
  · refine j_iconst X dX9_pieces_8 ?_
    refine j_goto (tgt := 13) X dX9_pieces_9 (by decide) ?_
    refine cV1i X mf_X8_total mv_X8_total ml_X9_182 (by decide) rfl rfl (Nat.le_of_ble_eq_true rfl) dX9_pieces_13 (sp_X8_total (b := 1) hn2 h144 hf hL (Or.inr rfl)) (fun a_13 w_13 h_13 => ?_)
    obtain ⟨_, _⟩ := h_13
    subst a_13
    subst w_13
    exact j_ireturn X hR dX9_pieces_16 ⟨by rw [show (1 : Int) - b = 1 by omega], rfl⟩
set_option maxHeartbeats 4000000 in
set_option maxRecDepth 20000 in
theorem sp_X9_holes {n : Nat} {w : wd} (hc : CI n w) : CalI yX9_holes cX9_holes 1 .int 5 LAY w [vR 0] (fun a w' => a = sm (fun k => ib (w 19 k = (k : Int) ∧ w 18 k = 1 ∧ ¬ ∃ j, j < 4 * n * n ∧ (w 19 j = (k : Int) ∧ nb n j 0 = -99999))) (4 * n * n) ∧ w' = w) := by
  obtain ⟨hs, hp, hy, hh, hg, hf, hL, hm, hmd, hkn⟩ := id hc
  have h144 := nn_le hs.1.2
  have hn2 := hs.2.2.1
  have hn3 := hs.2.1
  have hn6 := hs.1
  refine calI_intro (ls := [some (vR 0)]) (by decide) (Nat.le_of_ble_eq_true rfl) rfl (fun κ ad X hR => ?_)
  refine j_aload_n X dX9_holes_0 rfl ?_
  refine j_getR X dX9_holes_1 ff_X9_37 rfl rfl ?_
  refine cV0i X mf_X8_inner mv_X8_inner ml_X9_184 (by decide) rfl rfl (Nat.le_of_ble_eq_true rfl) dX9_holes_4 (sp_X8_inner hs hf hL) (fun a_4 w_4 h_4 => ?_)
  obtain ⟨_, _⟩ := h_4
  subst a_4
  subst w_4
  exact j_ireturn X hR dX9_holes_7 ⟨rfl, rfl⟩
def bdr (n : Nat) (w : wd) (e : Nat) : Int := sm (fun k => ib (nb n k e ≠ -99999 ∧ w 18 k = 1 ∧ ¬ w 18 (nb n k e).toNat = 1)) (4 * n * n)
set_option maxHeartbeats 4000000 in
set_option maxRecDepth 20000 in
theorem sp_X9_rims {n : Nat} {w : wd} (hc : CI n w) {b : Int} (hb : b = 0 ∨ b = 1) : CalI yX9_rims cX9_rims 2 .int 4 LAY w [vR 0, vI b] (fun a w' => a = (if b = 0 then bdr n w 0 else bdr n w 1 + bdr n w 2) ∧ w' = w) := by
  obtain ⟨hs, hp, hy, hh, hg, hf, hL, hm, hmd, hkn⟩ := id hc
  have h144 := nn_le hs.1.2
  have hn2 := hs.2.2.1
  have hn3 := hs.2.1
  have hn6 := hs.1
  refine calI_intro (ls := [some (vR 0), some (vI b)]) (by decide) (Nat.le_of_ble_eq_true rfl) rfl (fun κ ad X hR => ?_)
  refine j_iload_n X dX9_rims_0 rfl ?_
  refine j_if_eq (tgt := 24) X dX9_rims_1 (by decide) ⟨by omega, by omega⟩ (fun h_1 => ?_) (fun h_1 => ?_)
  · refine j_aload_n X dX9_rims_24 rfl ?_
    refine j_getR X dX9_rims_25 ff_X9_37 rfl rfl ?_
    refine j_iconst X dX9_rims_28 ?_
    refine cV1i X mf_X8_border mv_X8_border ml_X9_187 (by decide) rfl rfl (Nat.le_of_ble_eq_true rfl) dX9_rims_29 (sp_X8_border (e := 0) hs hf (by decide)) (fun a_29 w_29 h_29 => ?_)
    obtain ⟨_, _⟩ := h_29
    subst a_29
    subst w_29
    exact j_ireturn X hR dX9_rims_32 ⟨by rw [if_pos (by omega)]; rfl, rfl⟩
  · refine j_aload_n X dX9_rims_4 rfl ?_
    refine j_getR X dX9_rims_5 ff_X9_37 rfl rfl ?_
    refine j_iconst X dX9_rims_8 ?_
    refine cV1i X mf_X8_border mv_X8_border ml_X9_187 (by decide) rfl rfl (Nat.le_of_ble_eq_true rfl) dX9_rims_9 (sp_X8_border (e := 1) hs hf (by decide)) (fun a_9 w_9 h_9 => ?_)
    obtain ⟨_, _⟩ := h_9
    subst a_9
    subst w_9
    refine j_aload_n X dX9_rims_12 rfl ?_
    refine j_getR X dX9_rims_13 ff_X9_37 rfl rfl ?_
    refine j_iconst X dX9_rims_16 ?_
    refine cV1i X mf_X8_border mv_X8_border ml_X9_187 (by decide) rfl rfl (Nat.le_of_ble_eq_true rfl) dX9_rims_17 (sp_X8_border (e := 2) hs hf (by decide)) (fun a_17 w_17 h_17 => ?_)
    obtain ⟨_, _⟩ := h_17
    subst a_17
    subst w_17
    refine j_iadd X dX9_rims_20 ?_
    refine j_goto (tgt := 32) X dX9_rims_21 (by decide) ?_
    exact j_ireturn X hR dX9_rims_32 ⟨by rw [if_neg (by omega)]; rfl, rfl⟩
set_option maxHeartbeats 4000000 in
set_option maxRecDepth 20000 in
theorem sp_X9_piece {n : Nat} {w : wd} (hc : CI n w) {k : Int} (hk : rg k) : CalI yX9_piece cX9_piece 2 .int 3 LAY w [vR 0, vI k] (fun a w' => a = (if 0 ≤ k ∧ k < ((4 * n * n : Nat) : Int) then w 19 k.toNat else -1) ∧ w' = w) := by
  obtain ⟨hs, hp, hy, hh, hg, hf, hL, hm, hmd, hkn⟩ := id hc
  have h144 := nn_le hs.1.2
  have hn2 := hs.2.2.1
  have hn3 := hs.2.1
  have hn6 := hs.1
  refine calI_intro (ls := [some (vR 0), some (vI k)]) (by decide) (Nat.le_of_ble_eq_true rfl) rfl (fun κ ad X hR => ?_)
  refine j_aload_n X dX9_piece_0 rfl ?_
  refine j_getR X dX9_piece_1 ff_X9_12 rfl rfl ?_
  refine j_iload_n X dX9_piece_4 rfl ?_
  refine cV1i X mf_X7_has mv_X7_has ml_X9_98 (by decide) rfl rfl (Nat.le_of_ble_eq_true rfl) dX9_piece_5 (sp_X7_has hn2 h144 hk) (fun a_5 w_5 h_5 => ?_)
  obtain ⟨_, _⟩ := h_5
  subst a_5
  subst w_5
  refine jb_eq (tgt := 22) X dX9_piece_8 (by decide) (fun h_8 => ?_) (fun h_8 => ?_)
  · refine j_iconst X dX9_piece_22 ?_
    exact j_ireturn X hR dX9_piece_23 ⟨by rw [if_neg h_8], rfl⟩
  · obtain ⟨j, rfl⟩ := Int.eq_ofNat_of_zero_le h_8.1
    refine j_aload_n X dX9_piece_11 rfl ?_
    refine j_getR X dX9_piece_12 ff_X9_37 rfl rfl ?_
    refine j_iload_n X dX9_piece_15 rfl ?_
    refine cV1i X mf_X8_leastOf mv_X8_leastOf ml_X9_190 (by decide) rfl rfl (Nat.le_of_ble_eq_true rfl) dX9_piece_16 (sp_X8_leastOf (by omega)) (fun a_16 w_16 h_16 => ?_)
    obtain ⟨_, _⟩ := h_16
    subst a_16
    subst w_16
    refine j_goto (tgt := 23) X dX9_piece_19 (by decide) ?_
    exact j_ireturn X hR dX9_piece_23 ⟨by rw [if_pos h_8]; rfl, rfl⟩
set_option maxHeartbeats 4000000 in
set_option maxRecDepth 20000 in
theorem sp_X9_same {n : Nat} {w : wd} (hc : CI n w) : CalI yX9_same cX9_same 2 .int 3 LAY w [vR 0] (fun a w' => a = ib (∀ k, k < 4 * n * n → ib (w 22 k = 1) = ib (w 18 k = 1)) ∧ w' = w) := by
  obtain ⟨hs, hp, hy, hh, hg, hf, hL, hm, hmd, hkn⟩ := id hc
  have h144 := nn_le hs.1.2
  have hn2 := hs.2.2.1
  have hn3 := hs.2.1
  have hn6 := hs.1
  refine calI_intro (ls := [some (vR 0), none]) (by decide) (Nat.le_of_ble_eq_true rfl) rfl (fun κ ad X hR => ?_)
  refine j_iconst X dX9_same_0 ?_
  refine s_1 X dX9_same_1 rfl ?_
  have L_2 : ∀ (m : Nat) (k : Nat) (_ : ∀ j, j < k → ib (w 22 j = 1) = ib (w 18 j = 1)) (_ : k ≤ 4 * n * n) (_ : 4 * n * n - k < m), J κ LAY ad 0 0 2 [some (vR 0), some (vI (k : Int))] [] w := by
    intro m
    induction m with
    | zero => intro k hj h1 h2; omega
    | succ m ih2 =>
      intro k hj h1 h2
      refine j_iload_n X dX9_same_2 rfl ?_
      refine j_aload_n X dX9_same_3 rfl ?_
      refine j_getR X dX9_same_4 ff_X9_12 rfl rfl ?_
      refine j_getI X dX9_same_7 ff_X9_205 rfl rfl ?_
      refine j_icmp_ge (tgt := 40) X dX9_same_10 (by decide) ⟨by omega, by omega⟩ ⟨by omega, by omega⟩ (fun h_10 => ?_) (fun h_10 => ?_)
      · refine j_iconst X dX9_same_40 ?_
        exact j_ireturn X hR dX9_same_41 ⟨(ib_t (fun j h => hj j (by omega))).symm, rfl⟩
      · refine j_aload_n X dX9_same_13 rfl ?_
        refine j_getR X dX9_same_14 ff_X9_44 rfl rfl ?_
        refine j_iload_n X dX9_same_17 rfl ?_
        refine cV1i X mf_X1_has mv_X1_has ml_X9_127 (by decide) rfl rfl (Nat.le_of_ble_eq_true rfl) dX9_same_18 (sp_X1_has hg (by omega)) (fun a_18 w_18 h_18 => ?_)
        obtain ⟨_, _⟩ := h_18
        subst a_18
        subst w_18
        refine j_aload_n X dX9_same_21 rfl ?_
        refine j_getR X dX9_same_22 ff_X9_37 rfl rfl ?_
        refine j_iload_n X dX9_same_25 rfl ?_
        refine cV1i X mf_X8_isDown mv_X8_isDown ml_X9_124 (by decide) rfl rfl (Nat.le_of_ble_eq_true rfl) dX9_same_26 (sp_X8_isDown hf (by omega)) (fun a_26 w_26 h_26 => ?_)
        obtain ⟨_, _⟩ := h_26
        subst a_26
        subst w_26
        refine j_icmp_eq (tgt := 34) X dX9_same_29 (by decide) ib_rg ib_rg (fun h_29 => ?_) (fun h_29 => ?_)
        · refine inc_1 X dX9_same_34 rfl ?_
          refine j_goto (tgt := 2) X dX9_same_37 (by decide) ?_
          exact ih2 (k + 1) (fun j h => by rcases Nat.lt_succ_iff_lt_or_eq.mp h with q1 | q1; exact hj j q1; subst q1; exact h_29) (by omega) (by omega)
        · refine j_iconst X dX9_same_32 ?_
          exact j_ireturn X hR dX9_same_33 ⟨(ib_f (fun z => h_29 (z k (by omega)))).symm, rfl⟩
  exact L_2 (4 * n * n + 1) 0 (fun j h => absurd h (Nat.not_lt_zero j)) (by omega) (by omega)
set_option maxHeartbeats 4000000 in
set_option maxRecDepth 20000 in
theorem sp_X9_mirror {n : Nat} {w : wd} (hc : CI n w) {sort l : Int} (hsr : rg sort) (hlr : rg l) : CalI yX9_mirror cX9_mirror 3 .int 4 LAY w [vR 0, vI sort, vI l] (fun a w' => a = (if isLine sort l then ib (∀ k, k < 4 * n * n → mirOk n w sort l k) else -2) ∧ w' = w) := by
  obtain ⟨hs, hp, hy, hh, hg, hf, hL, hm, hmd, hkn⟩ := id hc
  have h144 := nn_le hs.1.2
  have hn2 := hs.2.2.1
  have hn3 := hs.2.1
  have hn6 := hs.1
  refine calI_intro (ls := [some (vR 0), some (vI sort), some (vI l)]) (by decide) (Nat.le_of_ble_eq_true rfl) rfl (fun κ ad X hR => ?_)
  refine j_iload_n X dX9_mirror_0 rfl ?_
  refine j_iload_n X dX9_mirror_1 rfl ?_
  refine cS2i X mf_X3_isLine ms_X3_isLine ml_X9_68 (by decide) (Nat.le_of_ble_eq_true rfl) dX9_mirror_2 (sp_X3_isLine hsr hlr) (fun a_2 w_2 h_2 => ?_)
  obtain ⟨_, _⟩ := h_2
  subst a_2
  subst w_2
  refine jb_eq (tgt := 23) X dX9_mirror_5 (by decide) (fun h_5 => ?_) (fun h_5 => ?_)
  · refine j_bipush X dX9_mirror_23 (by decide +kernel) ?_
    exact j_ireturn X hR dX9_mirror_25 ⟨by rw [if_neg h_5], rfl⟩
  · refine j_aload_n X dX9_mirror_8 rfl ?_
    refine j_getR X dX9_mirror_9 ff_X9_44 rfl rfl ?_
    refine j_iload_n X dX9_mirror_12 rfl ?_
    refine j_iload_n X dX9_mirror_13 rfl ?_
    refine cV2i X mf_X1_isMirror mv_X1_isMirror ml_X9_208 (by decide) rfl rfl (Nat.le_of_ble_eq_true rfl) dX9_mirror_14 (sp_X1_isMirror hs hg hsr (by omega)) (fun a_14 w_14 h_14 => ?_)
    obtain ⟨_, _⟩ := h_14
    subst a_14
    subst w_14
    refine cS1i X mf_X9_yes ms_X9_yes ml_X9_117 (by decide) (Nat.le_of_ble_eq_true rfl) dX9_mirror_17 (sp_X9_yes ib_01) (fun a_17 w_17 h_17 => ?_)
    obtain ⟨_, _⟩ := h_17
    subst a_17
    subst w_17
    refine j_goto (tgt := 25) X dX9_mirror_20 (by decide) ?_
    exact j_ireturn X hR dX9_mirror_25 ⟨by rw [if_pos h_5], rfl⟩
set_option maxHeartbeats 4000000 in
set_option maxRecDepth 20000 in
theorem sp_X9_count {n : Nat} {w : wd} (hc : CI n w) {t : Int} (ht : rg t) : CalI yX9_count cX9_count 2 .int 4 LAY w [vR 0, vI t] (fun a w' => a = (if t = 0 then w 1 4 else if t = 1 then w 17 5 else if t = 2 then w 21 2 else if t = 3 then sm (fun k => ib (¬ w 10 k = 1)) (4 * n * n) else if t = 4 then w 1 3 else -2) ∧ w' = w) := by
  obtain ⟨hs, hp, hy, hh, hg, hf, hL, hm, hmd, hkn⟩ := id hc
  have h144 := nn_le hs.1.2
  have hn2 := hs.2.2.1
  have hn3 := hs.2.1
  have hn6 := hs.1
  refine calI_intro (ls := [some (vR 0), some (vI t)]) (by decide) (Nat.le_of_ble_eq_true rfl) rfl (fun κ ad X hR => ?_)
  refine j_iload_n X dX9_count_0 rfl ?_
  rcases (by omega : t = 0 ∨ t = 1 ∨ t = 2 ∨ t = 3 ∨ t = 4 ∨ (t < 0 ∨ 4 < t)) with rfl | rfl | rfl | rfl | rfl | hsw
  · refine j_tabIn (off := 35) (tgt := 36) X dX9_count_1 ⟨by decide, by decide⟩ (by decide) (by decide) rfl (by decide) ?_
    refine j_aload_n X dX9_count_36 rfl ?_
    refine j_getR X dX9_count_37 ff_X9_12 rfl rfl ?_
    refine j_getI X dX9_count_40 ff_X9_205 rfl rfl ?_
    exact j_ireturn X hR dX9_count_43 ⟨rfl, rfl⟩
  · refine j_tabIn (off := 43) (tgt := 44) X dX9_count_1 ⟨by decide, by decide⟩ (by decide) (by decide) rfl (by decide) ?_
    refine j_aload_n X dX9_count_44 rfl ?_
    refine j_getR X dX9_count_45 ff_X9_37 rfl rfl ?_
    refine j_getI X dX9_count_48 ff_X9_179 rfl rfl ?_
    exact j_ireturn X hR dX9_count_51 ⟨rfl, rfl⟩
  · refine j_tabIn (off := 51) (tgt := 52) X dX9_count_1 ⟨by decide, by decide⟩ (by decide) (by decide) rfl (by decide) ?_
    refine j_aload_n X dX9_count_52 rfl ?_
    refine j_getR X dX9_count_53 ff_X9_44 rfl rfl ?_
    refine j_getI X dX9_count_56 ff_X9_203 rfl rfl ?_
    exact j_ireturn X hR dX9_count_59 ⟨rfl, rfl⟩
  · refine j_tabIn (off := 59) (tgt := 60) X dX9_count_1 ⟨by decide, by decide⟩ (by decide) (by decide) rfl (by decide) ?_
    refine j_aload_n X dX9_count_60 rfl ?_
    refine j_getR X dX9_count_61 ff_X9_21 rfl rfl ?_
    refine cV0i X mf_X4_turnedDown mv_X4_turnedDown ml_X9_224 (by decide) rfl rfl (Nat.le_of_ble_eq_true rfl) dX9_count_64 (sp_X4_turnedDown hn2 hp h144) (fun a_64 w_64 h_64 => ?_)
    obtain ⟨_, _⟩ := h_64
    subst a_64
    subst w_64
    exact j_ireturn X hR dX9_count_67 ⟨rfl, rfl⟩
  · refine j_tabIn (off := 67) (tgt := 68) X dX9_count_1 ⟨by decide, by decide⟩ (by decide) (by decide) rfl (by decide) ?_
    refine j_aload_n X dX9_count_68 rfl ?_
    refine j_getR X dX9_count_69 ff_X9_12 rfl rfl ?_
    refine j_getI X dX9_count_72 ff_X9_65 rfl rfl ?_
    exact j_ireturn X hR dX9_count_75 ⟨rfl, rfl⟩
  · refine j_tabOut (tgt := 76) X dX9_count_1 ht hsw (by decide) ?_
    refine j_bipush X dX9_count_76 (by decide +kernel) ?_
    exact j_ireturn X hR dX9_count_78 ⟨by rw [if_neg (by omega), if_neg (by omega), if_neg (by omega), if_neg (by omega), if_neg (by omega)], rfl⟩
