/-! ===== the pile: writes ===== -/
theorem ShO.keep {n : Nat} {w w' : wd} (h : ShO n w) (e : ∀ o, o ≤ 4 → w' o = w o) : ShO n w' := by
  obtain ⟨h1, h2, h3, h4, h5⟩ := h
  refine ⟨h1, ?_, ?_, ?_, ?_⟩
  · rw [e 1 (by decide)]; exact h2
  · rw [e 1 (by decide)]; exact h3
  · rw [e 2 (by decide), e 3 (by decide)]; exact h4
  · rw [e 4 (by decide)]; exact h5
def sprP (n m : Nat) (w : wd) : wd := fun o i => if i < m ∧ 6 ≤ o ∧ o ≤ 10 then (if o = 6 then lx n i else if o = 7 then ly n i else if o = 8 then lq i else if o = 9 then 0 else 1) else w o i
theorem sprP_0 (n : Nat) (w : wd) : sprP n 0 w = w := by
  funext o i
  simp [sprP]
theorem sprP_s (n m : Nat) (w : wd) : wst (wst (wst (wst (wst (sprP n m w) 6 m (lx n m)) 7 m (ly n m)) 8 m (lq m)) 9 m 0) 10 m 1 = sprP n (m + 1) w := by
  funext o i
  by_cases hi : i = m
  · subst hi
    by_cases h : 6 ≤ o ∧ o ≤ 10
    · rcases (by omega : o = 6 ∨ o = 7 ∨ o = 8 ∨ o = 9 ∨ o = 10) with rfl | rfl | rfl | rfl | rfl <;> simp [wst, w1, sprP]
    · have a1 : ¬ o = 6 := by omega
      have a2 : ¬ o = 7 := by omega
      have a3 : ¬ o = 8 := by omega
      have a4 : ¬ o = 9 := by omega
      have a5 : ¬ o = 10 := by omega
      simp only [wst, sprP, a1, a2, a3, a4, a5, if_false]
      rw [if_neg (by omega), if_neg (by omega)]
  · have hm : i < m ↔ i < m + 1 := by omega
    by_cases h : 6 ≤ o ∧ o ≤ 10
    · rcases (by omega : o = 6 ∨ o = 7 ∨ o = 8 ∨ o = 9 ∨ o = 10) with rfl | rfl | rfl | rfl | rfl <;> simp [wst, w1, sprP, hi, hm]
    · have a1 : ¬ o = 6 := by omega
      have a2 : ¬ o = 7 := by omega
      have a3 : ¬ o = 8 := by omega
      have a4 : ¬ o = 9 := by omega
      have a5 : ¬ o = 10 := by omega
      simp only [wst, sprP, a1, a2, a3, a4, a5, if_false]
      rw [if_neg (by omega), if_neg (by omega)]
def mesP (w : wd) (m : Nat) : wd := fun o i => if o = 11 ∧ i < 1024 then sm (fun k => ib (psp w k = (i : Int))) m else w o i
theorem mesP_0 (w : wd) : wfl w 11 1024 0 = mesP w 0 := by
  funext o i
  simp only [wfl, mesP, sm_0]
theorem mesP_s {w : wd} {m s : Nat} (hs : psp w m = (s : Int)) (h : s < 1024) : wst (mesP w m) 11 s (mesP w m 11 s + 1) = mesP w (m + 1) := by
  funext o i
  by_cases ho : o = 11
  · subst ho
    by_cases hi : i = s
    · subst hi
      simp [wst, w1, mesP, h, sm_s, hs, ib]
    · by_cases h2 : i < 1024
      · have : ¬ ((s : Int) = (i : Int)) := by omega
        simp [wst, w1, mesP, hi, h2, sm_s, hs, ib, this]
      · simp [wst, w1, mesP, hi, h2]
  · simp [wst, mesP, ho]
def flW (sort l : Int) (w : wd) (k : Nat) : wd := wst (wst (wst (wst w 6 k (mirX sort l (w 6 k) (w 7 k))) 7 k (mirY sort l (w 6 k) (w 7 k))) 8 k (mirQ sort (w 8 k))) 10 k (ib (¬ w 10 k = 1))
def layB (sort l side ov : Int) (w : wd) (k : Nat) : Int := if pon sort l side w k then (if ov = 0 then w 11 (psp w k).toNat - 1 - w 9 k else w 11 (msp sort l w k).toNat + (w 11 (psp w k).toNat - 1 - w 9 k)) else (if ov = 0 then w 11 (msp sort l w k).toNat + w 9 k else w 9 k)
def layP (sort l side ov : Int) (w : wd) (m : Nat) : wd := fun o i => if o = 9 ∧ i < m then layB sort l side ov w i else w o i
theorem layP_0 (sort l side ov : Int) (w : wd) : layP sort l side ov w 0 = w := by
  funext o i
  simp [layP]
theorem layP_at (sort l side ov : Int) (w : wd) (m : Nat) : layB sort l side ov (layP sort l side ov w m) m = layB sort l side ov w m := by
  have e : layP sort l side ov w m 9 m = w 9 m := by simp [layP]
  unfold layB
  rw [e]
  rfl
theorem layP_s (sort l side ov : Int) (w : wd) (m : Nat) : wst (layP sort l side ov w m) 9 m (layB sort l side ov w m) = layP sort l side ov w (m + 1) := by
  funext o i
  by_cases ho : o = 9
  · subst ho
    by_cases hi : i = m
    · subst hi
      simp [wst, w1, layP]
    · have : i < m ↔ i < m + 1 := by omega
      simp [wst, w1, layP, hi, this]
  · simp [wst, layP, ho]
def flpP (sort l side : Int) (w : wd) (m : Nat) : wd := fun o i => if i < m ∧ pon sort l side w i then (if o = 6 then mirX sort l (w 6 i) (w 7 i) else if o = 7 then mirY sort l (w 6 i) (w 7 i) else if o = 8 then mirQ sort (w 8 i) else if o = 10 then ib (¬ w 10 i = 1) else w o i) else w o i
theorem flpP_0 (sort l side : Int) (w : wd) : flpP sort l side w 0 = w := by
  funext o i
  simp [flpP]
theorem flpP_at (sort l side : Int) (w : wd) (m o : Nat) : flpP sort l side w m o m = w o m := by
  simp [flpP]
theorem flpP_pon (sort l side : Int) (w : wd) (m : Nat) : pon sort l side (flpP sort l side w m) m ↔ pon sort l side w m := by
  unfold pon pst
  rw [flpP_at, flpP_at, flpP_at]
theorem flpP_n {sort l side : Int} {w : wd} {m : Nat} (h : ¬ pon sort l side w m) : flpP sort l side w m = flpP sort l side w (m + 1) := by
  funext o i
  by_cases hi : i = m
  · subst hi
    simp only [flpP]
    rw [if_neg (by omega), if_neg (fun q => h q.2)]
  · have : i < m ↔ i < m + 1 := by omega
    simp only [flpP, this]
theorem flpP_y {sort l side : Int} {w : wd} {m : Nat} (h : pon sort l side w m) : flW sort l (flpP sort l side w m) m = flpP sort l side w (m + 1) := by
  unfold flW
  rw [flpP_at, flpP_at, flpP_at, flpP_at]
  funext o i
  by_cases hi : i = m
  · subst hi
    have e : flpP sort l side w (i + 1) o i = (if o = 6 then mirX sort l (w 6 i) (w 7 i) else if o = 7 then mirY sort l (w 6 i) (w 7 i) else if o = 8 then mirQ sort (w 8 i) else if o = 10 then ib (¬ w 10 i = 1) else w o i) := by
      simp only [flpP]
      rw [if_pos ⟨by omega, h⟩]
    rw [e]
    by_cases h6 : o = 6
    · subst h6; simp [wst, w1]
    · by_cases h7 : o = 7
      · subst h7; simp [wst, w1]
      · by_cases h8 : o = 8
        · subst h8; simp [wst, w1]
        · by_cases h10 : o = 10
          · subst h10; simp [wst, w1]
          · simp only [wst, h6, h7, h8, h10, if_false]
            exact flpP_at sort l side w i o
  · have hm : i < m ↔ i < m + 1 := by omega
    have e : flpP sort l side w (m + 1) o i = flpP sort l side w m o i := by simp only [flpP, hm]
    rw [e]
    by_cases h6 : o = 6
    · subst h6; simp [wst, w1, hi]
    · by_cases h7 : o = 7
      · subst h7; simp [wst, w1, hi]
      · by_cases h8 : o = 8
        · subst h8; simp [wst, w1, hi]
        · by_cases h10 : o = 10
          · subst h10; simp [wst, w1, hi]
          · simp only [wst, h6, h7, h8, h10, if_false]
def turW (N : Nat) (sort l side ov : Int) (w : wd) : wd := mesP (flpP sort l side (layP sort l side ov w N) N) N
theorem turW_o {N : Nat} {sort l side ov : Int} {w : wd} {o : Nat} (h : o < 6 ∨ 11 < o) : turW N sort l side ov w o = w o := by
  funext i
  have h6 : ¬ o = 6 := by omega
  have h7 : ¬ o = 7 := by omega
  have h8 : ¬ o = 8 := by omega
  have h9 : ¬ o = 9 := by omega
  have h10 : ¬ o = 10 := by omega
  have h11 : ¬ o = 11 := by omega
  simp [turW, mesP, flpP, layP, h6, h7, h8, h9, h10, h11]
set_option maxHeartbeats 4000000 in
set_option maxRecDepth 20000 in
theorem sp_X4_measure {N : Nat} {w : wd} (hn : w 1 4 = (N : Int)) (hN : N ≤ 144) : CalV yX4_measure cX4_measure 3 3 LAY w [vR 5] (fun w' => w' = mesP w N) := by
  refine calV_intro (ls := [some (vR 5), none, none]) (by decide) (Nat.le_of_ble_eq_true rfl) rfl (fun κ ad X hR => ?_)
  refine j_aload_n X dX4_measure_0 rfl ?_
  refine j_getR X dX4_measure_1 ff_X4_29 rfl rfl ?_
  refine j_iconst X dX4_measure_4 ?_
  refine cS2v X mf_X5_fill ms_X5_fill ml_X4_131 (by decide) (Nat.le_of_ble_eq_true rfl) dX4_measure_5 (sp_X5_fill rfl (by decide)) (fun w_5 h_5 => ?_)
  change _ = _ at h_5
  subst w_5
  refine j_iconst X dX4_measure_8 ?_
  refine s_1 X dX4_measure_9 rfl ?_
  have L_10 : ∀ (m : Nat) (k : Nat) (_ : k ≤ N) (_ : N - k < m), J κ LAY ad 0 0 10 [some (vR 5), some (vI (k : Int)), none] [] (mesP w k) := by
    intro m
    induction m with
    | zero => intro k h1 h2; omega
    | succ m ih10 =>
      intro k h1 h2
      obtain ⟨s, hs, hs2⟩ : ∃ s : Nat, psp w k = (s : Int) ∧ s < 1024 := ⟨(psp w k).toNat, by have := spot_lt (w 6 k) (w 7 k) (w 8 k); unfold psp; omega, by have := spot_lt (w 6 k) (w 7 k) (w 8 k); unfold psp; omega⟩
      have hn2 : mesP w k 1 4 = (N : Int) := hn
      refine j_iload_n X dX4_measure_10 rfl ?_
      refine j_aload_n X dX4_measure_11 rfl ?_
      refine j_getR X dX4_measure_12 ff_X4_44 rfl rfl ?_
      refine j_getI X dX4_measure_15 ff_X4_73 rfl rfl ?_
      refine j_icmp_ge (tgt := 51) X dX4_measure_18 (by decide) ⟨by omega, by omega⟩ ⟨by omega, by omega⟩ (fun h_18 => ?_) (fun h_18 => ?_)
      · exact j_return X hR dX4_measure_51 (by rw [show k = N by omega])
      · refine j_aload_n X dX4_measure_21 rfl ?_
        refine j_iload_n X dX4_measure_22 rfl ?_
        refine cV1i X mf_X4_spot mv_X4_spot ml_X4_135 (by decide) rfl rfl (Nat.le_of_ble_eq_true rfl) dX4_measure_23 (sp_X4_spot (by omega)) (fun a_23 w_23 h_23 => ?_)
        obtain ⟨_, _⟩ := h_23
        subst a_23
        subst w_23
        rw [show psp (mesP w k) k = (s : Int) from hs]
        refine s_2 X dX4_measure_26 rfl ?_
        refine j_aload_n X dX4_measure_27 rfl ?_
        refine j_getR X dX4_measure_28 ff_X4_29 rfl rfl ?_
        refine j_iload_n X dX4_measure_31 rfl ?_
        refine j_aload_n X dX4_measure_32 rfl ?_
        refine j_getR X dX4_measure_33 ff_X4_29 rfl rfl ?_
        refine j_iload_n X dX4_measure_36 rfl ?_
        refine cS2i X mf_X5_get ms_X5_get ml_X4_69 (by decide) (Nat.le_of_ble_eq_true rfl) dX4_measure_37 (sp_getk (k := s) rfl (by decide) hs2) (fun a_37 w_37 h_37 => ?_)
        obtain ⟨_, _⟩ := h_37
        subst a_37
        subst w_37
        refine j_iconst X dX4_measure_40 ?_
        refine j_iadd X dX4_measure_41 ?_
        refine cS3v X mf_X5_put ms_X5_put ml_X4_55 (by decide) (Nat.le_of_ble_eq_true rfl) dX4_measure_42 (sp_putk (k := s) rfl (by decide) hs2) (fun w_42 h_42 => ?_)
        change _ = _ at h_42
        subst w_42
        refine inc_1 X dX4_measure_45 rfl ?_
        refine j_goto (tgt := 10) X dX4_measure_48 (by decide) ?_
        refine fg_2 ?_
        rw [mesP_s hs hs2]
        exact ih10 (k + 1) (by omega) (by omega)
  rw [mesP_0]
  exact L_10 (N + 1) 0 (by omega) (by omega)
set_option maxHeartbeats 4000000 in
set_option maxRecDepth 20000 in
theorem sp_X4_spread {n : Nat} {w : wd} (hs : ShO n w) : CalV yX4_spread cX4_spread 2 4 LAY w [vR 5] (fun w' => w' = mesP (sprP n (4 * n * n) w) (4 * n * n)) := by
  have h144 := nn_le hs.1.2
  refine calV_intro (ls := [some (vR 5), none]) (by decide) (Nat.le_of_ble_eq_true rfl) rfl (fun κ ad X hR => ?_)
  refine j_iconst X dX4_spread_0 ?_
  refine s_1 X dX4_spread_1 rfl ?_
  have L_2 : ∀ (m : Nat) (k : Nat) (_ : k ≤ 4 * n * n) (_ : 4 * n * n - k < m), J κ LAY ad 0 0 2 [some (vR 5), some (vI (k : Int))] [] (sprP n k w) := by
    intro m
    induction m with
    | zero => intro k h1 h2; omega
    | succ m ih2 =>
      intro k h1 h2
      have hsk : ShO n (sprP n k w) := hs.keep (fun o ho => by funext i; simp only [sprP]; rw [if_neg (by omega)])
      have hn2 := hsk.2.2.1
      refine j_iload_n X dX4_spread_2 rfl ?_
      refine j_aload_n X dX4_spread_3 rfl ?_
      refine j_getR X dX4_spread_4 ff_X4_44 rfl rfl ?_
      refine j_getI X dX4_spread_7 ff_X4_73 rfl rfl ?_
      refine j_icmp_ge (tgt := 85) X dX4_spread_10 (by decide) ⟨by omega, by omega⟩ ⟨by omega, by omega⟩ (fun h_10 => ?_) (fun h_10 => ?_)
      · refine j_aload_n X dX4_spread_85 rfl ?_
        refine cV0v X mf_X4_measure mv_X4_measure ml_X4_88 (by decide) rfl rfl (Nat.le_of_ble_eq_true rfl) dX4_spread_86 (sp_X4_measure hn2 h144) (fun w_86 h_86 => ?_)
        change _ = _ at h_86
        subst w_86
        exact j_return X hR dX4_spread_89 (by rw [show k = 4 * n * n by omega])
      · refine j_aload_n X dX4_spread_13 rfl ?_
        refine j_getR X dX4_spread_14 ff_X4_9 rfl rfl ?_
        refine j_iload_n X dX4_spread_17 rfl ?_
        refine j_aload_n X dX4_spread_18 rfl ?_
        refine j_getR X dX4_spread_19 ff_X4_44 rfl rfl ?_
        refine j_iload_n X dX4_spread_22 rfl ?_
        refine cV1i X mf_X7_x mv_X7_x ml_X4_78 (by decide) rfl rfl (Nat.le_of_ble_eq_true rfl) dX4_spread_23 (sp_X7_x (n := n) hsk (by omega)) (fun a_23 w_23 h_23 => ?_)
        obtain ⟨_, _⟩ := h_23
        subst a_23
        subst w_23
        refine cS3v X mf_X5_put ms_X5_put ml_X4_55 (by decide) (Nat.le_of_ble_eq_true rfl) dX4_spread_26 (sp_putk rfl (by decide) (by omega)) (fun w_26 h_26 => ?_)
        change _ = _ at h_26
        subst w_26
        refine j_aload_n X dX4_spread_29 rfl ?_
        refine j_getR X dX4_spread_30 ff_X4_15 rfl rfl ?_
        refine j_iload_n X dX4_spread_33 rfl ?_
        refine j_aload_n X dX4_spread_34 rfl ?_
        refine j_getR X dX4_spread_35 ff_X4_44 rfl rfl ?_
        refine j_iload_n X dX4_spread_38 rfl ?_
        refine cV1i X mf_X7_y mv_X7_y ml_X4_82 (by decide) rfl rfl (Nat.le_of_ble_eq_true rfl) dX4_spread_39 (sp_X7_y (n := n) (hsk.keep (fun o ho => by simp only [wst]; rw [if_neg (by omega)])) (by omega)) (fun a_39 w_39 h_39 => ?_)
        obtain ⟨_, _⟩ := h_39
        subst a_39
        subst w_39
        refine cS3v X mf_X5_put ms_X5_put ml_X4_55 (by decide) (Nat.le_of_ble_eq_true rfl) dX4_spread_42 (sp_putk rfl (by decide) (by omega)) (fun w_42 h_42 => ?_)
        change _ = _ at h_42
        subst w_42
        refine j_aload_n X dX4_spread_45 rfl ?_
        refine j_getR X dX4_spread_46 ff_X4_18 rfl rfl ?_
        refine j_iload_n X dX4_spread_49 rfl ?_
        refine j_aload_n X dX4_spread_50 rfl ?_
        refine j_getR X dX4_spread_51 ff_X4_44 rfl rfl ?_
        refine j_iload_n X dX4_spread_54 rfl ?_
        refine cV1i X mf_X7_quarter mv_X7_quarter ml_X4_85 (by decide) rfl rfl (Nat.le_of_ble_eq_true rfl) dX4_spread_55 (sp_X7_quarter) (fun a_55 w_55 h_55 => ?_)
        obtain ⟨_, _⟩ := h_55
        subst a_55
        subst w_55
        refine cS3v X mf_X5_put ms_X5_put ml_X4_55 (by decide) (Nat.le_of_ble_eq_true rfl) dX4_spread_58 (sp_putk rfl (by decide) (by omega)) (fun w_58 h_58 => ?_)
        change _ = _ at h_58
        subst w_58
        refine j_aload_n X dX4_spread_61 rfl ?_
        refine j_getR X dX4_spread_62 ff_X4_21 rfl rfl ?_
        refine j_iload_n X dX4_spread_65 rfl ?_
        refine j_iconst X dX4_spread_66 ?_
        refine cS3v X mf_X5_put ms_X5_put ml_X4_55 (by decide) (Nat.le_of_ble_eq_true rfl) dX4_spread_67 (sp_putk rfl (by decide) (by omega)) (fun w_67 h_67 => ?_)
        change _ = _ at h_67
        subst w_67
        refine j_aload_n X dX4_spread_70 rfl ?_
        refine j_getR X dX4_spread_71 ff_X4_24 rfl rfl ?_
        refine j_iload_n X dX4_spread_74 rfl ?_
        refine j_iconst X dX4_spread_75 ?_
        refine cS3v X mf_X5_put ms_X5_put ml_X4_55 (by decide) (Nat.le_of_ble_eq_true rfl) dX4_spread_76 (sp_putk rfl (by decide) (by omega)) (fun w_76 h_76 => ?_)
        change _ = _ at h_76
        subst w_76
        refine inc_1 X dX4_spread_79 rfl ?_
        refine j_goto (tgt := 2) X dX4_spread_82 (by decide) ?_
        rw [sprP_s]
        exact ih2 (k + 1) (by omega) (by omega)
  have h0 := L_2 (4 * n * n + 1) 0 (by omega) (by omega)
  rw [sprP_0] at h0
  exact h0
set_option maxHeartbeats 4000000 in
set_option maxRecDepth 20000 in
theorem sp_X4_flip {k : Nat} {sort l : Int} {w : wd} (hk : k < 144) (hs : rg sort) (hu : w 10 k = 0 ∨ w 10 k = 1) : CalV yX4_flip cX4_flip 6 3 LAY w [vR 5, vI (k : Int), vI sort, vI l] (fun w' => w' = flW sort l w k) := by
  refine calV_intro (ls := [some (vR 5), some (vI (k : Int)), some (vI sort), some (vI l), none, none]) (by decide) (Nat.le_of_ble_eq_true rfl) rfl (fun κ ad X hR => ?_)
  refine j_iload_n X dX4_flip_0 rfl ?_
  refine j_iload_n X dX4_flip_1 rfl ?_
  refine j_aload_n X dX4_flip_2 rfl ?_
  refine j_iload_n X dX4_flip_3 rfl ?_
  refine cV1i X mf_X4_x mv_X4_x ml_X4_113 (by decide) rfl rfl (Nat.le_of_ble_eq_true rfl) dX4_flip_4 (sp_X4_x (by omega)) (fun a_4 w_4 h_4 => ?_)
  obtain ⟨_, _⟩ := h_4
  subst a_4
  subst w_4
  refine j_aload_n X dX4_flip_7 rfl ?_
  refine j_iload_n X dX4_flip_8 rfl ?_
  refine cV1i X mf_X4_y mv_X4_y ml_X4_114 (by decide) rfl rfl (Nat.le_of_ble_eq_true rfl) dX4_flip_9 (sp_X4_y (by omega)) (fun a_9 w_9 h_9 => ?_)
  obtain ⟨_, _⟩ := h_9
  subst a_9
  subst w_9
  refine cS4i X mf_X3_mirrorX ms_X3_mirrorX ml_X4_115 (by decide) (Nat.le_of_ble_eq_true rfl) dX4_flip_12 (sp_X3_mirrorX hs) (fun a_12 w_12 h_12 => ?_)
  obtain ⟨_, _⟩ := h_12
  subst a_12
  subst w_12
  refine s_4 X dX4_flip_15 rfl ?_
  refine j_iload_n X dX4_flip_17 rfl ?_
  refine j_iload_n X dX4_flip_18 rfl ?_
  refine j_aload_n X dX4_flip_19 rfl ?_
  refine j_iload_n X dX4_flip_20 rfl ?_
  refine cV1i X mf_X4_x mv_X4_x ml_X4_113 (by decide) rfl rfl (Nat.le_of_ble_eq_true rfl) dX4_flip_21 (sp_X4_x (by omega)) (fun a_21 w_21 h_21 => ?_)
  obtain ⟨_, _⟩ := h_21
  subst a_21
  subst w_21
  refine j_aload_n X dX4_flip_24 rfl ?_
  refine j_iload_n X dX4_flip_25 rfl ?_
  refine cV1i X mf_X4_y mv_X4_y ml_X4_114 (by decide) rfl rfl (Nat.le_of_ble_eq_true rfl) dX4_flip_26 (sp_X4_y (by omega)) (fun a_26 w_26 h_26 => ?_)
  obtain ⟨_, _⟩ := h_26
  subst a_26
  subst w_26
  refine cS4i X mf_X3_mirrorY ms_X3_mirrorY ml_X4_119 (by decide) (Nat.le_of_ble_eq_true rfl) dX4_flip_29 (sp_X3_mirrorY hs) (fun a_29 w_29 h_29 => ?_)
  obtain ⟨_, _⟩ := h_29
  subst a_29
  subst w_29
  refine s_5 X dX4_flip_32 rfl ?_
  refine j_aload_n X dX4_flip_34 rfl ?_
  refine j_getR X dX4_flip_35 ff_X4_9 rfl rfl ?_
  refine j_iload_n X dX4_flip_38 rfl ?_
  refine j_iload X dX4_flip_39 rfl ?_
  refine cS3v X mf_X5_put ms_X5_put ml_X4_55 (by decide) (Nat.le_of_ble_eq_true rfl) dX4_flip_41 (sp_putk rfl (by decide) (by omega)) (fun w_41 h_41 => ?_)
  change _ = _ at h_41
  subst w_41
  refine j_aload_n X dX4_flip_44 rfl ?_
  refine j_getR X dX4_flip_45 ff_X4_15 rfl rfl ?_
  refine j_iload_n X dX4_flip_48 rfl ?_
  refine j_iload X dX4_flip_49 rfl ?_
  refine cS3v X mf_X5_put ms_X5_put ml_X4_55 (by decide) (Nat.le_of_ble_eq_true rfl) dX4_flip_51 (sp_putk rfl (by decide) (by omega)) (fun w_51 h_51 => ?_)
  change _ = _ at h_51
  subst w_51
  refine j_aload_n X dX4_flip_54 rfl ?_
  refine j_getR X dX4_flip_55 ff_X4_18 rfl rfl ?_
  refine j_iload_n X dX4_flip_58 rfl ?_
  refine j_iload_n X dX4_flip_59 rfl ?_
  refine j_aload_n X dX4_flip_60 rfl ?_
  refine j_iload_n X dX4_flip_61 rfl ?_
  refine cV1i X mf_X4_quarter mv_X4_quarter ml_X4_122 (by decide) rfl rfl (Nat.le_of_ble_eq_true rfl) dX4_flip_62 (sp_X4_quarter (by omega)) (fun a_62 w_62 h_62 => ?_)
  obtain ⟨_, _⟩ := h_62
  subst a_62
  subst w_62
  refine cS2i X mf_X3_mirrorQuarter ms_X3_mirrorQuarter ml_X4_123 (by decide) (Nat.le_of_ble_eq_true rfl) dX4_flip_65 (sp_X3_mirrorQuarter hs) (fun a_65 w_65 h_65 => ?_)
  obtain ⟨_, _⟩ := h_65
  subst a_65
  subst w_65
  refine cS3v X mf_X5_put ms_X5_put ml_X4_55 (by decide) (Nat.le_of_ble_eq_true rfl) dX4_flip_68 (sp_putk rfl (by decide) (by omega)) (fun w_68 h_68 => ?_)
  change _ = _ at h_68
  subst w_68
  refine j_aload_n X dX4_flip_71 rfl ?_
  refine j_getR X dX4_flip_72 ff_X4_24 rfl rfl ?_
  refine j_iload_n X dX4_flip_75 rfl ?_
  refine j_aload_n X dX4_flip_76 rfl ?_
  refine j_iload_n X dX4_flip_77 rfl ?_
  refine cV1i X mf_X4_isUp mv_X4_isUp ml_X4_127 (by decide) rfl rfl (Nat.le_of_ble_eq_true rfl) dX4_flip_78 (sp_X4_isUp (by omega) hu) (fun a_78 w_78 h_78 => ?_)
  obtain ⟨_, _⟩ := h_78
  subst a_78
  subst w_78
  refine jb_ne (tgt := 88) X dX4_flip_81 (by decide) (fun h_81 => ?_) (fun h_81 => ?_)
  · refine j_iconst X dX4_flip_88 ?_
    refine cS1i X mf_X9_yes ms_X9_yes ml_X4_61 (by decide) (Nat.le_of_ble_eq_true rfl) dX4_flip_89 (sp_X9_yes (by first | exact Or.inr rfl | exact Or.inl rfl | exact ib_01)) (fun a_89 w_89 h_89 => ?_)
    obtain ⟨_, _⟩ := h_89
    subst a_89
    subst w_89
    refine cS3v X mf_X5_put ms_X5_put ml_X4_55 (by decide) (Nat.le_of_ble_eq_true rfl) dX4_flip_92 (sp_putk rfl (by decide) (by omega)) (fun w_92 h_92 => ?_)
    change _ = _ at h_92
    subst w_92
    exact j_return X hR dX4_flip_95 (by unfold flW; rw [ib_f (fun q => q (by assumption))]; rfl)
  · refine j_iconst X dX4_flip_84 ?_
    refine j_goto (tgt := 89) X dX4_flip_85 (by decide) ?_
    refine cS1i X mf_X9_yes ms_X9_yes ml_X4_61 (by decide) (Nat.le_of_ble_eq_true rfl) dX4_flip_89 (sp_X9_yes (by first | exact Or.inr rfl | exact Or.inl rfl | exact ib_01)) (fun a_89 w_89 h_89 => ?_)
    obtain ⟨_, _⟩ := h_89
    subst a_89
    subst w_89
    refine cS3v X mf_X5_put ms_X5_put ml_X4_55 (by decide) (Nat.le_of_ble_eq_true rfl) dX4_flip_92 (sp_putk rfl (by decide) (by omega)) (fun w_92 h_92 => ?_)
    change _ = _ at h_92
    subst w_92
    exact j_return X hR dX4_flip_95 (by unfold flW; rw [ib_t (by assumption)]; rfl)
set_option maxHeartbeats 4000000 in
set_option maxRecDepth 20000 in
theorem sp_X4_layerBehind {k : Nat} {sort l side ov : Int} {w : wd} (h1 : PlK w k) (hk : k < 144) (hs : rg sort) (hl : rg l) (hd : rg side) (ho : ov = 0 ∨ ov = 1) : CalI yX4_layerBehind cX4_layerBehind 8 .int 4 LAY w [vR 5, vI (k : Int), vI sort, vI l, vI side, vI ov] (fun a w' => a = layB sort l side ov w k ∧ w' = w) := by
  have hsp := spot_lt (mirX sort l (w 6 k) (w 7 k)) (mirY sort l (w 6 k) (w 7 k)) (mirQ sort (w 8 k))
  change 0 ≤ msp sort l w k ∧ msp sort l w k < 1024 at hsp
  have hrg : rget (w 11) 1024 (msp sort l w k) = w 11 (msp sort l w k).toNat := by unfold rget; rw [if_pos (by omega)]
  refine calI_intro (ls := [some (vR 5), some (vI (k : Int)), some (vI sort), some (vI l), some (vI side), some (vI ov), none, none]) (by decide) (Nat.le_of_ble_eq_true rfl) rfl (fun κ ad X hR => ?_)
  refine j_aload_n X dX4_layerBehind_0 rfl ?_
  refine j_getR X dX4_layerBehind_1 ff_X4_29 rfl rfl ?_
  refine j_aload_n X dX4_layerBehind_4 rfl ?_
  refine j_iload_n X dX4_layerBehind_5 rfl ?_
  refine j_iload_n X dX4_layerBehind_6 rfl ?_
  refine j_iload_n X dX4_layerBehind_7 rfl ?_
  refine cV3i X mf_X4_mirrorSpot mv_X4_mirrorSpot ml_X4_103 (by decide) rfl rfl (Nat.le_of_ble_eq_true rfl) dX4_layerBehind_8 (sp_X4_mirrorSpot (by omega) hs) (fun a_8 w_8 h_8 => ?_)
  obtain ⟨_, _⟩ := h_8
  subst a_8
  subst w_8
  refine cS2i X mf_X5_get ms_X5_get ml_X4_69 (by decide) (Nat.le_of_ble_eq_true rfl) dX4_layerBehind_11 (sp_X5_get rfl (by decide) ⟨by omega, by omega⟩) (fun a_11 w_11 h_11 => ?_)
  obtain ⟨_, _⟩ := h_11
  subst a_11
  subst w_11
  rw [hrg]
  refine s_6 X dX4_layerBehind_14 rfl ?_
  refine j_aload_n X dX4_layerBehind_16 rfl ?_
  refine j_iload_n X dX4_layerBehind_17 rfl ?_
  refine j_iload_n X dX4_layerBehind_18 rfl ?_
  refine j_iload_n X dX4_layerBehind_19 rfl ?_
  refine j_iload X dX4_layerBehind_20 rfl ?_
  refine cV4i X mf_X4_isOn mv_X4_isOn ml_X4_95 (by decide) rfl rfl (Nat.le_of_ble_eq_true rfl) dX4_layerBehind_22 (sp_X4_isOn h1 hk hs hl hd) (fun a_22 w_22 h_22 => ?_)
  obtain ⟨_, _⟩ := h_22
  subst a_22
  subst w_22
  refine jb_eq (tgt := 59) X dX4_layerBehind_25 (by decide) (fun h_25 => ?_) (fun h_25 => ?_)
  · refine j_iload X dX4_layerBehind_59 rfl ?_
    refine j_if_eq (tgt := 72) X dX4_layerBehind_61 (by decide) ⟨by omega, by omega⟩ (fun h_61 => ?_) (fun h_61 => ?_)
    · refine j_iload X dX4_layerBehind_72 rfl ?_
      refine j_aload_n X dX4_layerBehind_74 rfl ?_
      refine j_iload_n X dX4_layerBehind_75 rfl ?_
      refine cV1i X mf_X4_layer mv_X4_layer ml_X4_110 (by decide) rfl rfl (Nat.le_of_ble_eq_true rfl) dX4_layerBehind_76 (sp_X4_layer (by omega)) (fun a_76 w_76 h_76 => ?_)
      obtain ⟨_, _⟩ := h_76
      subst a_76
      subst w_76
      refine j_iadd X dX4_layerBehind_79 ?_
      exact j_ireturn X hR dX4_layerBehind_80 ⟨by unfold layB; rw [if_neg h_25, if_pos (by omega)], rfl⟩
    · refine j_aload_n X dX4_layerBehind_64 rfl ?_
      refine j_iload_n X dX4_layerBehind_65 rfl ?_
      refine cV1i X mf_X4_layer mv_X4_layer ml_X4_110 (by decide) rfl rfl (Nat.le_of_ble_eq_true rfl) dX4_layerBehind_66 (sp_X4_layer (by omega)) (fun a_66 w_66 h_66 => ?_)
      obtain ⟨_, _⟩ := h_66
      subst a_66
      subst w_66
      refine j_goto (tgt := 80) X dX4_layerBehind_69 (by decide) ?_
      exact j_ireturn X hR dX4_layerBehind_80 ⟨by unfold layB; rw [if_neg h_25, if_neg (by omega)], rfl⟩
  · refine j_aload_n X dX4_layerBehind_28 rfl ?_
    refine j_iload_n X dX4_layerBehind_29 rfl ?_
    refine cV1i X mf_X4_heightOver mv_X4_heightOver ml_X4_107 (by decide) rfl rfl (Nat.le_of_ble_eq_true rfl) dX4_layerBehind_30 (sp_X4_heightOver (by omega)) (fun a_30 w_30 h_30 => ?_)
    obtain ⟨_, _⟩ := h_30
    subst a_30
    subst w_30
    refine j_iconst X dX4_layerBehind_33 ?_
    refine j_isub X dX4_layerBehind_34 ?_
    refine j_aload_n X dX4_layerBehind_35 rfl ?_
    refine j_iload_n X dX4_layerBehind_36 rfl ?_
    refine cV1i X mf_X4_layer mv_X4_layer ml_X4_110 (by decide) rfl rfl (Nat.le_of_ble_eq_true rfl) dX4_layerBehind_37 (sp_X4_layer (by omega)) (fun a_37 w_37 h_37 => ?_)
    obtain ⟨_, _⟩ := h_37
    subst a_37
    subst w_37
    refine j_isub X dX4_layerBehind_40 ?_
    refine s_7 X dX4_layerBehind_41 rfl ?_
    refine j_iload X dX4_layerBehind_43 rfl ?_
    refine j_if_eq (tgt := 56) X dX4_layerBehind_45 (by decide) ⟨by omega, by omega⟩ (fun h_45 => ?_) (fun h_45 => ?_)
    · refine j_iload X dX4_layerBehind_56 rfl ?_
      exact j_ireturn X hR dX4_layerBehind_58 ⟨by unfold layB; rw [if_pos h_25, if_pos (by omega)], rfl⟩
    · refine j_iload X dX4_layerBehind_48 rfl ?_
      refine j_iload X dX4_layerBehind_50 rfl ?_
      refine j_iadd X dX4_layerBehind_52 ?_
      refine j_goto (tgt := 58) X dX4_layerBehind_53 (by decide) ?_
      exact j_ireturn X hR dX4_layerBehind_58 ⟨by unfold layB; rw [if_pos h_25, if_neg (by omega)], rfl⟩
set_option maxHeartbeats 4000000 in
set_option maxRecDepth 20000 in
theorem sp_X4_turn {N : Nat} {sort l side ov : Int} {w : wd} (hn : w 1 4 = (N : Int)) (hN : N ≤ 144) (hp : PlO N w) (hs : rg sort) (hl : rg l) (hd : rg side) (ho : ov = 0 ∨ ov = 1) : CalV yX4_turn cX4_turn 6 5 LAY w [vR 5, vI sort, vI l, vI side, vI ov] (fun w' => w' = turW N sort l side ov w) := by
  refine calV_intro (ls := [some (vR 5), some (vI sort), some (vI l), some (vI side), some (vI ov), none]) (by decide) (Nat.le_of_ble_eq_true rfl) rfl (fun κ ad X hR => ?_)
  refine j_iconst X dX4_turn_0 ?_
  refine s_5 X dX4_turn_1 rfl ?_
  have L_3 : ∀ (m : Nat) (k : Nat) (_ : k ≤ N) (_ : N - k < m), J κ LAY ad 0 0 3 [some (vR 5), some (vI sort), some (vI l), some (vI side), some (vI ov), some (vI (k : Int))] [] (layP sort l side ov w k) := by
    intro m
    induction m with
    | zero => intro k h1 h2; omega
    | succ m ih3 =>
      intro k h1 h2
      have hn2 : layP sort l side ov w k 1 4 = (N : Int) := hn
      refine j_iload X dX4_turn_3 rfl ?_
      refine j_aload_n X dX4_turn_5 rfl ?_
      refine j_getR X dX4_turn_6 ff_X4_44 rfl rfl ?_
      refine j_getI X dX4_turn_9 ff_X4_73 rfl rfl ?_
      refine j_icmp_ge (tgt := 41) X dX4_turn_12 (by decide) ⟨by omega, by omega⟩ ⟨by omega, by omega⟩ (fun h_12 => ?_) (fun h_12 => ?_)
      · rw [show k = N by omega]
        refine j_iconst X dX4_turn_41 ?_
        refine s_5 X dX4_turn_42 rfl ?_
        have L_44 : ∀ (m : Nat) (k : Nat) (_ : k ≤ N) (_ : N - k < m), J κ LAY ad 0 0 44 [some (vR 5), some (vI sort), some (vI l), some (vI side), some (vI ov), some (vI (k : Int))] [] (flpP sort l side (layP sort l side ov w N) k) := by
          intro m
          induction m with
          | zero => intro k h1 h2; omega
          | succ m ih44 =>
            intro k h1 h2
            have e6 := flpP_at sort l side (layP sort l side ov w N) k
            have hn2 : flpP sort l side (layP sort l side ov w N) k 1 4 = (N : Int) := by simp [flpP, layP, hn]
            refine j_iload X dX4_turn_44 rfl ?_
            refine j_aload_n X dX4_turn_46 rfl ?_
            refine j_getR X dX4_turn_47 ff_X4_44 rfl rfl ?_
            refine j_getI X dX4_turn_50 ff_X4_73 rfl rfl ?_
            refine j_icmp_ge (tgt := 82) X dX4_turn_53 (by decide) ⟨by omega, by omega⟩ ⟨by omega, by omega⟩ (fun h_53 => ?_) (fun h_53 => ?_)
            · refine j_aload_n X dX4_turn_82 rfl ?_
              refine cV0v X mf_X4_measure mv_X4_measure ml_X4_88 (by decide) rfl rfl (Nat.le_of_ble_eq_true rfl) dX4_turn_83 (sp_X4_measure hn2 hN) (fun w_83 h_83 => ?_)
              change _ = _ at h_83
              subst w_83
              exact j_return X hR dX4_turn_86 (by rw [show k = N by omega]; rfl)
            · refine j_aload_n X dX4_turn_56 rfl ?_
              refine j_iload X dX4_turn_57 rfl ?_
              refine j_iload_n X dX4_turn_59 rfl ?_
              refine j_iload_n X dX4_turn_60 rfl ?_
              refine j_iload_n X dX4_turn_61 rfl ?_
              refine cV4i X mf_X4_isOn mv_X4_isOn ml_X4_95 (by decide) rfl rfl (Nat.le_of_ble_eq_true rfl) dX4_turn_62 (sp_X4_isOn (by unfold PlK; rw [e6, e6, e6, e6]; exact hp k (by omega)) (by omega) hs hl hd) (fun a_62 w_62 h_62 => ?_)
              obtain ⟨_, _⟩ := h_62
              subst a_62
              subst w_62
              refine jb_eq (tgt := 76) X dX4_turn_65 (by decide) (fun h_65 => ?_) (fun h_65 => ?_)
              · refine inc_5 X dX4_turn_76 rfl ?_
                refine j_goto (tgt := 44) X dX4_turn_79 (by decide) ?_
                rw [flpP_n (fun q => h_65 ((flpP_pon _ _ _ _ _).mpr q))]
                exact ih44 (k + 1) (by omega) (by omega)
              · refine j_aload_n X dX4_turn_68 rfl ?_
                refine j_iload X dX4_turn_69 rfl ?_
                refine j_iload_n X dX4_turn_71 rfl ?_
                refine j_iload_n X dX4_turn_72 rfl ?_
                refine cV3v X mf_X4_flip mv_X4_flip ml_X4_99 (by decide) rfl rfl (Nat.le_of_ble_eq_true rfl) dX4_turn_73 (sp_X4_flip (by omega) hs (by rw [e6]; exact (hp k (by omega)).2.2.2)) (fun w_73 h_73 => ?_)
                change _ = _ at h_73
                subst w_73
                refine inc_5 X dX4_turn_76 rfl ?_
                refine j_goto (tgt := 44) X dX4_turn_79 (by decide) ?_
                rw [flpP_y ((flpP_pon _ _ _ _ _).mp h_65)]
                exact ih44 (k + 1) (by omega) (by omega)
        have h0 := L_44 (N + 1) 0 (by omega) (by omega)
        rw [flpP_0] at h0
        exact h0
      · refine j_aload_n X dX4_turn_15 rfl ?_
        refine j_getR X dX4_turn_16 ff_X4_21 rfl rfl ?_
        refine j_iload X dX4_turn_19 rfl ?_
        refine j_aload_n X dX4_turn_21 rfl ?_
        refine j_iload X dX4_turn_22 rfl ?_
        refine j_iload_n X dX4_turn_24 rfl ?_
        refine j_iload_n X dX4_turn_25 rfl ?_
        refine j_iload_n X dX4_turn_26 rfl ?_
        refine j_iload X dX4_turn_27 rfl ?_
        refine cV5i X mf_X4_layerBehind mv_X4_layerBehind ml_X4_91 (by decide) rfl rfl (Nat.le_of_ble_eq_true rfl) dX4_turn_29 (sp_X4_layerBehind (hp k (by omega)) (by omega) hs hl hd ho) (fun a_29 w_29 h_29 => ?_)
        obtain ⟨_, _⟩ := h_29
        subst a_29
        subst w_29
        refine cS3v X mf_X5_put ms_X5_put ml_X4_55 (by decide) (Nat.le_of_ble_eq_true rfl) dX4_turn_32 (sp_putk rfl (by decide) (by omega)) (fun w_32 h_32 => ?_)
        change _ = _ at h_32
        subst w_32
        refine inc_5 X dX4_turn_35 rfl ?_
        refine j_goto (tgt := 3) X dX4_turn_38 (by decide) ?_
        rw [layP_at, layP_s]
        exact ih3 (k + 1) (by omega) (by omega)
  have h0 := L_3 (N + 1) 0 (by omega) (by omega)
  rw [layP_0] at h0
  exact h0
