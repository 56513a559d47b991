/-! ===== the reference: small methods ===== -/
section JKX
variable {κ : KT} {cc : ByteArray} {own : String} {fr : Nat} {lay : lyT} {ad : Nat → Nat} {cn sn pc : Nat} {ls : List (Option av)} {st : List av} {w : wd}
theorem j_ialdk (X : Okk κ cc own fr) {o n i : Nat} (hd : decode cc pc = .ok (.iaload, 1)) (hl : lay[o]? = some (.inr (false, n))) (h1 : i < n) (hn : n < 2147483648) (k : J κ lay ad cn sn (pc + 1) ls (vI (w o i) :: st) w) : J κ lay ad cn sn pc ls (vI (i : Int) :: vR o :: st) w := j_iald X hd hl (by omega) (by omega) hn k
theorem j_zaldk (X : Okk κ cc own fr) {o n i : Nat} (hd : decode cc pc = .ok (.baload, 1)) (hl : lay[o]? = some (.inr (true, n))) (h1 : i < n) (hn : n < 2147483648) (k : J κ lay ad cn sn (pc + 1) ls (vI (w o i) :: st) w) : J κ lay ad cn sn pc ls (vI (i : Int) :: vR o :: st) w := j_zald X hd hl (by omega) (by omega) hn k
theorem j_iastk (X : Okk κ cc own fr) {o n i : Nat} {a : Int} (hd : decode cc pc = .ok (.iastore, 1)) (hl : lay[o]? = some (.inr (false, n))) (h1 : i < n) (hn : n < 2147483648) (k : J κ lay ad cn sn (pc + 1) ls st (wst w o i a)) : J κ lay ad cn sn pc ls (vI a :: vI (i : Int) :: vR o :: st) w := j_iast X hd hl (by omega) (by omega) hn k
theorem j_zastk (X : Okk κ cc own fr) {o n i : Nat} {a : Int} (hd : decode cc pc = .ok (.bastore, 1)) (hl : lay[o]? = some (.inr (true, n))) (h1 : i < n) (hn : n < 2147483648) (hz : a = 0 ∨ a = 1) (k : J κ lay ad cn sn (pc + 1) ls st (wst w o i a)) : J κ lay ad cn sn pc ls (vI a :: vI (i : Int) :: vR o :: st) w := j_zast X hd hl (by omega) (by omega) hn hz k
end JKX
/-- the leaves of the reference -/
def PlM (w : wd) (k : Nat) : Prop := (-300 ≤ w 55 k ∧ w 55 k ≤ 300) ∧ (-300 ≤ w 56 k ∧ w 56 k ≤ 300) ∧ (0 ≤ w 57 k ∧ w 57 k ≤ 3) ∧ (-1000 ≤ w 58 k ∧ w 58 k ≤ 1000) ∧ (w 59 k = 0 ∨ w 59 k = 1)
def nOk (n : Nat) (w : wd) : Prop := (1 ≤ n ∧ n ≤ 6) ∧ w 54 1 = (n : Int)
def alo (s x y q : Int) : Int := if s = 0 then 6 * x + 3 + (if q = 1 then 2 else if q = 3 then -2 else 0) else if s = 1 then 6 * y + 3 + (if q = 0 then -2 else if q = 2 then 2 else 0) else if s = 2 then (6 * x + 3 + (if q = 1 then 2 else if q = 3 then -2 else 0)) - (6 * y + 3 + (if q = 0 then -2 else if q = 2 then 2 else 0)) else (6 * x + 3 + (if q = 1 then 2 else if q = 3 then -2 else 0)) + (6 * y + 3 + (if q = 0 then -2 else if q = 2 then 2 else 0))
theorem alo_st {s x y q : Int} (hs : 0 ≤ s ∧ s ≤ 3) (hq : 0 ≤ q ∧ q ≤ 3) : 6 * strip s x y q < alo s x y q ∧ alo s x y q < 6 * strip s x y q + 6 := by
  rcases s4 hs with rfl | rfl | rfl | rfl <;> rcases s4 hq with rfl | rfl | rfl | rfl <;> simp [alo, strip] <;> omega
theorem nN {n : Nat} : (4 : Int) * (n : Int) * (n : Int) = ((4 * n * n : Nat) : Int) := by
  rw [Int.natCast_mul, Int.natCast_mul]; rfl
set_option maxHeartbeats 4000000 in
set_option maxRecDepth 20000 in
theorem sp_X10_in {v l h : Int} {w : wd} (hv : rg v) (hl : rg l) (hh : rg h) : CalI yX10_in cX10_in 6 .boolean 1 LAY w [vL v, vL l, vL h] (fun a w' => a = ib (l ≤ v ∧ v ≤ h) ∧ w' = w) := by
  refine calI_intro (ls := [some (vL v), none, some (vL l), none, some (vL h), none]) (by decide) (Nat.le_of_ble_eq_true rfl) rfl (fun κ ad X hR => ?_)
  refine j_lload_n X dX10_in_0 rfl ?_
  refine j_lload_n X dX10_in_1 rfl ?_
  refine j_lcmp X dX10_in_2 ⟨by omega, by omega⟩ ⟨by omega, by omega⟩ ?_
  refine j_if_lt (tgt := 17) X dX10_in_3 (by decide) (by split <;> (try split) <;> decide) (fun h3 => ?_) (fun h3 => ?_)
  · refine j_iconst X dX10_in_17 ?_
    exact j_zreturn X hR dX10_in_18 (by first | exact Or.inl rfl | exact Or.inr rfl | exact ib_01) ⟨by first | exact (ib_t (by split at h3 <;> split at h10 <;> (try split at h3) <;> (try split at h10) <;> omega)).symm | exact (ib_f (by split at h3 <;> (try split at h3) <;> (try split at h10) <;> omega)).symm, rfl⟩
  · refine j_lload_n X dX10_in_6 rfl ?_
    refine j_lload X dX10_in_7 rfl ?_
    refine j_lcmp X dX10_in_9 ⟨by omega, by omega⟩ ⟨by omega, by omega⟩ ?_
    refine j_if_gt (tgt := 17) X dX10_in_10 (by decide) (by split <;> (try split) <;> decide) (fun h10 => ?_) (fun h10 => ?_)
    · refine j_iconst X dX10_in_17 ?_
      exact j_zreturn X hR dX10_in_18 (by first | exact Or.inl rfl | exact Or.inr rfl | exact ib_01) ⟨by first | exact (ib_t (by split at h3 <;> split at h10 <;> (try split at h3) <;> (try split at h10) <;> omega)).symm | exact (ib_f (by split at h3 <;> (try split at h3) <;> (try split at h10) <;> omega)).symm, rfl⟩
    · refine j_iconst X dX10_in_13 ?_
      refine j_goto (tgt := 18) X dX10_in_14 (by decide) ?_
      exact j_zreturn X hR dX10_in_18 (by first | exact Or.inl rfl | exact Or.inr rfl | exact ib_01) ⟨by first | exact (ib_t (by split at h3 <;> split at h10 <;> (try split at h3) <;> (try split at h10) <;> omega)).symm | exact (ib_f (by split at h3 <;> (try split at h3) <;> (try split at h10) <;> omega)).symm, rfl⟩
set_option maxHeartbeats 4000000 in
set_option maxRecDepth 20000 in
theorem sp_X10_facets {n : Nat} {w : wd} (hn : nOk n w) : CalI yX10_facets cX10_facets 1 .int 1 LAY w [vR 54] (fun a w' => a = ((4 * n * n : Nat) : Int) ∧ w' = w) := by
  refine calI_intro (ls := [some (vR 54)]) (by decide) (Nat.le_of_ble_eq_true rfl) rfl (fun κ ad X hR => ?_)
  refine j_iconst X dX10_facets_0 ?_
  refine j_aload_n X dX10_facets_1 rfl ?_
  refine j_getI X dX10_facets_2 ff_X10_7 rfl rfl ?_
  refine j_imul X dX10_facets_5 ?_
  refine j_aload_n X dX10_facets_6 rfl ?_
  refine j_getI X dX10_facets_7 ff_X10_7 rfl rfl ?_
  refine j_imul X dX10_facets_10 ?_
  exact j_ireturn X hR dX10_facets_11 ⟨by rw [hn.2]; exact nN, rfl⟩
set_option maxHeartbeats 4000000 in
set_option maxRecDepth 20000 in
theorem sp_X10_noFacet {n : Nat} {w : wd} (hn : nOk n w) {f : Int} (hf : rg f) : CalI yX10_noFacet cX10_noFacet 2 .boolean 2 LAY w [vR 54, vI f] (fun a w' => a = ib (¬ (0 ≤ f ∧ f ≤ ((4 * n * n : Nat) : Int) - 1)) ∧ w' = w) := by
  have hN := nn_le hn.1.2
  refine calI_intro (ls := [some (vR 54), some (vI f)]) (by decide) (Nat.le_of_ble_eq_true rfl) rfl (fun κ ad X hR => ?_)
  refine j_iload_n X dX10_noFacet_0 rfl ?_
  refine j_i2l X dX10_noFacet_1 ⟨by omega, by omega⟩ ?_
  refine j_lconst X dX10_noFacet_2 ?_
  refine j_aload_n X dX10_noFacet_3 rfl ?_
  refine cV0i X mf_X10_facets mv_X10_facets ml_X10_97 (by decide) rfl rfl (Nat.le_of_ble_eq_true rfl) dX10_noFacet_4 (sp_X10_facets hn) (fun a_4 w_4 h_4 => ?_)
  obtain ⟨_, _⟩ := h_4
  subst a_4
  subst w_4
  refine j_iconst X dX10_noFacet_7 ?_
  refine j_isub X dX10_noFacet_8 ?_
  refine j_i2l X dX10_noFacet_9 ⟨by omega, by omega⟩ ?_
  refine cS3i X mf_X10_in ms_X10_in ml_X10_101 (by decide) (Nat.le_of_ble_eq_true rfl) dX10_noFacet_10 (sp_X10_in ⟨by omega, by omega⟩ ⟨by omega, by omega⟩ ⟨by omega, by omega⟩) (fun a_10 w_10 h_10 => ?_)
  obtain ⟨_, _⟩ := h_10
  subst a_10
  subst w_10
  refine jb_ne (tgt := 20) X dX10_noFacet_13 (by decide) (fun h_13 => ?_) (fun h_13 => ?_)
  · refine j_iconst X dX10_noFacet_20 ?_
    exact j_zreturn X hR dX10_noFacet_21 (by first | exact Or.inl rfl | exact Or.inr rfl | exact ib_01) ⟨(ib_f (fun z => z h_13)).symm, rfl⟩
  · refine j_iconst X dX10_noFacet_16 ?_
    refine j_goto (tgt := 21) X dX10_noFacet_17 (by decide) ?_
    exact j_zreturn X hR dX10_noFacet_21 (by first | exact Or.inl rfl | exact Or.inr rfl | exact ib_01) ⟨(ib_t h_13).symm, rfl⟩
set_option maxHeartbeats 4000000 in
set_option maxRecDepth 20000 in
theorem sp_X10_noLine {s l : Int} {w : wd} (hs : rg s) (hl : rg l) : CalI yX10_noLine cX10_noLine 2 .boolean 2 LAY w [vI s, vI l] (fun a w' => a = ib (¬ isLine s l) ∧ w' = w) := by
  refine calI_intro (ls := [some (vI s), some (vI l)]) (by decide) (Nat.le_of_ble_eq_true rfl) rfl (fun κ ad X hR => ?_)
  refine j_iload_n X dX10_noLine_0 rfl ?_
  refine j_i2l X dX10_noLine_1 ⟨by omega, by omega⟩ ?_
  refine j_lconst X dX10_noLine_2 ?_
  refine j_ldc2 X dX10_noLine_3 kl_X10_105 ?_
  refine cS3i X mf_X10_in ms_X10_in ml_X10_101 (by decide) (Nat.le_of_ble_eq_true rfl) dX10_noLine_6 (sp_X10_in ⟨by omega, by omega⟩ ⟨by omega, by omega⟩ ⟨by omega, by omega⟩) (fun a_6 w_6 h_6 => ?_)
  obtain ⟨_, _⟩ := h_6
  subst a_6
  subst w_6
  refine jb_eq (tgt := 26) X dX10_noLine_9 (by decide) (fun h_9 => ?_) (fun h_9 => ?_)
  · refine j_iconst X dX10_noLine_26 ?_
    refine j_goto (tgt := 31) X dX10_noLine_27 (by decide) ?_
    exact j_zreturn X hR dX10_noLine_31 (by first | exact Or.inl rfl | exact Or.inr rfl | exact ib_01) ⟨(ib_t (show ¬ isLine s l from fun z => h_9 z.1)).symm, rfl⟩
  · refine j_iload_n X dX10_noLine_12 rfl ?_
    refine j_i2l X dX10_noLine_13 ⟨by omega, by omega⟩ ?_
    refine j_ldc2 X dX10_noLine_14 kl_X10_107 ?_
    refine j_ldc2 X dX10_noLine_17 kl_X10_109 ?_
    refine cS3i X mf_X10_in ms_X10_in ml_X10_101 (by decide) (Nat.le_of_ble_eq_true rfl) dX10_noLine_20 (sp_X10_in ⟨by omega, by omega⟩ ⟨by omega, by omega⟩ ⟨by omega, by omega⟩) (fun a_20 w_20 h_20 => ?_)
    obtain ⟨_, _⟩ := h_20
    subst a_20
    subst w_20
    refine jb_ne (tgt := 30) X dX10_noLine_23 (by decide) (fun h_23 => ?_) (fun h_23 => ?_)
    · refine j_iconst X dX10_noLine_30 ?_
      exact j_zreturn X hR dX10_noLine_31 (by first | exact Or.inl rfl | exact Or.inr rfl | exact ib_01) ⟨(ib_f (show ¬ ¬ isLine s l from fun z => z ⟨h_9, h_23⟩)).symm, rfl⟩
    · refine j_iconst X dX10_noLine_26 ?_
      refine j_goto (tgt := 31) X dX10_noLine_27 (by decide) ?_
      exact j_zreturn X hR dX10_noLine_31 (by first | exact Or.inl rfl | exact Or.inr rfl | exact ib_01) ⟨(ib_t (show ¬ isLine s l from fun z => h_23 z.2)).symm, rfl⟩
set_option maxHeartbeats 4000000 in
set_option maxRecDepth 20000 in
theorem sp_X10_along {s x y q : Int} {w : wd} (hs : rg s) (hq : rg q) : CalI yX10_along cX10_along 8 .int 1 LAY w [vI s, vI x, vI y, vI q] (fun a w' => a = alo s x y q ∧ w' = w) := by
  refine calI_intro (ls := [some (vI s), some (vI x), some (vI y), some (vI q), none, none, none, none]) (by decide) (Nat.le_of_ble_eq_true rfl) rfl (fun κ ad X hR => ?_)
  have C_20 : J κ LAY ad 0 0 20 [some (vI s), some (vI x), some (vI y), some (vI q), none, none, none, none] [vI (if q = 1 then 2 else if q = 3 then -2 else 0)] w := by
    skip
    refine s_4 X dX10_along_20 rfl ?_
    have C_41 : J κ LAY ad 0 0 41 [some (vI s), some (vI x), some (vI y), some (vI q), some (vI (if q = 1 then 2 else if q = 3 then -2 else 0)), none, none, none] [vI (if q = 0 then -2 else if q = 2 then 2 else 0)] w := by
      skip
      refine s_5 X dX10_along_41 rfl ?_
      refine j_bipush X dX10_along_43 (by decide +kernel) ?_
      refine j_iload_n X dX10_along_45 rfl ?_
      refine j_imul X dX10_along_46 ?_
      refine j_iconst X dX10_along_47 ?_
      refine j_iadd X dX10_along_48 ?_
      refine j_iload X dX10_along_49 rfl ?_
      refine j_iadd X dX10_along_51 ?_
      refine s_6 X dX10_along_52 rfl ?_
      refine j_bipush X dX10_along_54 (by decide +kernel) ?_
      refine j_iload_n X dX10_along_56 rfl ?_
      refine j_imul X dX10_along_57 ?_
      refine j_iconst X dX10_along_58 ?_
      refine j_iadd X dX10_along_59 ?_
      refine j_iload X dX10_along_60 rfl ?_
      refine j_iadd X dX10_along_62 ?_
      refine s_7 X dX10_along_63 rfl ?_
      have C_102 : ∀ t : Int, t = alo s x y q → J κ LAY ad 0 0 102 [some (vI s), some (vI x), some (vI y), some (vI q), some (vI (if q = 1 then 2 else if q = 3 then -2 else 0)), some (vI (if q = 0 then -2 else if q = 2 then 2 else 0)), some (vI (6 * x + 3 + (if q = 1 then 2 else if q = 3 then -2 else 0))), some (vI (6 * y + 3 + (if q = 0 then -2 else if q = 2 then 2 else 0)))] [vI t] w := by
        intro t ht
        exact j_ireturn X hR dX10_along_102 ⟨ht, rfl⟩
      refine j_iload_n X dX10_along_65 rfl ?_
      refine j_if_ne (tgt := 74) X dX10_along_66 (by decide) ⟨by omega, by omega⟩ (fun h_66 => ?_) (fun h_66 => ?_)
      · refine j_iload_n X dX10_along_74 rfl ?_
        refine j_iconst X dX10_along_75 ?_
        refine j_icmp_ne (tgt := 84) X dX10_along_76 (by decide) ⟨by omega, by omega⟩ ⟨by omega, by omega⟩ (fun h_76 => ?_) (fun h_76 => ?_)
        · refine j_iload_n X dX10_along_84 rfl ?_
          refine j_iconst X dX10_along_85 ?_
          refine j_icmp_ne (tgt := 97) X dX10_along_86 (by decide) ⟨by omega, by omega⟩ ⟨by omega, by omega⟩ (fun h_86 => ?_) (fun h_86 => ?_)
          · refine j_iload X dX10_along_97 rfl ?_
            refine j_iload X dX10_along_99 rfl ?_
            refine j_iadd X dX10_along_101 ?_
            exact C_102 _ (by unfold alo; rw [if_neg (show ¬ s = 0 by omega), if_neg (show ¬ s = 1 by omega), if_neg (show ¬ s = 2 by omega)])
          · refine j_iload X dX10_along_89 rfl ?_
            refine j_iload X dX10_along_91 rfl ?_
            refine j_isub X dX10_along_93 ?_
            refine j_goto (tgt := 102) X dX10_along_94 (by decide) ?_
            exact C_102 _ (by unfold alo; rw [if_neg (show ¬ s = 0 by omega), if_neg (show ¬ s = 1 by omega), if_pos (show s = 2 by omega)])
        · refine j_iload X dX10_along_79 rfl ?_
          refine j_goto (tgt := 102) X dX10_along_81 (by decide) ?_
          exact C_102 _ (by unfold alo; rw [if_neg (show ¬ s = 0 by omega), if_pos (show s = 1 by omega)])
      · refine j_iload X dX10_along_69 rfl ?_
        refine j_goto (tgt := 102) X dX10_along_71 (by decide) ?_
        exact C_102 _ (by unfold alo; rw [if_pos (show s = 0 by omega)])
    refine j_iload_n X dX10_along_22 rfl ?_
    refine j_if_ne (tgt := 31) X dX10_along_23 (by decide) ⟨by omega, by omega⟩ (fun h_23 => ?_) (fun h_23 => ?_)
    · refine j_iload_n X dX10_along_31 rfl ?_
      refine j_iconst X dX10_along_32 ?_
      refine j_icmp_ne (tgt := 40) X dX10_along_33 (by decide) ⟨by omega, by omega⟩ ⟨by omega, by omega⟩ (fun h_33 => ?_) (fun h_33 => ?_)
      · refine j_iconst X dX10_along_40 ?_
        rw [if_neg (show ¬ q = 0 by omega), if_neg (show ¬ q = 2 by omega)] at C_41
        exact C_41
      · refine j_iconst X dX10_along_36 ?_
        refine j_goto (tgt := 41) X dX10_along_37 (by decide) ?_
        rw [if_neg (show ¬ q = 0 by omega), if_pos (show q = 2 by omega)] at C_41
        exact C_41
    · refine j_bipush X dX10_along_26 (by decide +kernel) ?_
      refine j_goto (tgt := 41) X dX10_along_28 (by decide) ?_
      rw [if_pos (show q = 0 by omega)] at C_41
      exact C_41
  refine j_iload_n X dX10_along_0 rfl ?_
  refine j_iconst X dX10_along_1 ?_
  refine j_icmp_ne (tgt := 9) X dX10_along_2 (by decide) ⟨by omega, by omega⟩ ⟨by omega, by omega⟩ (fun h_2 => ?_) (fun h_2 => ?_)
  · refine j_iload_n X dX10_along_9 rfl ?_
    refine j_iconst X dX10_along_10 ?_
    refine j_icmp_ne (tgt := 19) X dX10_along_11 (by decide) ⟨by omega, by omega⟩ ⟨by omega, by omega⟩ (fun h_11 => ?_) (fun h_11 => ?_)
    · refine j_iconst X dX10_along_19 ?_
      rw [if_neg (by omega), if_neg (by omega)] at C_20
      exact C_20
    · refine j_bipush X dX10_along_14 (by decide +kernel) ?_
      refine j_goto (tgt := 20) X dX10_along_16 (by decide) ?_
      rw [if_neg (by omega), if_pos (by omega)] at C_20
      exact C_20
  · refine j_iconst X dX10_along_5 ?_
    refine j_goto (tgt := 20) X dX10_along_6 (by decide) ?_
    rw [if_pos (by omega)] at C_20
    exact C_20
set_option maxHeartbeats 4000000 in
set_option maxRecDepth 20000 in
theorem sp_X10_sideOf {s k x y q : Int} {w : wd} (hs : 0 ≤ s ∧ s ≤ 3) (hk : -1000 ≤ k ∧ k ≤ 1000) (hx : -2000 ≤ x ∧ x ≤ 2000) (hy : -2000 ≤ y ∧ y ≤ 2000) (hq : 0 ≤ q ∧ q ≤ 3) : CalI yX10_sideOf cX10_sideOf 5 .int 2 LAY w [vI s, vI k, vI x, vI y, vI q] (fun a w' => a = ib (k ≤ strip s x y q) ∧ w' = w) := by
  have ha := alo_st (s := s) (x := x) (y := y) (q := q) hs hq
  have hst : -4001 ≤ strip s x y q ∧ strip s x y q ≤ 4001 := by unfold strip; (repeat' split) <;> omega
  refine calI_intro (ls := [some (vI s), some (vI k), some (vI x), some (vI y), some (vI q)]) (by decide) (Nat.le_of_ble_eq_true rfl) rfl (fun κ ad X hR => ?_)
  refine j_iload_n X dX10_sideOf_0 rfl ?_
  refine j_iload_n X dX10_sideOf_1 rfl ?_
  refine j_iload_n X dX10_sideOf_2 rfl ?_
  refine j_iload X dX10_sideOf_3 rfl ?_
  refine cS4i X mf_X10_along ms_X10_along ml_X10_118 (by decide) (Nat.le_of_ble_eq_true rfl) dX10_sideOf_5 (sp_X10_along ⟨by omega, by omega⟩ ⟨by omega, by omega⟩) (fun a_5 w_5 h_5 => ?_)
  obtain ⟨_, _⟩ := h_5
  subst a_5
  subst w_5
  refine j_bipush X dX10_sideOf_8 (by decide +kernel) ?_
  refine j_iload_n X dX10_sideOf_10 rfl ?_
  refine j_imul X dX10_sideOf_11 ?_
  refine j_icmp_le (tgt := 19) X dX10_sideOf_12 (by decide) ⟨by omega, by omega⟩ ⟨by omega, by omega⟩ (fun h_12 => ?_) (fun h_12 => ?_)
  · refine j_iconst X dX10_sideOf_19 ?_
    exact j_ireturn X hR dX10_sideOf_20 ⟨by first | exact (ib_t (by omega)).symm | exact (ib_f (by omega)).symm, rfl⟩
  · refine j_iconst X dX10_sideOf_15 ?_
    refine j_goto (tgt := 20) X dX10_sideOf_16 (by decide) ?_
    exact j_ireturn X hR dX10_sideOf_20 ⟨by first | exact (ib_t (by omega)).symm | exact (ib_f (by omega)).symm, rfl⟩
def trnM (w : wd) (s k x y q : Int) : wd := wst (wst (wst w 54 32 (mirX s k x y)) 54 33 (mirY s k x y)) 54 34 (mirQ s q)
theorem trnM_of {w : wd} {s k x y q a b c : Int} (h1 : a = mirX s k x y) (h2 : b = mirY s k x y) (h3 : c = mirQ s q) : wst (wst (wst w 54 32 a) 54 33 b) 54 34 c = trnM w s k x y q := by
  rw [h1, h2, h3]; rfl
theorem trnM_o {w : wd} {s k x y q : Int} {o : Nat} (h : o ≠ 54) : trnM w s k x y q o = w o := by
  funext i
  simp [trnM, wst, h]
theorem trnM_i {w : wd} {s k x y q : Int} {i : Nat} (h : i ≠ 32 ∧ i ≠ 33 ∧ i ≠ 34) : trnM w s k x y q 54 i = w 54 i := by
  simp [trnM, wst, w1, h.1, h.2.1, h.2.2]
set_option maxHeartbeats 4000000 in
set_option maxRecDepth 20000 in
theorem sp_X10_turn {s k x y q : Int} {w : wd} (hs : 0 ≤ s ∧ s ≤ 3) (hq : 0 ≤ q ∧ q ≤ 3) : CalV yX10_turn cX10_turn 6 1 LAY w [vR 54, vI s, vI k, vI x, vI y, vI q] (fun w' => w' = trnM w s k x y q) := by
  refine calV_intro (ls := [some (vR 54), some (vI s), some (vI k), some (vI x), some (vI y), some (vI q)]) (by decide) (Nat.le_of_ble_eq_true rfl) rfl (fun κ ad X hR => ?_)
  refine j_iload_n X dX10_turn_0 rfl ?_
  refine j_if_ne (tgt := 50) X dX10_turn_1 (by decide) ⟨by omega, by omega⟩ (fun h_1 => ?_) (fun h_1 => ?_)
  · refine j_iload_n X dX10_turn_50 rfl ?_
    refine j_iconst X dX10_turn_51 ?_
    refine j_icmp_ne (tgt := 100) X dX10_turn_52 (by decide) ⟨by omega, by omega⟩ ⟨by omega, by omega⟩ (fun h_52 => ?_) (fun h_52 => ?_)
    · refine j_iload_n X dX10_turn_100 rfl ?_
      refine j_iconst X dX10_turn_101 ?_
      refine j_icmp_ne (tgt := 131) X dX10_turn_102 (by decide) ⟨by omega, by omega⟩ ⟨by omega, by omega⟩ (fun h_102 => ?_) (fun h_102 => ?_)
      · refine j_aload_n X dX10_turn_131 rfl ?_
        refine j_iload_n X dX10_turn_132 rfl ?_
        refine j_iconst X dX10_turn_133 ?_
        refine j_isub X dX10_turn_134 ?_
        refine j_iload X dX10_turn_135 rfl ?_
        refine j_isub X dX10_turn_137 ?_
        refine j_putI X dX10_turn_138 fp_X10_122 rfl rfl ?_
        refine j_aload_n X dX10_turn_141 rfl ?_
        refine j_iload_n X dX10_turn_142 rfl ?_
        refine j_iconst X dX10_turn_143 ?_
        refine j_isub X dX10_turn_144 ?_
        refine j_iload_n X dX10_turn_145 rfl ?_
        refine j_isub X dX10_turn_146 ?_
        refine j_putI X dX10_turn_147 fp_X10_125 rfl rfl ?_
        refine j_aload_n X dX10_turn_150 rfl ?_
        refine j_iload X dX10_turn_151 rfl ?_
        refine j_if_ne (tgt := 160) X dX10_turn_153 (by decide) ⟨by omega, by omega⟩ (fun h_153 => ?_) (fun h_153 => ?_)
        · refine j_iload X dX10_turn_160 rfl ?_
          refine j_iconst X dX10_turn_162 ?_
          refine j_icmp_ne (tgt := 170) X dX10_turn_163 (by decide) ⟨by omega, by omega⟩ ⟨by omega, by omega⟩ (fun h_163 => ?_) (fun h_163 => ?_)
          · refine j_iload X dX10_turn_170 rfl ?_
            refine j_iconst X dX10_turn_172 ?_
            refine j_icmp_ne (tgt := 180) X dX10_turn_173 (by decide) ⟨by omega, by omega⟩ ⟨by omega, by omega⟩ (fun h_173 => ?_) (fun h_173 => ?_)
            · refine j_iconst X dX10_turn_180 ?_
              refine j_putI X dX10_turn_181 fp_X10_128 rfl rfl ?_
              exact j_return X hR dX10_turn_184 (trnM_of (by unfold mirX; (repeat' split) <;> omega) (by unfold mirY; (repeat' split) <;> omega) (by unfold mirQ; (repeat' split) <;> omega))
            · refine j_iconst X dX10_turn_176 ?_
              refine j_goto (tgt := 181) X dX10_turn_177 (by decide) ?_
              refine j_putI X dX10_turn_181 fp_X10_128 rfl rfl ?_
              exact j_return X hR dX10_turn_184 (trnM_of (by unfold mirX; (repeat' split) <;> omega) (by unfold mirY; (repeat' split) <;> omega) (by unfold mirQ; (repeat' split) <;> omega))
          · refine j_iconst X dX10_turn_166 ?_
            refine j_goto (tgt := 181) X dX10_turn_167 (by decide) ?_
            refine j_putI X dX10_turn_181 fp_X10_128 rfl rfl ?_
            exact j_return X hR dX10_turn_184 (trnM_of (by unfold mirX; (repeat' split) <;> omega) (by unfold mirY; (repeat' split) <;> omega) (by unfold mirQ; (repeat' split) <;> omega))
        · refine j_iconst X dX10_turn_156 ?_
          refine j_goto (tgt := 181) X dX10_turn_157 (by decide) ?_
          refine j_putI X dX10_turn_181 fp_X10_128 rfl rfl ?_
          exact j_return X hR dX10_turn_184 (trnM_of (by unfold mirX; (repeat' split) <;> omega) (by unfold mirY; (repeat' split) <;> omega) (by unfold mirQ; (repeat' split) <;> omega))
      · refine j_aload_n X dX10_turn_105 rfl ?_
        refine j_iload X dX10_turn_106 rfl ?_
        refine j_iload_n X dX10_turn_108 rfl ?_
        refine j_iadd X dX10_turn_109 ?_
        refine j_putI X dX10_turn_110 fp_X10_122 rfl rfl ?_
        refine j_aload_n X dX10_turn_113 rfl ?_
        refine j_iload_n X dX10_turn_114 rfl ?_
        refine j_iload_n X dX10_turn_115 rfl ?_
        refine j_isub X dX10_turn_116 ?_
        refine j_putI X dX10_turn_117 fp_X10_125 rfl rfl ?_
        refine j_aload_n X dX10_turn_120 rfl ?_
        refine j_iconst X dX10_turn_121 ?_
        refine j_iload X dX10_turn_122 rfl ?_
        refine j_isub X dX10_turn_124 ?_
        refine j_putI X dX10_turn_125 fp_X10_128 rfl rfl ?_
        refine j_goto (tgt := 184) X dX10_turn_128 (by decide) ?_
        exact j_return X hR dX10_turn_184 (trnM_of (by unfold mirX; (repeat' split) <;> omega) (by unfold mirY; (repeat' split) <;> omega) (by unfold mirQ; (repeat' split) <;> omega))
    · refine j_aload_n X dX10_turn_55 rfl ?_
      refine j_iload_n X dX10_turn_56 rfl ?_
      refine j_putI X dX10_turn_57 fp_X10_122 rfl rfl ?_
      refine j_aload_n X dX10_turn_60 rfl ?_
      refine j_iconst X dX10_turn_61 ?_
      refine j_iload_n X dX10_turn_62 rfl ?_
      refine j_imul X dX10_turn_63 ?_
      refine j_iconst X dX10_turn_64 ?_
      refine j_isub X dX10_turn_65 ?_
      refine j_iload X dX10_turn_66 rfl ?_
      refine j_isub X dX10_turn_68 ?_
      refine j_putI X dX10_turn_69 fp_X10_125 rfl rfl ?_
      refine j_aload_n X dX10_turn_72 rfl ?_
      refine j_iload X dX10_turn_73 rfl ?_
      refine j_if_ne (tgt := 82) X dX10_turn_75 (by decide) ⟨by omega, by omega⟩ (fun h_75 => ?_) (fun h_75 => ?_)
      · refine j_iload X dX10_turn_82 rfl ?_
        refine j_iconst X dX10_turn_84 ?_
        refine j_icmp_ne (tgt := 92) X dX10_turn_85 (by decide) ⟨by omega, by omega⟩ ⟨by omega, by omega⟩ (fun h_85 => ?_) (fun h_85 => ?_)
        · refine j_iload X dX10_turn_92 rfl ?_
          refine j_putI X dX10_turn_94 fp_X10_128 rfl rfl ?_
          refine j_goto (tgt := 184) X dX10_turn_97 (by decide) ?_
          exact j_return X hR dX10_turn_184 (trnM_of (by unfold mirX; (repeat' split) <;> omega) (by unfold mirY; (repeat' split) <;> omega) (by unfold mirQ; (repeat' split) <;> omega))
        · refine j_iconst X dX10_turn_88 ?_
          refine j_goto (tgt := 94) X dX10_turn_89 (by decide) ?_
          refine j_putI X dX10_turn_94 fp_X10_128 rfl rfl ?_
          refine j_goto (tgt := 184) X dX10_turn_97 (by decide) ?_
          exact j_return X hR dX10_turn_184 (trnM_of (by unfold mirX; (repeat' split) <;> omega) (by unfold mirY; (repeat' split) <;> omega) (by unfold mirQ; (repeat' split) <;> omega))
      · refine j_iconst X dX10_turn_78 ?_
        refine j_goto (tgt := 94) X dX10_turn_79 (by decide) ?_
        refine j_putI X dX10_turn_94 fp_X10_128 rfl rfl ?_
        refine j_goto (tgt := 184) X dX10_turn_97 (by decide) ?_
        exact j_return X hR dX10_turn_184 (trnM_of (by unfold mirX; (repeat' split) <;> omega) (by unfold mirY; (repeat' split) <;> omega) (by unfold mirQ; (repeat' split) <;> omega))
  · refine j_aload_n X dX10_turn_4 rfl ?_
    refine j_iconst X dX10_turn_5 ?_
    refine j_iload_n X dX10_turn_6 rfl ?_
    refine j_imul X dX10_turn_7 ?_
    refine j_iconst X dX10_turn_8 ?_
    refine j_isub X dX10_turn_9 ?_
    refine j_iload_n X dX10_turn_10 rfl ?_
    refine j_isub X dX10_turn_11 ?_
    refine j_putI X dX10_turn_12 fp_X10_122 rfl rfl ?_
    refine j_aload_n X dX10_turn_15 rfl ?_
    refine j_iload X dX10_turn_16 rfl ?_
    refine j_putI X dX10_turn_18 fp_X10_125 rfl rfl ?_
    refine j_aload_n X dX10_turn_21 rfl ?_
    refine j_iload X dX10_turn_22 rfl ?_
    refine j_iconst X dX10_turn_24 ?_
    refine j_icmp_ne (tgt := 32) X dX10_turn_25 (by decide) ⟨by omega, by omega⟩ ⟨by omega, by omega⟩ (fun h_25 => ?_) (fun h_25 => ?_)
    · refine j_iload X dX10_turn_32 rfl ?_
      refine j_iconst X dX10_turn_34 ?_
      refine j_icmp_ne (tgt := 42) X dX10_turn_35 (by decide) ⟨by omega, by omega⟩ ⟨by omega, by omega⟩ (fun h_35 => ?_) (fun h_35 => ?_)
      · refine j_iload X dX10_turn_42 rfl ?_
        refine j_putI X dX10_turn_44 fp_X10_128 rfl rfl ?_
        refine j_goto (tgt := 184) X dX10_turn_47 (by decide) ?_
        exact j_return X hR dX10_turn_184 (trnM_of (by unfold mirX; (repeat' split) <;> omega) (by unfold mirY; (repeat' split) <;> omega) (by unfold mirQ; (repeat' split) <;> omega))
      · refine j_iconst X dX10_turn_38 ?_
        refine j_goto (tgt := 44) X dX10_turn_39 (by decide) ?_
        refine j_putI X dX10_turn_44 fp_X10_128 rfl rfl ?_
        refine j_goto (tgt := 184) X dX10_turn_47 (by decide) ?_
        exact j_return X hR dX10_turn_184 (trnM_of (by unfold mirX; (repeat' split) <;> omega) (by unfold mirY; (repeat' split) <;> omega) (by unfold mirQ; (repeat' split) <;> omega))
    · refine j_iconst X dX10_turn_28 ?_
      refine j_goto (tgt := 44) X dX10_turn_29 (by decide) ?_
      refine j_putI X dX10_turn_44 fp_X10_128 rfl rfl ?_
      refine j_goto (tgt := 184) X dX10_turn_47 (by decide) ?_
      exact j_return X hR dX10_turn_184 (trnM_of (by unfold mirX; (repeat' split) <;> omega) (by unfold mirY; (repeat' split) <;> omega) (by unfold mirQ; (repeat' split) <;> omega))
set_option maxHeartbeats 4000000 in
set_option maxRecDepth 20000 in
theorem sp_X10_isThere {k : Nat} {x y q : Int} {w : wd} (hk : k < 144) (h : PlM w k) (hx : rg x) (hy : rg y) (hq : rg q) : CalI yX10_isThere cX10_isThere 5 .boolean 1 LAY w [vR 54, vI (k : Int), vI x, vI y, vI q] (fun a w' => a = ib (w 55 k = x ∧ w 56 k = y ∧ w 57 k = q) ∧ w' = w) := by
  obtain ⟨h1, h2, h3, h4, h5⟩ := h
  refine calI_intro (ls := [some (vR 54), some (vI (k : Int)), some (vI x), some (vI y), some (vI q)]) (by decide) (Nat.le_of_ble_eq_true rfl) rfl (fun κ ad X hR => ?_)
  refine j_aload_n X dX10_isThere_0 rfl ?_
  refine j_getR X dX10_isThere_1 ff_X10_13 rfl rfl ?_
  refine j_iload_n X dX10_isThere_4 rfl ?_
  refine j_ialdk X dX10_isThere_5 rfl (by omega) (by decide) ?_
  refine j_iload_n X dX10_isThere_6 rfl ?_
  refine j_icmp_ne (tgt := 35) X dX10_isThere_7 (by decide) ⟨by omega, by omega⟩ ⟨by omega, by omega⟩ (fun h_7 => ?_) (fun h_7 => ?_)
  · refine j_iconst X dX10_isThere_35 ?_
    exact j_zreturn X hR dX10_isThere_36 (by first | exact Or.inl rfl | exact Or.inr rfl | exact ib_01) ⟨by first | exact (ib_t (by omega)).symm | exact (ib_f (by omega)).symm, rfl⟩
  · refine j_aload_n X dX10_isThere_10 rfl ?_
    refine j_getR X dX10_isThere_11 ff_X10_17 rfl rfl ?_
    refine j_iload_n X dX10_isThere_14 rfl ?_
    refine j_ialdk X dX10_isThere_15 rfl (by omega) (by decide) ?_
    refine j_iload_n X dX10_isThere_16 rfl ?_
    refine j_icmp_ne (tgt := 35) X dX10_isThere_17 (by decide) ⟨by omega, by omega⟩ ⟨by omega, by omega⟩ (fun h_17 => ?_) (fun h_17 => ?_)
    · refine j_iconst X dX10_isThere_35 ?_
      exact j_zreturn X hR dX10_isThere_36 (by first | exact Or.inl rfl | exact Or.inr rfl | exact ib_01) ⟨by first | exact (ib_t (by omega)).symm | exact (ib_f (by omega)).symm, rfl⟩
    · refine j_aload_n X dX10_isThere_20 rfl ?_
      refine j_getR X dX10_isThere_21 ff_X10_20 rfl rfl ?_
      refine j_iload_n X dX10_isThere_24 rfl ?_
      refine j_ialdk X dX10_isThere_25 rfl (by omega) (by decide) ?_
      refine j_iload X dX10_isThere_26 rfl ?_
      refine j_icmp_ne (tgt := 35) X dX10_isThere_28 (by decide) ⟨by omega, by omega⟩ ⟨by omega, by omega⟩ (fun h_28 => ?_) (fun h_28 => ?_)
      · refine j_iconst X dX10_isThere_35 ?_
        exact j_zreturn X hR dX10_isThere_36 (by first | exact Or.inl rfl | exact Or.inr rfl | exact ib_01) ⟨by first | exact (ib_t (by omega)).symm | exact (ib_f (by omega)).symm, rfl⟩
      · refine j_iconst X dX10_isThere_31 ?_
        refine j_goto (tgt := 36) X dX10_isThere_32 (by decide) ?_
        exact j_zreturn X hR dX10_isThere_36 (by first | exact Or.inl rfl | exact Or.inr rfl | exact ib_01) ⟨by first | exact (ib_t (by omega)).symm | exact (ib_f (by omega)).symm, rfl⟩
set_option maxHeartbeats 4000000 in
set_option maxRecDepth 20000 in
theorem sp_X10_deepOf {n : Nat} {x y q : Int} {w : wd} (hn : nOk n w) (hp : ∀ k, k < 4 * n * n → PlM w k) (hx : rg x) (hy : rg y) (hq : rg q) : CalI yX10_deepOf cX10_deepOf 6 .int 2 LAY w [vR 54, vI x, vI y, vI q] (fun a w' => a = sm (fun k => ib (w 55 k = x ∧ w 56 k = y ∧ w 57 k = q)) (4 * n * n) ∧ w' = w) := by
  have hN := nn_le hn.1.2
  
  refine calI_intro (ls := [some (vR 54), some (vI x), some (vI y), some (vI q), none, none]) (by decide) (Nat.le_of_ble_eq_true rfl) rfl (fun κ ad X hR => ?_)
  refine j_iconst X dX10_deepOf_0 ?_
  refine s_4 X dX10_deepOf_1 rfl ?_
  refine j_iconst X dX10_deepOf_3 ?_
  refine s_5 X dX10_deepOf_4 rfl ?_
  have L_6 : ∀ (m : Nat) (k : Nat) (c : Int) (_ : c = sm (fun k => ib (w 55 k = x ∧ w 56 k = y ∧ w 57 k = q)) k) (_ : k ≤ 4 * n * n) (_ : 4 * n * n - k < m), J κ LAY ad 0 0 6 [some (vR 54), some (vI x), some (vI y), some (vI q), some (vI c), some (vI (k : Int))] [] w := by
    intro m
    induction m with
    | zero => intro k c hc h1 h2; exact absurd h2 (Nat.not_lt_zero _)
    | succ m ih6 =>
      intro k c hc h1 h2
      have hcb := sm_b (f := fun k => ib (w 55 k = x ∧ w 56 k = y ∧ w 57 k = q)) (fun _ => ib_01) k
      refine j_iload X dX10_deepOf_6 rfl ?_
      refine j_aload_n X dX10_deepOf_8 rfl ?_
      refine cV0i X mf_X10_facets mv_X10_facets ml_X10_97 (by decide) rfl rfl (Nat.le_of_ble_eq_true rfl) dX10_deepOf_9 (sp_X10_facets hn) (fun a_9 w_9 h_9 => ?_)
      obtain ⟨_, _⟩ := h_9
      subst a_9
      subst w_9
      refine j_icmp_ge (tgt := 43) X dX10_deepOf_12 (by decide) ⟨by omega, by omega⟩ ⟨by omega, by omega⟩ (fun h_12 => ?_) (fun h_12 => ?_)
      · refine j_iload X dX10_deepOf_43 rfl ?_
        exact j_ireturn X hR dX10_deepOf_45 ⟨by rw [hc, show k = 4 * n * n by omega], rfl⟩
      · refine j_iload X dX10_deepOf_15 rfl ?_
        refine j_aload_n X dX10_deepOf_17 rfl ?_
        refine j_iload X dX10_deepOf_18 rfl ?_
        refine j_iload_n X dX10_deepOf_20 rfl ?_
        refine j_iload_n X dX10_deepOf_21 rfl ?_
        refine j_iload_n X dX10_deepOf_22 rfl ?_
        refine cV4i X mf_X10_isThere mv_X10_isThere ml_X10_131 (by decide) rfl rfl (Nat.le_of_ble_eq_true rfl) dX10_deepOf_23 (sp_X10_isThere (by omega) (hp k (by omega)) hx hy hq) (fun a_23 w_23 h_23 => ?_)
        obtain ⟨_, _⟩ := h_23
        subst a_23
        subst w_23
        refine jb_eq (tgt := 33) X dX10_deepOf_26 (by decide) (fun h_26 => ?_) (fun h_26 => ?_)
        · refine j_iconst X dX10_deepOf_33 ?_
          refine j_iadd X dX10_deepOf_34 ?_
          refine s_4 X dX10_deepOf_35 rfl ?_
          refine inc_5 X dX10_deepOf_37 rfl ?_
          refine j_goto (tgt := 6) X dX10_deepOf_40 (by decide) ?_
          exact ih6 (k + 1) _ (ac0_f hc (ib_f h_26)) (by omega) (by omega)
        · refine j_iconst X dX10_deepOf_29 ?_
          refine j_goto (tgt := 34) X dX10_deepOf_30 (by decide) ?_
          refine j_iadd X dX10_deepOf_34 ?_
          refine s_4 X dX10_deepOf_35 rfl ?_
          refine inc_5 X dX10_deepOf_37 rfl ?_
          refine j_goto (tgt := 6) X dX10_deepOf_40 (by decide) ?_
          exact ih6 (k + 1) _ (ac0_t hc (ib_t h_26)) (by omega) (by omega)
  exact L_6 (4 * n * n + 1) 0 0 rfl (by omega) (by omega)
set_option maxHeartbeats 4000000 in
set_option maxRecDepth 20000 in
theorem sp_X10_placesOf {n : Nat} {w : wd} (hn : nOk n w) (hp : ∀ k, k < 4 * n * n → PlM w k) : CalI yX10_placesOf cX10_placesOf 3 .int 2 LAY w [vR 54] (fun a w' => a = sm (fun k => ib (w 58 k = 0)) (4 * n * n) ∧ w' = w) := by
  have hN := nn_le hn.1.2
  
  refine calI_intro (ls := [some (vR 54), none, none]) (by decide) (Nat.le_of_ble_eq_true rfl) rfl (fun κ ad X hR => ?_)
  refine j_iconst X dX10_placesOf_0 ?_
  refine s_1 X dX10_placesOf_1 rfl ?_
  refine j_iconst X dX10_placesOf_2 ?_
  refine s_2 X dX10_placesOf_3 rfl ?_
  have L_4 : ∀ (m : Nat) (k : Nat) (c : Int) (_ : c = sm (fun k => ib (w 58 k = 0)) k) (_ : k ≤ 4 * n * n) (_ : 4 * n * n - k < m), J κ LAY ad 0 0 4 [some (vR 54), some (vI c), some (vI (k : Int))] [] w := by
    intro m
    induction m with
    | zero => intro k c hc h1 h2; exact absurd h2 (Nat.not_lt_zero _)
    | succ m ih4 =>
      intro k c hc h1 h2
      have hcb := sm_b (f := fun k => ib (w 58 k = 0)) (fun _ => ib_01) k
      refine j_iload_n X dX10_placesOf_4 rfl ?_
      refine j_aload_n X dX10_placesOf_5 rfl ?_
      refine cV0i X mf_X10_facets mv_X10_facets ml_X10_97 (by decide) rfl rfl (Nat.le_of_ble_eq_true rfl) dX10_placesOf_6 (sp_X10_facets hn) (fun a_6 w_6 h_6 => ?_)
      obtain ⟨_, _⟩ := h_6
      subst a_6
      subst w_6
      refine j_icmp_ge (tgt := 35) X dX10_placesOf_9 (by decide) ⟨by omega, by omega⟩ ⟨by omega, by omega⟩ (fun h_9 => ?_) (fun h_9 => ?_)
      · refine j_iload_n X dX10_placesOf_35 rfl ?_
        exact j_ireturn X hR dX10_placesOf_36 ⟨by rw [hc, show k = 4 * n * n by omega], rfl⟩
      · refine j_iload_n X dX10_placesOf_12 rfl ?_
        refine j_aload_n X dX10_placesOf_13 rfl ?_
        refine j_getR X dX10_placesOf_14 ff_X10_23 rfl rfl ?_
        refine j_iload_n X dX10_placesOf_17 rfl ?_
        have hpk := (hp k (by omega)).2.2.2.1
        refine j_ialdk X dX10_placesOf_18 rfl (by omega) (by decide) ?_
        refine j_if_ne (tgt := 26) X dX10_placesOf_19 (by decide) ⟨by omega, by omega⟩ (fun h_19 => ?_) (fun h_19 => ?_)
        · refine j_iconst X dX10_placesOf_26 ?_
          refine j_iadd X dX10_placesOf_27 ?_
          refine s_1 X dX10_placesOf_28 rfl ?_
          refine inc_2 X dX10_placesOf_29 rfl ?_
          refine j_goto (tgt := 4) X dX10_placesOf_32 (by decide) ?_
          exact ih4 (k + 1) _ (ac0_f hc (ib_f h_19)) (by omega) (by omega)
        · refine j_iconst X dX10_placesOf_22 ?_
          refine j_goto (tgt := 27) X dX10_placesOf_23 (by decide) ?_
          refine j_iadd X dX10_placesOf_27 ?_
          refine s_1 X dX10_placesOf_28 rfl ?_
          refine inc_2 X dX10_placesOf_29 rfl ?_
          refine j_goto (tgt := 4) X dX10_placesOf_32 (by decide) ?_
          exact ih4 (k + 1) _ (ac0_t hc (ib_t (by omega))) (by omega) (by omega)
  exact L_4 (4 * n * n + 1) 0 0 rfl (by omega) (by omega)
set_option maxHeartbeats 4000000 in
set_option maxRecDepth 20000 in
theorem sp_X10_nextTo {n f e : Nat} {w : wd} (hn : nOk n w) (hf : f < 4 * n * n) (he : e < 3) : CalI yX10_nextTo cX10_nextTo 6 .int 2 LAY w [vR 54, vI (f : Int), vI (e : Int)] (fun a w' => a = nb n f e ∧ w' = w) := by
  have hN := nn_le hn.1.2
  have hxy := lxy_rg hn.1 hf
  have hn1 := hn.2
  have hn6 := hn.1
  refine calI_intro (ls := [some (vR 54), some (vI (f : Int)), some (vI (e : Int)), none, none, none]) (by decide) (Nat.le_of_ble_eq_true rfl) rfl (fun κ ad X hR => ?_)
  refine j_iload_n X dX10_nextTo_0 rfl ?_
  refine j_iconst X dX10_nextTo_1 ?_
  refine j_irem X dX10_nextTo_2 (by omega) (by omega) (by omega) (by omega) ?_
  rw [show (f : Int) % 4 = lq f from rfl]
  refine s_3 X dX10_nextTo_3 rfl ?_
  refine j_iload_n X dX10_nextTo_4 rfl ?_
  refine j_if_le (tgt := 29) X dX10_nextTo_5 (by decide) ⟨by omega, by omega⟩ (fun h_5 => ?_) (fun h_5 => ?_)
  · refine j_iload_n X dX10_nextTo_29 rfl ?_
    refine j_iconst X dX10_nextTo_30 ?_
    refine j_idiv X dX10_nextTo_31 (by omega) (by omega) (by omega) (by omega) ?_
    refine j_aload_n X dX10_nextTo_32 rfl ?_
    refine j_getI X dX10_nextTo_33 ff_X10_7 rfl rfl ?_
    refine j_irem X dX10_nextTo_36 (by omega) (by omega) (by omega) (by omega) ?_
    have C_57 : e = 0 → J κ LAY ad 0 0 57 [some (vR 54), some (vI (f : Int)), some (vI (e : Int)), some (vI (lq f)), none, none] [vI (ax (lx n f) (lq f))] w := by
      intro he0
      refine s_4 X dX10_nextTo_57 rfl ?_
      refine j_iload_n X dX10_nextTo_59 rfl ?_
      refine j_iconst X dX10_nextTo_60 ?_
      refine j_idiv X dX10_nextTo_61 (by omega) (by omega) (by omega) (by omega) ?_
      refine j_aload_n X dX10_nextTo_62 rfl ?_
      refine j_getI X dX10_nextTo_63 ff_X10_7 rfl rfl ?_
      refine j_idiv X dX10_nextTo_66 (by omega) (by omega) (by omega) (by omega) ?_
      have C_86 : J κ LAY ad 0 0 86 [some (vR 54), some (vI (f : Int)), some (vI (e : Int)), some (vI (lq f)), some (vI (ax (lx n f) (lq f))), none] [vI (ay (ly n f) (lq f))] w := by
        skip
        have hax : -1 ≤ ax (lx n f) (lq f) ∧ ax (lx n f) (lq f) ≤ 6 := by unfold ax; (repeat' split) <;> omega
        have hay : -1 ≤ ay (ly n f) (lq f) ∧ ay (ly n f) (lq f) ≤ 6 := by unfold ay; (repeat' split) <;> omega
        refine s_5 X dX10_nextTo_86 rfl ?_
        refine j_iload X dX10_nextTo_88 rfl ?_
        refine j_i2l X dX10_nextTo_90 ⟨by omega, by omega⟩ ?_
        refine j_lconst X dX10_nextTo_91 ?_
        refine j_aload_n X dX10_nextTo_92 rfl ?_
        refine j_getI X dX10_nextTo_93 ff_X10_7 rfl rfl ?_
        refine j_iconst X dX10_nextTo_96 ?_
        refine j_isub X dX10_nextTo_97 ?_
        refine j_i2l X dX10_nextTo_98 ⟨by omega, by omega⟩ ?_
        refine cS3i X mf_X10_in ms_X10_in ml_X10_101 (by decide) (Nat.le_of_ble_eq_true rfl) dX10_nextTo_99 (sp_X10_in ⟨by omega, by omega⟩ ⟨by omega, by omega⟩ ⟨by omega, by omega⟩) (fun a_99 w_99 h_99 => ?_)
        obtain ⟨_, _⟩ := h_99
        subst a_99
        subst w_99
        refine jb_eq (tgt := 143) X dX10_nextTo_102 (by decide) (fun h_102 => ?_) (fun h_102 => ?_)
        · refine j_ldc X dX10_nextTo_143 kc_X10_135 ?_
          exact j_ireturn X hR dX10_nextTo_145 ⟨by unfold nb acr; rw [if_pos (by omega), if_neg (by omega)], rfl⟩
        · refine j_iload X dX10_nextTo_105 rfl ?_
          refine j_i2l X dX10_nextTo_107 ⟨by omega, by omega⟩ ?_
          refine j_lconst X dX10_nextTo_108 ?_
          refine j_aload_n X dX10_nextTo_109 rfl ?_
          refine j_getI X dX10_nextTo_110 ff_X10_7 rfl rfl ?_
          refine j_iconst X dX10_nextTo_113 ?_
          refine j_isub X dX10_nextTo_114 ?_
          refine j_i2l X dX10_nextTo_115 ⟨by omega, by omega⟩ ?_
          refine cS3i X mf_X10_in ms_X10_in ml_X10_101 (by decide) (Nat.le_of_ble_eq_true rfl) dX10_nextTo_116 (sp_X10_in ⟨by omega, by omega⟩ ⟨by omega, by omega⟩ ⟨by omega, by omega⟩) (fun a_116 w_116 h_116 => ?_)
          obtain ⟨_, _⟩ := h_116
          subst a_116
          subst w_116
          refine jb_eq (tgt := 143) X dX10_nextTo_119 (by decide) (fun h_119 => ?_) (fun h_119 => ?_)
          · refine j_ldc X dX10_nextTo_143 kc_X10_135 ?_
            exact j_ireturn X hR dX10_nextTo_145 ⟨by unfold nb acr; rw [if_pos (by omega), if_neg (by omega)], rfl⟩
          · refine j_iconst X dX10_nextTo_122 ?_
            refine j_iload X dX10_nextTo_123 rfl ?_
            refine j_aload_n X dX10_nextTo_125 rfl ?_
            refine j_getI X dX10_nextTo_126 ff_X10_7 rfl rfl ?_
            refine j_imul X dX10_nextTo_129 ?_
            refine j_iload X dX10_nextTo_130 rfl ?_
            refine j_iadd X dX10_nextTo_132 ?_
            refine j_imul X dX10_nextTo_133 ?_
            refine j_iload_n X dX10_nextTo_134 rfl ?_
            refine j_iconst X dX10_nextTo_135 ?_
            refine j_iadd X dX10_nextTo_136 ?_
            refine j_iconst X dX10_nextTo_137 ?_
            refine j_irem X dX10_nextTo_138 (by omega) (by omega) (by omega) (by omega) ?_
            refine j_iadd X dX10_nextTo_139 ?_
            refine j_goto (tgt := 145) X dX10_nextTo_140 (by decide) ?_
            exact j_ireturn X hR dX10_nextTo_145 ⟨by unfold nb acr; rw [if_pos (by omega), if_pos (by omega), hn1], rfl⟩
      rw [hn1, show (f : Int) / 4 / (n : Int) = ly n f from rfl]
      refine j_iload_n X dX10_nextTo_67 rfl ?_
      refine j_if_ne (tgt := 75) X dX10_nextTo_68 (by decide) ⟨by omega, by omega⟩ (fun h_68 => ?_) (fun h_68 => ?_)
      · refine j_iload_n X dX10_nextTo_75 rfl ?_
        refine j_iconst X dX10_nextTo_76 ?_
        refine j_icmp_ne (tgt := 84) X dX10_nextTo_77 (by decide) ⟨by omega, by omega⟩ ⟨by omega, by omega⟩ (fun h_77 => ?_) (fun h_77 => ?_)
        · refine j_iconst X dX10_nextTo_84 ?_
          refine j_iadd X dX10_nextTo_85 ?_
          have h9 := C_86
          unfold ay at h9
          rw [if_neg (by omega), if_neg (by omega)] at h9
          exact h9
        · refine j_iconst X dX10_nextTo_80 ?_
          refine j_goto (tgt := 85) X dX10_nextTo_81 (by decide) ?_
          refine j_iadd X dX10_nextTo_85 ?_
          have h9 := C_86
          unfold ay at h9
          rw [if_pos (by omega)] at h9
          exact h9
      · refine j_iconst X dX10_nextTo_71 ?_
        refine j_goto (tgt := 85) X dX10_nextTo_72 (by decide) ?_
        refine j_iadd X dX10_nextTo_85 ?_
        have h9 := C_86
        unfold ay at h9
        rw [if_neg (by omega), if_pos (by omega)] at h9
        exact h9
    rw [hn1, show (f : Int) / 4 % (n : Int) = lx n f from rfl]
    refine j_iload_n X dX10_nextTo_37 rfl ?_
    refine j_iconst X dX10_nextTo_38 ?_
    refine j_icmp_ne (tgt := 46) X dX10_nextTo_39 (by decide) ⟨by omega, by omega⟩ ⟨by omega, by omega⟩ (fun h_39 => ?_) (fun h_39 => ?_)
    · refine j_iload_n X dX10_nextTo_46 rfl ?_
      refine j_iconst X dX10_nextTo_47 ?_
      refine j_icmp_ne (tgt := 55) X dX10_nextTo_48 (by decide) ⟨by omega, by omega⟩ ⟨by omega, by omega⟩ (fun h_48 => ?_) (fun h_48 => ?_)
      · refine j_iconst X dX10_nextTo_55 ?_
        refine j_iadd X dX10_nextTo_56 ?_
        have h9 := C_57 (by omega)
        unfold ax at h9
        rw [if_neg (by omega), if_neg (by omega)] at h9
        exact h9
      · refine j_iconst X dX10_nextTo_51 ?_
        refine j_goto (tgt := 56) X dX10_nextTo_52 (by decide) ?_
        refine j_iadd X dX10_nextTo_56 ?_
        have h9 := C_57 (by omega)
        unfold ax at h9
        rw [if_neg (by omega), if_pos (by omega)] at h9
        exact h9
    · refine j_iconst X dX10_nextTo_42 ?_
      refine j_goto (tgt := 56) X dX10_nextTo_43 (by decide) ?_
      refine j_iadd X dX10_nextTo_56 ?_
      have h9 := C_57 (by omega)
      unfold ax at h9
      rw [if_pos (by omega)] at h9
      exact h9
  · refine j_iload_n X dX10_nextTo_8 rfl ?_
    refine j_iload_n X dX10_nextTo_9 rfl ?_
    refine j_isub X dX10_nextTo_10 ?_
    refine j_iload_n X dX10_nextTo_11 rfl ?_
    refine j_iconst X dX10_nextTo_12 ?_
    refine j_icmp_ne (tgt := 22) X dX10_nextTo_13 (by decide) ⟨by omega, by omega⟩ ⟨by omega, by omega⟩ (fun h_13 => ?_) (fun h_13 => ?_)
    · refine j_iload_n X dX10_nextTo_22 rfl ?_
      refine j_iconst X dX10_nextTo_23 ?_
      refine j_iadd X dX10_nextTo_24 ?_
      refine j_iconst X dX10_nextTo_25 ?_
      refine j_irem X dX10_nextTo_26 (by omega) (by omega) (by omega) (by omega) ?_
      refine j_iadd X dX10_nextTo_27 ?_
      exact j_ireturn X hR dX10_nextTo_28 ⟨by unfold nb; rw [if_neg (by omega), if_neg (by omega)], rfl⟩
    · refine j_iload_n X dX10_nextTo_16 rfl ?_
      refine j_iconst X dX10_nextTo_17 ?_
      refine j_iadd X dX10_nextTo_18 ?_
      refine j_goto (tgt := 25) X dX10_nextTo_19 (by decide) ?_
      refine j_iconst X dX10_nextTo_25 ?_
      refine j_irem X dX10_nextTo_26 (by omega) (by omega) (by omega) (by omega) ?_
      refine j_iadd X dX10_nextTo_27 ?_
      exact j_ireturn X hR dX10_nextTo_28 ⟨by unfold nb; rw [if_neg (by omega), if_pos (by omega)], rfl⟩
