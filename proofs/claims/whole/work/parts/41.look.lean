/-! ===== the reference's search: look, fewest, way, ways ===== -/
def rwM (n : Nat) (w : wd) (k : Nat) : wd := fun o i => if (71 ≤ o ∧ o ≤ 73) ∧ i < k then (if o = 71 then lx n i else if o = 72 then ly n i else lq i) else w o i
theorem rwM_0 (n : Nat) (w : wd) : rwM n w 0 = w := by
  funext o i; unfold rwM; rw [if_neg (by omega)]
theorem rwM_o {n : Nat} {w : wd} {k o : Nat} (h : o < 71 ∨ 73 < o) : rwM n w k o = w o := by
  funext i; unfold rwM; rw [if_neg (by omega)]
theorem rwM_s (n : Nat) (w : wd) (a : Nat) : wst (wst (wst (rwM n w a) 71 a (lx n a)) 72 a (ly n a)) 73 a (lq a) = rwM n w (a + 1) := by
  funext o i
  by_cases h : 71 ≤ o ∧ o ≤ 73
  · by_cases hi : i = a
    · subst hi
      rcases (by omega : o = 71 ∨ o = 72 ∨ o = 73) with rfl | rfl | rfl <;> simp [wst, w1, rwM]
    · have hm : i < a ↔ i < a + 1 := by omega
      rcases (by omega : o = 71 ∨ o = 72 ∨ o = 73) with rfl | rfl | rfl <;> simp [wst, w1, rwM, hi, hm]
  · have a1 : ¬ o = 71 := by omega
    have a2 : ¬ o = 72 := by omega
    have a3 : ¬ o = 73 := by omega
    simp only [wst, rwM, a1, a2, a3, if_false, h, false_and]
theorem rw_s (n : Nat) (F : Nat → Int) (g : Nat) : rwS n F (g + 1) = rwS n F g + gg n F g := rfl
theorem gg_nn (n : Nat) (F : Nat → Int) (g : Nat) : 0 ≤ gg n F g := rwS_nn n F g
theorem rw_nn (n : Nat) (F : Nat → Int) (g : Nat) : 0 ≤ rwS n F g := sm_nn _ (fun j _ => rwS_nn n F j)
theorem ac_rg {n : Nat} {F : Nat → Int} {g : Nat} (h : rwS n F g + gg n F g ≤ 3000) : 0 ≤ (acS n F g).1 ∧ (acS n F g).1 ≤ 1752000 := by
  have h1 := accD_rg (4 * n * n) F g g (S0 n) (fun _ => 0) (0, fun _ => 0)
  have h2 := rw_nn n F g
  have e : accD (4 * n * n) F g g (S0 n) (fun _ => 0) (0, fun _ => 0) = acS n F g := rfl
  rw [e] at h1
  have h3 : cnt (4 * n * n) F g (S0 n) ≤ 3000 := by
    unfold gg at h
    split at h
    · rename_i z; subst z; show (1 : Int) ≤ 3000; decide
    · omega
  have h4 : (0 : Int) ≤ (acS n F g).1 := h1.1
  have h5 : (acS n F g).1 ≤ 0 + 584 * cnt (4 * n * n) F g (S0 n) := h1.2
  omega
theorem bud_g {n g : Nat} {F : Nat → Int} (hn : 1 ≤ n ∧ n ≤ 6) (h : rwS n F g ≤ 3000) : bud (4 * n * n) F g (S0 n) ≤ 1056352 * ((g : Int) - (((g - 1 : Nat)) : Int)) := by
  rcases (by omega : g = 0 ∨ 1 ≤ g) with rfl | hg
  · show (0 : Int) ≤ _; omega
  · have h1 := bud_le (N := 4 * n * n) (F := F) g (S0_box hn)
    obtain ⟨m, rfl⟩ : ∃ m, g = m + 1 := ⟨g - 1, by omega⟩
    have h2 : sm (fun j => cnt (4 * n * n) F j (S0 n)) (m + 1) = 1 + rwS n F (m + 1) := by
      rw [sm_sh]
      unfold rwS
      rw [sm_sh]
      have e : sm (fun j => if j + 1 = 0 then (0 : Int) else cnt (4 * n * n) F (j + 1) (S0 n)) m = sm (fun j => cnt (4 * n * n) F (j + 1) (S0 n)) m := sm_c (fun j _ => if_neg (by omega))
      rw [e]
      show (1 : Int) + _ = 1 + ((if 0 = 0 then 0 else _) + _)
      rw [if_pos rfl]
      omega
    rw [h2] at h1
    omega
def lkJ (n : Nat) (w : wd) (Bx : Int) (g : Nat) (u : wd) : Prop := fr7 w u ∧ lvO (4 * n * n) (w 69) u (fun _ => S0 n) 0 ∧ stO u (Bx + 1056352 * ((g - 1 : Nat) : Int)) ∧ u 54 30 = rwS n (w 69) g ∧ u 54 31 = 0 ∧ noneS n (w 69) g
def lkP (n f : Nat) (w w' : wd) (Bx a : Int) : Prop := fr7 w w' ∧ stO w' (Bx + 3169056) ∧ a = lkS n (w 69) (f + 1) ∧ (0 ≤ a → a ≤ 3 ∧ w' 54 31 = (acS n (w 69) a.toNat).1 ∧ ∀ i, i ≤ a.toNat → w' 78 i = (acS n (w 69) a.toNat).2 i) ∧ (a = -99999 → w' 54 31 = 0)
theorem lkJ.start {n : Nat} {w v : wd} {Bx : Int} (hn : 1 ≤ n ∧ n ≤ 6) (hst : stO w Bx) (hm : msR (S0 n) (rwM n w (4 * n * n)) v 0 4 (4 * n * n)) : lkJ n w Bx 0 (wst (wst v 54 30 0) 54 31 0) := by
  have E : ∀ o, o ≠ 54 → o ≠ 75 → o ≠ 76 → wst (wst v 54 30 0) 54 31 0 o = rwM n w (4 * n * n) o := fun o a b c => by rw [wst_ne a, wst_ne a, hm.1 o b c]
  have E54 : ∀ i, i ≠ 30 → i ≠ 31 → wst (wst v 54 30 0) 54 31 0 54 i = w 54 i := fun i a b => by
    simp only [wst, w1, if_true, if_neg a, if_neg b]
    rw [hm.1 54 (by decide) (by decide), rwM_o (by decide)]
  refine ⟨⟨fun o a b => by rw [E o a (by omega) (by omega), rwM_o (by omega)], fun i a b c _ _ _ => E54 i b c⟩, fun i hi => ?_, (hst.mono (by omega)).c (E54 25 (by decide) (by decide)) (by rw [E 74 (by decide) (by decide) (by decide), rwM_o (by decide)]), rfl, rfl, by show (0 : Int) ≤ 3000; decide, fun j hj => absurd hj (Nat.not_lt_zero _)⟩
  obtain rfl : i = 0 := by omega
  refine ⟨fun f hf => ?_, S0_box hn, S0_cns n (w 69), fun s hs => ?_⟩
  · simp only [rS]
    rw [E 71 (by decide) (by decide) (by decide), E 72 (by decide) (by decide) (by decide), E 73 (by decide) (by decide) (by decide)]
    simp only [rwM, S0]
    simp [hf]
  · have h := hm.2.1 s hs
    rw [wst_ne (by decide), wst_ne (by decide), wst_ne (by decide), wst_ne (by decide)]
    exact h
theorem lkJ.pre {n g : Nat} {w u : wd} {Bx : Int} (h : lkJ n w Bx g u) (hn : 1 ≤ n ∧ n ≤ 6) (hg : g ≤ 3) (hB : Bx + 3169056 ≤ 2000000000) : u 69 = w 69 ∧ lvO (4 * n * n) (u 69) u (fun _ => S0 n) 0 ∧ Bx + 1056352 * ((g - 1 : Nat) : Int) + bud (4 * n * n) (u 69) g (S0 n) ≤ 2000000000 ∧ 0 ≤ rwS n (w 69) g ∧ rwS n (w 69) g ≤ 3000 := by
  obtain ⟨a, b, c, d, e, f⟩ := h
  have e69 := a.1 69 (by decide) (by decide)
  have h1 := bud_g (F := w 69) hn f.1
  have h2 : bud (4 * n * n) (w 69) g (S0 n) ≤ 1056352 * ((g : Int) - (((g - 1 : Nat)) : Int)) := h1
  refine ⟨e69, by rw [e69]; exact b, by rw [e69]; omega, rw_nn n (w 69) g, f.1⟩
theorem lkJ.stp {n g : Nat} {w u v : wd} {Bx : Int} (h : lkJ n w Bx g u) (hn : 1 ≤ n ∧ n ≤ 6) (hg : g ≤ 3) {a : Int} (hp : gtP n g u v (Bx + 1056352 * ((g - 1 : Nat) : Int)) (rwS n (w 69) g) a) : fr7 w v ∧ lvO (4 * n * n) (w 69) v (fun _ => S0 n) 0 ∧ stO v (Bx + 1056352 * ((g + 1 - 1 : Nat) : Int)) ∧ stO v (Bx + 3169056) ∧ ((a = 0 ∧ 3000 < rwS n (w 69) (g + 1)) ∨ (a = 1 ∧ rwS n (w 69) (g + 1) ≤ 3000 ∧ v 54 30 = rwS n (w 69) (g + 1) ∧ v 54 31 = (acS n (w 69) g).1 ∧ (0 < (acS n (w 69) g).1 → ∀ i, i ≤ g → v 78 i = (acS n (w 69) g).2 i))) := by
  obtain ⟨a1, a2, a3, a4, a5, a6⟩ := h
  have e69 := a1.1 69 (by decide) (by decide)
  obtain ⟨p1, p2, p3, p4⟩ := hp
  rw [e69] at p2 p3 p4
  have h2 : bud (4 * n * n) (w 69) g (S0 n) ≤ 1056352 * ((g : Int) - (((g - 1 : Nat)) : Int)) := bud_g hn a6.1
  rw [rw_s]
  exact ⟨a1.trans p1, p2, p3.mono (by omega), p3.mono (by omega), p4⟩
theorem lkS_at {n g f : Nat} {F : Nat → Int} (hn : noneS n F g) (hg : g ≤ f) {v : Int} (hv : (if 3000 < rwS n F (g + 1) then -5 else if 0 < (acS n F g).1 then (g : Int) else -99999) = v) (hv2 : v ≠ -99999) : lkS n F (f + 1) = v := by
  have h1 : lkS n F (g + 1) = v := by
    simp only [lkS]
    rw [if_pos (noneS_lk hn g (Nat.le_refl g)), hv]
  have h2 := lkS_stay (n := n) (F := F) (t := g + 1) (by rw [h1]; exact hv2) (f - g)
  rw [show f + 1 = g + 1 + (f - g) by omega, h2, h1]
theorem lk_spent {n g f : Nat} {w u v : wd} {Bx a : Int} (h : lkJ n w Bx g u) (hn : 1 ≤ n ∧ n ≤ 6) (hg : g ≤ 3) (hgf : g ≤ f) (hp : gtP n g u v (Bx + 1056352 * ((g - 1 : Nat) : Int)) (rwS n (w 69) g) a) (ha : a = 0) : lkP n f w v Bx (-5) := by
  obtain ⟨a1, a2, a3, a4, a5⟩ := h.stp hn hg hp
  rcases a5 with ⟨_, q⟩ | ⟨q, _⟩
  · exact ⟨a1, a4, (lkS_at h.2.2.2.2.2 hgf (if_pos q) (by decide)).symm, fun z => absurd z (by decide), fun z => absurd z (by decide)⟩
  · omega
theorem lk_hit {n g f : Nat} {w u v : wd} {Bx a : Int} (h : lkJ n w Bx g u) (hn : 1 ≤ n ∧ n ≤ 6) (hg : g ≤ 3) (hgf : g ≤ f) (hp : gtP n g u v (Bx + 1056352 * ((g - 1 : Nat) : Int)) (rwS n (w 69) g) a) (ha : a ≠ 0) (hpos : 0 < v 54 31) : lkP n f w v Bx (g : Int) := by
  obtain ⟨a1, a2, a3, a4, a5⟩ := h.stp hn hg hp
  rcases a5 with ⟨q, _⟩ | ⟨_, q1, q2, q3, q4⟩
  · omega
  · rw [q3] at hpos
    exact ⟨a1, a4, (lkS_at h.2.2.2.2.2 hgf (by rw [if_neg (by omega), if_pos hpos]) (by omega)).symm, fun _ => ⟨by omega, q3, fun i hi => q4 hpos i hi⟩, fun z => by omega⟩
theorem lkJ.next {n g : Nat} {w u v : wd} {Bx a : Int} (h : lkJ n w Bx g u) (hn : 1 ≤ n ∧ n ≤ 6) (hg : g ≤ 3) (hp : gtP n g u v (Bx + 1056352 * ((g - 1 : Nat) : Int)) (rwS n (w 69) g) a) (ha : a ≠ 0) (h0 : ¬ 0 < v 54 31) : lkJ n w Bx (g + 1) v := by
  obtain ⟨a1, a2, a3, a4, a5⟩ := h.stp hn hg hp
  rcases a5 with ⟨q, _⟩ | ⟨_, q1, q2, q3, q4⟩
  · omega
  · have hac : 0 ≤ (acS n (w 69) g).1 := (ac_rg (by rw [← rw_s]; exact q1)).1
    refine ⟨a1, a2, a3, q2, by omega, q1, fun j hj => ?_⟩
    rcases Nat.lt_succ_iff_lt_or_eq.mp hj with z | z
    · exact h.2.2.2.2.2.2 j z
    · subst z; omega
theorem lk_none {n g f : Nat} {w u : wd} {Bx : Int} (h : lkJ n w Bx g u) (hg : g = f + 1) (hf : f ≤ 3) : lkP n f w u Bx (-99999) := by
  subst hg
  obtain ⟨a1, a2, a3, a4, a5, a6⟩ := h
  exact ⟨a1, a3.mono (by omega), (noneS_lk a6 (f + 1) (Nat.le_refl _)).symm, fun z => absurd z (by decide), fun _ => a5⟩
theorem gtP.rg {n g : Nat} {w u v : wd} {X a : Int} (e : u 69 = w 69) (hp : gtP n g u v X (rwS n (w 69) g) a) : (0 ≤ a ∧ a ≤ 1) ∧ (a ≠ 0 → 0 ≤ v 54 31 ∧ v 54 31 ≤ 1752000) := by
  obtain ⟨_, _, _, p4⟩ := hp
  rw [e] at p4
  rcases p4 with ⟨q, _⟩ | ⟨q, q1, q2, q3, _⟩
  · exact ⟨by omega, fun z => absurd q z⟩
  · refine ⟨by omega, fun _ => ?_⟩
    rw [q3]
    exact ac_rg q1
theorem lkS_val (n : Nat) (F : Nat → Int) : ∀ m, lkS n F m = -99999 ∨ lkS n F m = -5 ∨ 0 ≤ lkS n F m
  | 0 => Or.inl rfl
  | m + 1 => by
    have ih := lkS_val n F m
    simp only [lkS]
    (repeat' split) <;> omega
theorem lstT_lt {P : Nat → Prop} [DecidablePred P] : ∀ n, lstT P (n + 1) < n + 1
  | 0 => by simp only [lstT]; split <;> omega
  | n + 1 => by
    have ih := lstT_lt (P := P) n
    have e : lstT P (n + 1 + 1) = if (∃ t, t < n + 1 ∧ P t) then lstT P (n + 1) else n + 1 := rfl
    rw [e]
    split <;> omega
def inT (g : Nat) (a : acT) : Prop := 0 ≤ a.1 ∧ (0 < a.1 → ∀ i, i ≤ g → 0 ≤ a.2 i ∧ a.2 i < 584)
theorem accD_in (N : Nat) (F : Nat → Int) (g : Nat) : ∀ d S r (a : acT), d ≤ g → (∀ i, i < g - d → 0 ≤ r i ∧ r i < 584) → inT g a → inT g (accD N F g d S r a)
  | 0, S, r, a, _, hr, ha => by
    have hc := cutN_rg N F S
    refine ⟨by simp only [accD, weiS]; have := ha.1; omega, fun hp i hi => ?_⟩
    simp only [accD, weiS] at hp ⊢
    by_cases z : 0 < cutN N F S ∧ a.1 = 0
    · rw [if_pos z]
      by_cases z2 : i < g
      · rw [if_pos z2]; exact hr i (by omega)
      · rw [if_neg z2]
        have : lstT (cutOk N F S) 584 < 584 := lstT_lt 583
        omega
    · rw [if_neg z]
      exact ha.2 (by have := ha.1; omega) i hi
  | d + 1, S, r, a, hd, hr, ha => by
    simp only [accD]
    have : ∀ n, n ≤ 584 → inT g (loopT (fun t a => if goS N F S t then accD N F g d (nxS S t) (w1 r (g - (d + 1)) t) a else a) n a) := by
      intro n
      induction n with
      | zero => intro _; exact ha
      | succ n ih =>
        intro hn
        have ih2 := ih (by omega)
        simp only [loopT]
        by_cases z : goS N F S n
        · rw [if_pos z]
          refine accD_in N F g d _ _ _ (by omega) (fun i hi => ?_) ih2
          simp only [w1]
          split
          · omega
          · exact hr i (by omega)
        · rw [if_neg z]; exact ih2
    exact this 584 (Nat.le_refl _)
theorem acS_in (n : Nat) (F : Nat → Int) (g : Nat) : inT g (acS n F g) := accD_in _ _ g g _ _ _ (Nat.le_refl g) (fun i hi => by omega) ⟨Int.le_refl _, fun h => absurd h (Int.lt_irrefl _)⟩
set_option maxHeartbeats 4000000 in
set_option maxRecDepth 20000 in
theorem sp_X10_look {n f : Nat} {w : wd} {Bx : Int} (hn : nOk n w) (hf3 : f ≤ 3) (hF : ∀ f, f < 144 → w 69 f = 0 ∨ w 69 f = 1) (hst : stO w Bx) (hBx : Bx + 3169056 ≤ 2000000000) : CalI yX10_look cX10_look 3 .int 5 LAY w [vR 54, vI (f : Int)] (fun a w' => lkP n f w w' Bx a) := by
  have hN := nn_le hn.1.2
  have hn1 := hn.2
  have hn6 := hn.1
  refine calI_intro (ls := [some (vR 54), some (vI (f : Int)), none]) (by decide) (Nat.le_of_ble_eq_true rfl) rfl (fun κ ad X hR => ?_)
  refine j_iconst X dX10_look_0 ?_
  refine s_2 X dX10_look_1 rfl ?_
  have L_2 : ∀ (m : Nat) (k : Nat) (_ : k ≤ 4 * n * n) (_ : 4 * n * n - k < m), J κ LAY ad 0 0 2 [some (vR 54), some (vI (f : Int)), some (vI (k : Int))] [] (rwM n w k) := by
    intro m
    induction m with
    | zero => intros; exact absurd ‹_ < 0› (Nat.not_lt_zero _)
    | succ m ih2 =>
      intro k h1 h2
      have hbn : nOk n (rwM n w k) := ⟨hn.1, (congrFun (rwM_o (by decide)) 1).trans hn1⟩
      have hb1 := hbn.2
      refine j_iload_n X dX10_look_2 rfl ?_
      refine j_aload_n X dX10_look_3 rfl ?_
      refine cV0i X mf_X10_facets mv_X10_facets ml_X10_97 (by decide) rfl rfl (Nat.le_of_ble_eq_true rfl) dX10_look_4 (sp_X10_facets hbn) (fun a_4 w_4 h_4 => ?_)
      obtain ⟨_, _⟩ := h_4
      subst a_4
      subst w_4
      refine j_icmp_ge (tgt := 53) X dX10_look_7 (by decide) ⟨by omega, by omega⟩ ⟨by omega, by omega⟩ (fun h_7 => ?_) (fun h_7 => ?_)
      · obtain rfl : k = 4 * n * n := by omega
        refine j_aload_n X dX10_look_53 rfl ?_
        refine j_iconst X dX10_look_54 ?_
        refine cV1v X mf_X10_measure mv_X10_measure ml_X10_220 (by decide) rfl rfl (Nat.le_of_ble_eq_true rfl) dX10_look_55 (sp_X10_measure (n := n) (d := 0) (S := S0 n) (w := rwM n w (4 * n * n)) hbn (by omega) (fun f hf => by simp [rS, rwM, S0, hf]) (fun f hf => by have h9 := (S0_box hn6).1 f hf; unfold okp at h9 ⊢; omega)) (fun w_55 h_55 => ?_)
        have hms2 : msR (S0 n) (rwM n w (4 * n * n)) w_55 0 4 (4 * n * n) := h_55
        refine j_aload_n X dX10_look_58 rfl ?_
        refine j_iconst X dX10_look_59 ?_
        refine j_putI X dX10_look_60 fp_X10_223 rfl rfl ?_
        refine j_aload_n X dX10_look_63 rfl ?_
        refine j_iconst X dX10_look_64 ?_
        refine j_putI X dX10_look_65 fp_X10_210 rfl rfl ?_
        refine j_iconst X dX10_look_68 ?_
        refine s_2 X dX10_look_69 rfl ?_
        have L_70 : ∀ (m : Nat) (g : Nat) (u : wd) (_ : lkJ n w Bx g u) (_ : g ≤ f + 1) (_ : f + 1 - g < m), J κ LAY ad 0 0 70 [some (vR 54), some (vI (f : Int)), some (vI (g : Int))] [] u := by
          intro m
          induction m with
          | zero => intros; exact absurd ‹_ < 0› (Nat.not_lt_zero _)
          | succ m ih70 =>
            intro g u hj h3 h4
            refine j_iload_n X dX10_look_70 rfl ?_
            refine j_iload_n X dX10_look_71 rfl ?_
            refine j_icmp_gt (tgt := 101) X dX10_look_72 (by decide) ⟨by omega, by omega⟩ ⟨by omega, by omega⟩ (fun h_72 => ?_) (fun h_72 => ?_)
            · refine j_ldc X dX10_look_101 kc_X10_135 ?_
              exact j_ireturn X hR dX10_look_103 (lk_none hj (by omega) hf3)
            · have hg3 : g ≤ 3 := by omega
              obtain ⟨e69, hlv, hbd, hr0, hr3⟩ := hj.pre hn6 hg3 hBx
              have hun : nOk n u := ⟨hn.1, (hj.1.2 1 (by decide) (by decide) (by decide) (by decide) (by decide) (by decide)).trans hn1⟩
              refine j_aload_n X dX10_look_75 rfl ?_
              refine j_iload_n X dX10_look_76 rfl ?_
              refine cV1i X mf_X10_goThrough mv_X10_goThrough ml_X10_226 (by decide) rfl rfl (Nat.le_of_ble_eq_true rfl) dX10_look_77 (sp_X10_goThrough (n := n) (g := g) (Bx := Bx + 1056352 * ((g - 1 : Nat) : Int)) (R := rwS n (w 69) g) hun hg3 (fun f hf => by rw [e69]; exact hF f hf) hlv hj.2.2.1 hbd hj.2.2.2.1 ⟨hr0, hr3⟩ hj.2.2.2.2.1) (fun a_77 w_77 h_77 => ?_)
              have hgt : gtP n g u w_77 (Bx + 1056352 * ((g - 1 : Nat) : Int)) (rwS n (w 69) g) a_77 := h_77
              have hrg := (hgt).rg e69
              have hrg1 := (hrg).1
              refine j_if_ne (tgt := 86) X dX10_look_80 (by decide) ⟨by omega, by omega⟩ (fun h_80 => ?_) (fun h_80 => ?_)
              · refine j_aload_n X dX10_look_86 rfl ?_
                refine j_getI X dX10_look_87 ff_X10_210 rfl rfl ?_
                have h31 := hrg.2 h_80
                refine j_if_le (tgt := 95) X dX10_look_90 (by decide) ⟨by omega, by omega⟩ (fun h_90 => ?_) (fun h_90 => ?_)
                · refine inc_2 X dX10_look_95 rfl ?_
                  refine j_goto (tgt := 70) X dX10_look_98 (by decide) ?_
                  exact ih70 (g + 1) _ (hj.next hn6 hg3 hgt h_80 (by omega)) (by omega) (by omega)
                · refine j_iload_n X dX10_look_93 rfl ?_
                  exact j_ireturn X hR dX10_look_94 (lk_hit hj hn6 hg3 (by omega) hgt h_80 (by omega))
              · refine j_bipush X dX10_look_83 (by decide +kernel) ?_
                exact j_ireturn X hR dX10_look_85 (lk_spent hj hn6 hg3 (by omega) hgt (by omega))
        exact L_70 (f + 2) 0 _ (lkJ.start hn6 hst hms2) (by omega) (by omega)
      · refine j_aload_n X dX10_look_10 rfl ?_
        refine j_getR X dX10_look_11 ff_X10_66 rfl rfl ?_
        refine j_iload_n X dX10_look_14 rfl ?_
        refine j_iload_n X dX10_look_15 rfl ?_
        refine j_iconst X dX10_look_16 ?_
        refine j_idiv X dX10_look_17 (by omega) (by omega) (by omega) (by omega) ?_
        refine j_aload_n X dX10_look_18 rfl ?_
        refine j_getI X dX10_look_19 ff_X10_7 rfl rfl ?_
        rw [hb1]
        refine j_irem X dX10_look_22 (by omega) (by omega) (by omega) (by omega) ?_
        rw [show (k : Int) / 4 % (n : Int) = lx n k from rfl]
        refine j_iastk X dX10_look_23 rfl (by omega) (by decide) ?_
        refine j_aload_n X dX10_look_24 rfl ?_
        refine j_getR X dX10_look_25 ff_X10_69 rfl rfl ?_
        refine j_iload_n X dX10_look_28 rfl ?_
        refine j_iload_n X dX10_look_29 rfl ?_
        refine j_iconst X dX10_look_30 ?_
        refine j_idiv X dX10_look_31 (by omega) (by omega) (by omega) (by omega) ?_
        refine j_aload_n X dX10_look_32 rfl ?_
        refine j_getI X dX10_look_33 ff_X10_7 rfl rfl ?_
        rw [show (wst (rwM n w k) 71 k (lx n k)) 54 1 = (n : Int) from hb1]
        refine j_idiv X dX10_look_36 (by omega) (by omega) (by omega) (by omega) ?_
        rw [show (k : Int) / 4 / (n : Int) = ly n k from rfl]
        refine j_iastk X dX10_look_37 rfl (by omega) (by decide) ?_
        refine j_aload_n X dX10_look_38 rfl ?_
        refine j_getR X dX10_look_39 ff_X10_72 rfl rfl ?_
        refine j_iload_n X dX10_look_42 rfl ?_
        refine j_iload_n X dX10_look_43 rfl ?_
        refine j_iconst X dX10_look_44 ?_
        refine j_irem X dX10_look_45 (by omega) (by omega) (by omega) (by omega) ?_
        rw [show (k : Int) % 4 = lq k from rfl]
        refine j_iastk X dX10_look_46 rfl (by omega) (by decide) ?_
        refine inc_2 X dX10_look_47 rfl ?_
        refine j_goto (tgt := 2) X dX10_look_50 (by decide) ?_
        rw [rwM_s]
        exact ih2 (k + 1) (by omega) (by omega)
  have h9 := L_2 (4 * n * n + 1) 0 (by omega) (by omega)
  rw [rwM_0] at h9
  exact h9
set_option maxHeartbeats 4000000 in
set_option maxRecDepth 20000 in
theorem sp_X10_fewest {n : Nat} {w : wd} {Bx : Int} (hm : MI n w) (hst : stO w Bx) (hBx : Bx + 3169056 ≤ 2000000000) {t : Int} (ht : rg t) : CalI yX10_fewest cX10_fewest 2 .int 6 LAY w [vR 54, vI t] (fun a w' => a = fewF n (w 69) t ∧ fr7 w w' ∧ stO w' (Bx + 3169056)) := by
  obtain ⟨hn, ht0, hp, hcr, hfe, hfi, hic, hfo, hkn⟩ := id hm
  have hN := nn_le hn.1.2
  have hn1 := hn.2
  have hn6 := hn.1
  refine calI_intro (ls := [some (vR 54), some (vI t)]) (by decide) (Nat.le_of_ble_eq_true rfl) rfl (fun κ ad X hR => ?_)
  refine j_aload_n X dX10_fewest_0 rfl ?_
  refine j_iconst X dX10_fewest_1 ?_
  refine j_putI X dX10_fewest_2 fp_X10_94 rfl rfl ?_
  rw [thr0 ht0]
  refine j_iload_n X dX10_fewest_5 rfl ?_
  refine j_i2l X dX10_fewest_6 ⟨by omega, by omega⟩ ?_
  refine j_lconst X dX10_fewest_7 ?_
  refine j_ldc2 X dX10_fewest_8 kl_X10_105 ?_
  refine cS3i X mf_X10_in ms_X10_in ml_X10_101 (by decide) (Nat.le_of_ble_eq_true rfl) dX10_fewest_11 (sp_X10_in ⟨by omega, by omega⟩ ⟨by omega, by omega⟩ ⟨by omega, by omega⟩) (fun a_11 w_11 h_11 => ?_)
  obtain ⟨_, _⟩ := h_11
  subst a_11
  subst w_11
  refine jb_eq (tgt := 25) X dX10_fewest_14 (by decide) (fun h_14 => ?_) (fun h_14 => ?_)
  · refine j_bipush X dX10_fewest_25 (by decide +kernel) ?_
    exact j_ireturn X hR dX10_fewest_27 ⟨by unfold fewF; rw [if_neg (by omega)], fr7.refl w, hst.mono (by omega)⟩
  · obtain ⟨f, rfl⟩ := Int.eq_ofNat_of_zero_le (show (0 : Int) ≤ t by omega)
    have hf3 : f ≤ 3 := by omega
    refine j_aload_n X dX10_fewest_17 rfl ?_
    refine j_iload_n X dX10_fewest_18 rfl ?_
    refine cV1i X mf_X10_look mv_X10_look ml_X10_229 (by decide) rfl rfl (Nat.le_of_ble_eq_true rfl) dX10_fewest_19 (sp_X10_look (n := n) (f := f) (Bx := Bx) hn hf3 hfi hst hBx) (fun a_19 w_19 h_19 => ?_)
    obtain ⟨hfr, hst2, hlk, hac, hno⟩ := h_19
    refine j_goto (tgt := 27) X dX10_fewest_22 (by decide) ?_
    exact j_ireturn X hR dX10_fewest_27 ⟨by unfold fewF; rw [if_pos (by omega)]; exact hlk, hfr, hst2⟩
theorem wys_is {n f : Nat} {F : Nat → Int} {a x : Int} {y : Nat → Int} (hf3 : f ≤ 3) (hlk : a = lkS n F (f + 1)) (hlv : a = -99999 ∨ a = -5 ∨ 0 ≤ a) (hac : 0 ≤ a → a ≤ 3 ∧ x = (acS n F a.toNat).1 ∧ ∀ i, i ≤ a.toNat → y i = (acS n F a.toNat).2 i) (hno : a = -99999 → x = 0) : (¬ a = -5 → x = wysF n F (f : Int)) ∧ (a = -5 → -5 = wysF n F (f : Int)) := by
  unfold wysF
  rw [if_pos (by omega), show ((f : Int).toNat + 1) = f + 1 from rfl, ← hlk]
  constructor
  · intro h
    by_cases z : a = -99999
    · rw [if_pos z]; exact hno z
    · rw [if_neg z, if_neg (by omega)]
      exact (hac (by omega)).2.1
  · intro h
    rw [if_neg (by omega), if_pos (by omega), h]
theorem way_is {n f : Nat} {F : Nat → Int} {a i : Int} (hf3 : f ≤ 3) (hlk : a = lkS n F (f + 1)) : (a < 0 → a = wayF n F (f : Int) i) ∧ (0 ≤ a → ¬ (0 ≤ i ∧ i ≤ a) → -99999 = wayF n F (f : Int) i) ∧ (0 ≤ a → 0 ≤ i ∧ i ≤ a → ∀ v, v = tl ((acS n F a.toNat).2 i.toNat) → v = wayF n F (f : Int) i) := by
  unfold wayF
  rw [if_pos (by omega), show ((f : Int).toNat + 1) = f + 1 from rfl, ← hlk]
  refine ⟨fun h => by rw [if_pos h], fun h h2 => by rw [if_neg (by omega), if_neg h2], fun h h2 v hv => by rw [if_neg (by omega), if_pos h2, hv]⟩
set_option maxHeartbeats 4000000 in
set_option maxRecDepth 20000 in
theorem sp_X10_ways {n : Nat} {w : wd} {Bx : Int} (hm : MI n w) (hst : stO w Bx) (hBx : Bx + 3169056 ≤ 2000000000) {t : Int} (ht : rg t) : CalI yX10_ways cX10_ways 2 .int 6 LAY w [vR 54, vI t] (fun a w' => a = wysF n (w 69) t ∧ fr7 w w' ∧ stO w' (Bx + 3169056)) := by
  obtain ⟨hn, ht0, hp, hcr, hfe, hfi, hic, hfo, hkn⟩ := id hm
  have hN := nn_le hn.1.2
  have hn1 := hn.2
  have hn6 := hn.1
  refine calI_intro (ls := [some (vR 54), some (vI t)]) (by decide) (Nat.le_of_ble_eq_true rfl) rfl (fun κ ad X hR => ?_)
  refine j_aload_n X dX10_ways_0 rfl ?_
  refine j_iconst X dX10_ways_1 ?_
  refine j_putI X dX10_ways_2 fp_X10_94 rfl rfl ?_
  rw [thr0 ht0]
  refine j_iload_n X dX10_ways_5 rfl ?_
  refine j_i2l X dX10_ways_6 ⟨by omega, by omega⟩ ?_
  refine j_lconst X dX10_ways_7 ?_
  refine j_ldc2 X dX10_ways_8 kl_X10_105 ?_
  refine cS3i X mf_X10_in ms_X10_in ml_X10_101 (by decide) (Nat.le_of_ble_eq_true rfl) dX10_ways_11 (sp_X10_in ⟨by omega, by omega⟩ ⟨by omega, by omega⟩ ⟨by omega, by omega⟩) (fun a_11 w_11 h_11 => ?_)
  obtain ⟨_, _⟩ := h_11
  subst a_11
  subst w_11
  refine jb_ne (tgt := 20) X dX10_ways_14 (by decide) (fun h_14 => ?_) (fun h_14 => ?_)
  · obtain ⟨f, rfl⟩ := Int.eq_ofNat_of_zero_le (show (0 : Int) ≤ t by omega)
    have hf3 : f ≤ 3 := by omega
    refine j_aload_n X dX10_ways_20 rfl ?_
    refine j_iload_n X dX10_ways_21 rfl ?_
    refine cV1i X mf_X10_look mv_X10_look ml_X10_229 (by decide) rfl rfl (Nat.le_of_ble_eq_true rfl) dX10_ways_22 (sp_X10_look (n := n) (f := f) (Bx := Bx) hn hf3 hfi hst hBx) (fun a_22 w_22 h_22 => ?_)
    obtain ⟨hfr, hst2, hlk, hac, hno⟩ := h_22
    have hlv := lkS_val n (w 69) (f + 1)
    have hlr := (lkS_rg n (w 69) (f + 1) (by omega)).1
    have hlp := (lkS_rg n (w 69) (f + 1) (by omega)).2
    rw [← hlk] at hlv hlr hlp
    refine j_bipush X dX10_ways_25 (by decide +kernel) ?_
    refine j_icmp_ne (tgt := 35) X dX10_ways_27 (by decide) ⟨by omega, by omega⟩ ⟨by omega, by omega⟩ (fun h_27 => ?_) (fun h_27 => ?_)
    · refine j_aload_n X dX10_ways_35 rfl ?_
      refine j_getI X dX10_ways_36 ff_X10_210 rfl rfl ?_
      exact j_ireturn X hR dX10_ways_39 ⟨(wys_is hf3 hlk hlv hac hno).1 h_27, hfr, hst2⟩
    · refine j_bipush X dX10_ways_30 (by decide +kernel) ?_
      refine j_goto (tgt := 39) X dX10_ways_32 (by decide) ?_
      exact j_ireturn X hR dX10_ways_39 ⟨(wys_is hf3 hlk hlv hac hno).2 h_27, hfr, hst2⟩
  · refine j_bipush X dX10_ways_17 (by decide +kernel) ?_
    exact j_ireturn X hR dX10_ways_19 ⟨by unfold wysF; rw [if_neg (by omega)], fr7.refl w, hst.mono (by omega)⟩
set_option maxHeartbeats 4000000 in
set_option maxRecDepth 20000 in
theorem sp_X10_way {n : Nat} {w : wd} {Bx : Int} (hm : MI n w) (hst : stO w Bx) (hBx : Bx + 3169056 ≤ 2000000000) {t : Int} (ht : rg t) {i : Int} (hi0 : rg i) : CalI yX10_way cX10_way 5 .int 6 LAY w [vR 54, vI t, vI i] (fun a w' => a = wayF n (w 69) t i ∧ fr7 w w' ∧ stO w' (Bx + 3169056)) := by
  obtain ⟨hn, ht0, hp, hcr, hfe, hfi, hic, hfo, hkn⟩ := id hm
  have hN := nn_le hn.1.2
  have hn1 := hn.2
  have hn6 := hn.1
  refine calI_intro (ls := [some (vR 54), some (vI t), some (vI i), none, none]) (by decide) (Nat.le_of_ble_eq_true rfl) rfl (fun κ ad X hR => ?_)
  refine j_aload_n X dX10_way_0 rfl ?_
  refine j_iconst X dX10_way_1 ?_
  refine j_putI X dX10_way_2 fp_X10_94 rfl rfl ?_
  rw [thr0 ht0]
  refine j_iload_n X dX10_way_5 rfl ?_
  refine j_i2l X dX10_way_6 ⟨by omega, by omega⟩ ?_
  refine j_lconst X dX10_way_7 ?_
  refine j_ldc2 X dX10_way_8 kl_X10_105 ?_
  refine cS3i X mf_X10_in ms_X10_in ml_X10_101 (by decide) (Nat.le_of_ble_eq_true rfl) dX10_way_11 (sp_X10_in ⟨by omega, by omega⟩ ⟨by omega, by omega⟩ ⟨by omega, by omega⟩) (fun a_11 w_11 h_11 => ?_)
  obtain ⟨_, _⟩ := h_11
  subst a_11
  subst w_11
  refine jb_ne (tgt := 20) X dX10_way_14 (by decide) (fun h_14 => ?_) (fun h_14 => ?_)
  · obtain ⟨f, rfl⟩ := Int.eq_ofNat_of_zero_le (show (0 : Int) ≤ t by omega)
    have hf3 : f ≤ 3 := by omega
    refine j_aload_n X dX10_way_20 rfl ?_
    refine j_iload_n X dX10_way_21 rfl ?_
    refine cV1i X mf_X10_look mv_X10_look ml_X10_229 (by decide) rfl rfl (Nat.le_of_ble_eq_true rfl) dX10_way_22 (sp_X10_look (n := n) (f := f) (Bx := Bx) hn hf3 hfi hst hBx) (fun a_22 w_22 h_22 => ?_)
    obtain ⟨hfr, hst2, hlk, hac, hno⟩ := h_22
    have hlv := lkS_val n (w 69) (f + 1)
    have hlr := (lkS_rg n (w 69) (f + 1) (by omega)).1
    have hlp := (lkS_rg n (w 69) (f + 1) (by omega)).2
    rw [← hlk] at hlv hlr hlp
    refine s_3 X dX10_way_25 rfl ?_
    refine j_iload_n X dX10_way_26 rfl ?_
    refine j_bipush X dX10_way_27 (by decide +kernel) ?_
    refine j_icmp_ne (tgt := 35) X dX10_way_29 (by decide) ⟨by omega, by omega⟩ ⟨by omega, by omega⟩ (fun h_29 => ?_) (fun h_29 => ?_)
    · refine j_iload_n X dX10_way_35 rfl ?_
      refine j_ldc X dX10_way_36 kc_X10_135 ?_
      refine j_icmp_eq (tgt := 52) X dX10_way_38 (by decide) ⟨by omega, by omega⟩ ⟨by omega, by omega⟩ (fun h_38 => ?_) (fun h_38 => ?_)
      · refine j_ldc X dX10_way_52 kc_X10_135 ?_
        exact j_ireturn X hR dX10_way_54 ⟨by rw [← (way_is hf3 hlk).1 (by omega)]; omega, hfr, hst2⟩
      · refine j_iload_n X dX10_way_41 rfl ?_
        refine j_i2l X dX10_way_42 ⟨by omega, by omega⟩ ?_
        refine j_lconst X dX10_way_43 ?_
        refine j_iload_n X dX10_way_44 rfl ?_
        refine j_i2l X dX10_way_45 ⟨by omega, by omega⟩ ?_
        refine cS3i X mf_X10_in ms_X10_in ml_X10_101 (by decide) (Nat.le_of_ble_eq_true rfl) dX10_way_46 (sp_X10_in ⟨by omega, by omega⟩ ⟨by omega, by omega⟩ ⟨by omega, by omega⟩) (fun a_46 w_46 h_46 => ?_)
        obtain ⟨_, _⟩ := h_46
        subst a_46
        subst w_46
        refine jb_ne (tgt := 55) X dX10_way_49 (by decide) (fun h_49 => ?_) (fun h_49 => ?_)
        · obtain ⟨j, rfl⟩ := Int.eq_ofNat_of_zero_le (show (0 : Int) ≤ i by omega)
          obtain ⟨ha3, _, hac2⟩ := hac (by omega)
          have hv := hac2 j (by omega)
          have htr := (acS_in n (w 69) a_22.toNat).2 (hlp (by omega)) j (by omega)
          rw [← hv] at htr
          refine j_aload_n X dX10_way_55 rfl ?_
          refine j_getR X dX10_way_56 ff_X10_87 rfl rfl ?_
          refine j_iload_n X dX10_way_59 rfl ?_
          refine j_ialdk X dX10_way_60 rfl (by omega) (by decide) ?_
          refine s_4 X dX10_way_61 rfl ?_
          refine j_bipush X dX10_way_63 (by decide +kernel) ?_
          refine j_iload X dX10_way_65 rfl ?_
          refine j_bipush X dX10_way_67 (by decide +kernel) ?_
          refine j_idiv X dX10_way_69 (by omega) (by omega) (by omega) (by omega) ?_
          refine j_bipush X dX10_way_70 (by decide +kernel) ?_
          refine j_iadd X dX10_way_72 ?_
          refine j_imul X dX10_way_73 ?_
          refine j_sipush X dX10_way_74 (by decide +kernel) ?_
          refine j_iadd X dX10_way_77 ?_
          refine j_bipush X dX10_way_78 (by decide +kernel) ?_
          refine j_iload X dX10_way_80 rfl ?_
          refine j_bipush X dX10_way_82 (by decide +kernel) ?_
          refine j_irem X dX10_way_84 (by omega) (by omega) (by omega) (by omega) ?_
          refine j_iconst X dX10_way_85 ?_
          refine j_idiv X dX10_way_86 (by omega) (by omega) (by omega) (by omega) ?_
          refine j_imul X dX10_way_87 ?_
          refine j_iadd X dX10_way_88 ?_
          refine j_iload X dX10_way_89 rfl ?_
          refine j_iconst X dX10_way_91 ?_
          refine j_irem X dX10_way_92 (by omega) (by omega) (by omega) (by omega) ?_
          refine j_iadd X dX10_way_93 ?_
          exact j_ireturn X hR dX10_way_94 ⟨(way_is hf3 hlk).2.2 (by omega) (by omega) _ (by show _ = tl ((acS n (w 69) a_22.toNat).2 j); rw [← hv]; unfold tl; omega), hfr, hst2⟩
        · refine j_ldc X dX10_way_52 kc_X10_135 ?_
          exact j_ireturn X hR dX10_way_54 ⟨(way_is hf3 hlk).2.1 (by omega) (by omega), hfr, hst2⟩
    · refine j_bipush X dX10_way_32 (by decide +kernel) ?_
      exact j_ireturn X hR dX10_way_34 ⟨by rw [← (way_is hf3 hlk).1 (by omega)]; omega, hfr, hst2⟩
  · refine j_bipush X dX10_way_17 (by decide +kernel) ?_
    exact j_ireturn X hR dX10_way_19 ⟨by unfold wayF; rw [if_neg (by omega)], fr7.refl w, hst.mono (by omega)⟩
