/-! ===== search: what is kept between calls ===== -/
def flF (n : Nat) (f : Nat → Int) : Nat → Int := fun i => if i < 4 * n * n then f i else 0
def rwS (n : Nat) (F : Nat → Int) (t : Nat) : Int := sm (fun j => if j = 0 then 0 else cnt (4 * n * n) F j (S0 n)) t
def acS (n : Nat) (F : Nat → Int) (j : Nat) : acT := accD (4 * n * n) F j j (S0 n) (fun _ => 0) (0, fun _ => 0)
def lkS (n : Nat) (F : Nat → Int) (m : Nat) : Int := match m with
  | 0 => -99999
  | j + 1 => if lkS n F j = -99999 then (if 3000 < rwS n F (j + 1) then -5 else if 0 < (acS n F j).1 then (j : Int) else -99999) else lkS n F j
def noneS (n : Nat) (F : Nat → Int) (t : Nat) : Prop := rwS n F t ≤ 3000 ∧ ∀ j, j < t → (acS n F j).1 = 0
theorem rwS_nn (n : Nat) (F : Nat → Int) (j : Nat) : 0 ≤ (if j = 0 then 0 else cnt (4 * n * n) F j (S0 n) : Int) := by
  split
  · exact Int.le_refl _
  · exact cnt_nn _ _ _ _
theorem noneS_lk {n : Nat} {F : Nat → Int} {t : Nat} (h : noneS n F t) : ∀ j, j ≤ t → lkS n F j = -99999
  | 0, _ => rfl
  | j + 1, hj => by
    have h1 := noneS_lk h j (by omega)
    have h2 := h.2 j (by omega)
    have h3 : rwS n F (j + 1) ≤ rwS n F t := sm_mono (f := fun j => if j = 0 then 0 else cnt (4 * n * n) F j (S0 n)) (rwS_nn n F) hj
    have h4 := h.1
    simp only [lkS]
    rw [if_pos h1, if_neg (show ¬ 3000 < rwS n F (j + 1) by omega), if_neg (show ¬ 0 < (acS n F j).1 by omega)]
theorem lkS_stay {n : Nat} {F : Nat → Int} {t : Nat} (h : lkS n F t ≠ -99999) : ∀ m, lkS n F (t + m) = lkS n F t
  | 0 => rfl
  | m + 1 => by
    have ih := lkS_stay h m
    show lkS n F (t + m + 1) = _
    simp only [lkS]
    rw [ih, if_neg h]
/-- the search's fields, when t lengths have been gone through -/
def SrS (n : Nat) (F : Nat → Int) (t : Nat) (w : wd) : Prop :=
  (noneS n F t ∧ w 23 9 = -99999 ∧ w 23 10 = -99999 ∧ w 23 7 = rwS n F t ∧ w 23 8 = 0) ∨
  (∃ j, t = j + 1 ∧ noneS n F j ∧ rwS n F t ≤ 3000 ∧ 0 < (acS n F j).1 ∧ w 23 9 = (j : Int) ∧ w 23 10 = -99999 ∧ RcA j w (acS n F j)) ∨
  (∃ j, t = j + 1 ∧ noneS n F j ∧ 3000 < rwS n F t ∧ w 23 9 = -99999 ∧ w 23 10 = (j : Int))
def LQA (w : wd) : Prop := LQ w 24 46 ∧ LQS 0 w
def SrI (n : Nat) (w : wd) : Prop := LQA w ∧ ∃ t : Nat, w 23 11 = (t : Int) ∧ t ≤ 4 ∧ (0 < t → RpD 0 w (4 * n * n) (flF n (w 22)) (S0 n)) ∧ SrS n (flF n (w 22)) t w
abbrev srC (o : Nat) : Prop := o = 23 ∨ o = 52 ∨ o = 53 ∨ (24 ≤ o ∧ o ≤ 27) ∨ (28 ≤ o ∧ o < 52)
def TrQ (n : Nat) (F : Nat → Int) (g : Nat) (w' : wd) : Prop :=
  (3000 < rwS n F (g + 1) ∧ w' 23 10 = (g : Int) ∧ w' 23 9 = -99999) ∨ (rwS n F (g + 1) ≤ 3000 ∧ w' 23 10 = -99999 ∧ RcA g w' (acS n F g) ∧ w' 23 7 = rwS n F (g + 1) ∧ w' 23 9 = if 0 < (acS n F g).1 then (g : Int) else -99999)
theorem SrS_next {n : Nat} {F : Nat → Int} {t : Nat} {w' : wd} (h : noneS n F t) (hq : TrQ n F t w') : SrS n F (t + 1) w' := by
  rcases hq with ⟨h1, h2, h3⟩ | ⟨h1, h2, h3, h4, h5⟩
  · exact Or.inr (Or.inr ⟨t, rfl, h, h1, h3, h2⟩)
  · by_cases z : 0 < (acS n F t).1
    · rw [if_pos z] at h5
      exact Or.inr (Or.inl ⟨t, rfl, h, h1, z, h5, h2, h3⟩)
    · rw [if_neg z] at h5
      have h0 := h3.2.1
      refine Or.inl ⟨⟨h1, fun j hj => ?_⟩, h5, h2, h4, by rw [h3.1]; omega⟩
      by_cases z2 : j = t
      · subst z2; omega
      · exact h.2 j (by omega)
theorem SrS.cong {n : Nat} {F : Nat → Int} {t : Nat} {w w' : wd} (h : SrS n F t w) (e : ∀ i, i ≠ 11 → w' 23 i = w 23 i) (e2 : w' 53 = w 53) : SrS n F t w' := by
  rcases h with ⟨h1, h2, h3, h4, h5⟩ | ⟨j, h1, h2, h3, h4, h5, h6, h7⟩ | ⟨j, h1, h2, h3, h4, h5⟩
  · exact Or.inl ⟨h1, by rw [e 9 (by decide)]; exact h2, by rw [e 10 (by decide)]; exact h3, by rw [e 7 (by decide)]; exact h4, by rw [e 8 (by decide)]; exact h5⟩
  · exact Or.inr (Or.inl ⟨j, h1, h2, h3, h4, by rw [e 9 (by decide)]; exact h5, by rw [e 10 (by decide)]; exact h6, h7.cong (e 8 (by decide)) e2⟩)
  · exact Or.inr (Or.inr ⟨j, h1, h2, h3, by rw [e 9 (by decide)]; exact h4, by rw [e 10 (by decide)]; exact h5⟩)
/-- what solve answers -/
theorem SrS_ans {n : Nat} {F : Nat → Int} {t : Nat} {w : wd} {f : Nat} (h : SrS n F t w) (hf : f < t ∨ w 23 9 ≠ -99999 ∨ w 23 10 ≠ -99999) : lkS n F (f + 1) = if w 23 10 ≠ -99999 ∧ w 23 10 ≤ (f : Int) then -5 else if w 23 9 ≤ (f : Int) then w 23 9 else -99999 := by
  rcases h with ⟨h1, h2, h3, h4, h5⟩ | ⟨j, h1, h2, h3, h4, h5, h6, h7⟩ | ⟨j, h1, h2, h3, h4, h5⟩
  · rw [if_neg (by omega), h2, if_pos (by omega)]
    exact noneS_lk h1 (f + 1) (by omega)
  · have hj := noneS_lk h2 j (Nat.le_refl _)
    have hj1 : lkS n F (j + 1) = (j : Int) := by
      rw [h1] at h3
      simp only [lkS]
      rw [if_pos hj, if_neg (by omega), if_pos h4]
    rw [if_neg (by omega), h5]
    by_cases z : (j : Int) ≤ (f : Int)
    · rw [if_pos z]
      have := lkS_stay (n := n) (F := F) (t := j + 1) (by rw [hj1]; omega) (f - j)
      rw [show j + 1 + (f - j) = f + 1 by omega] at this
      rw [this, hj1]
    · rw [if_neg z]
      exact noneS_lk h2 (f + 1) (by omega)
  · have hj := noneS_lk h2 j (Nat.le_refl _)
    have hj1 : lkS n F (j + 1) = -5 := by
      rw [h1] at h3
      simp only [lkS]
      rw [if_pos hj, if_pos h3]
    rw [h5, h4]
    by_cases z : (j : Int) ≤ (f : Int)
    · rw [if_pos ⟨by omega, z⟩]
      have := lkS_stay (n := n) (F := F) (t := j + 1) (by rw [hj1]; omega) (f - j)
      rw [show j + 1 + (f - j) = f + 1 by omega] at this
      rw [this, hj1]
    · rw [if_neg (by omega), if_pos (by omega)]
      exact noneS_lk h2 (f + 1) (by omega)
theorem cnt_c {N : Nat} {F F' : Nat → Int} (h : ∀ f, f < N → F f = F' f) {S : lys} {s k : Int} : fitS N F S s k ↔ fitS N F' S s k := by
  constructor
  · intro q f hf g hg e
    rw [← h f hf, ← h g hg]
    exact q f hf g hg e
  · intro q f hf g hg e
    rw [h f hf, h g hg]
    exact q f hf g hg e
theorem EAB_F {w : wd} {b a us sp N : Nat} {F F' : Nat → Int} {S : lys} (h : ∀ f, f < N → F f = F' f) : (EA w b a us sp N F S → EA w b a us sp N F' S) ∧ (EB w b a us sp N F S → EB w b a us sp N F' S) := by
  refine ⟨fun q i hi => ?_, fun q f hf => ?_⟩
  · obtain ⟨f, hf, h1, h2⟩ := q i hi
    exact ⟨f, hf, h1, by rw [← h f hf]; exact h2⟩
  · obtain ⟨i, hi, h1, h2⟩ := q f hf
    exact ⟨i, hi, h1, by rw [← h f hf]; exact h2⟩
set_option maxHeartbeats 4000000 in
set_option maxRecDepth 20000 in
theorem sp_X6_len0 {w : wd} (hz : LzO w 46) (hg : w 23 5 = 0) (h6 : w 23 6 = 1) (hr8 : rg (w 23 8)) : CalV yX6_lengthen cX6_lengthen 11 9 LAY w [vR 23, vR 24, vI 0] (fun w' => w' = w) := by
  refine calV_intro (ls := [some (vR 23), some (vR 24), some (vI 0), none, none, none, none, none, none, none, none]) (by decide) (Nat.le_of_ble_eq_true rfl) rfl (fun κ ad X hR => ?_)
  refine j_aload_n X dX6_lengthen_0 rfl ?_
  refine j_getR X dX6_lengthen_1 ff_X6_77 rfl rfl ?_
  refine sa_3 X dX6_lengthen_4 rfl ?_
  refine j_iload_n X dX6_lengthen_5 rfl ?_
  refine j_aload_n X dX6_lengthen_6 rfl ?_
  refine j_getI X dX6_lengthen_7 ff_X6_66 rfl rfl ?_
  refine jt_icmp_ge (tgt := 17) X dX6_lengthen_10 (by decide) ⟨by omega, by omega⟩ ⟨by omega, by omega⟩ (by first | decide | omega) ?_
  refine j_aload_n X dX6_lengthen_17 rfl ?_
  refine j_aload_n X dX6_lengthen_18 rfl ?_
  refine cV1v X mf_X6_weigh mv_X6_weigh ml_X6_80 (by decide) rfl rfl (Nat.le_of_ble_eq_true rfl) dX6_lengthen_19 (sp_X6_weigh_24 (g := 0) hz hg (by decide) (Or.inr h6) hr8) (fun w_19 h_19 => ?_)
  change _ = _ at h_19
  rw [if_neg (by omega)] at h_19
  unfold weiW at h_19
  rw [if_neg (by omega), wst_add0] at h_19
  exact j_return X hR dX6_lengthen_22 h_19
theorem RpD.cong {dep N : Nat} {F : Nat → Int} {S : lys} {w u : wd} (h : RpD dep w N F S) (hb : u (24 + dep) = w (24 + dep)) (he : ∀ j, j < 6 → u (46 - 6 * dep + j) = w (46 - 6 * dep + j)) : RpD dep u N F S := by
  obtain ⟨us, sp, hL, hA, hB⟩ := h
  exact ⟨us, sp, hL.cong hb he, (EAB.cong hb he).1 hA, (EAB.cong hb he).2.1 hB⟩
theorem RpD.rp {dep N : Nat} {F : Nat → Int} {S : lys} {w : wd} (h : RpD dep w N F S) : RpP dep w N F S := by
  obtain ⟨us, sp, hL, hA, hB⟩ := h
  exact ⟨us, sp, hL, hA, Or.inl hB⟩
theorem w23 {w : wd} {i j : Nat} {a : Int} : wst w 23 i a 23 j = if j = i then a else w 23 j := rfl
theorem wo {w : wd} {o i : Nat} {a : Int} (h : o ≠ 23) : wst w 23 i a o = w o := by
  funext j
  simp [wst, h]
theorem try_1 {n g : Nat} {F : Nat → Int} {w u : wd} (h9 : w 23 9 = -99999) (h10 : w 23 10 = -99999) (hC : FRM 0 (wst (wst w 23 5 (g : Int)) 23 6 1) u) (hq : LQS 0 u) (h : 3000 < rwS n F (g + 1)) : FRM 0 (wst (wst w 23 5 g) 23 6 0) (wst (wst (wst (wst u 23 10 (g : Int)) 23 6 0) 23 9 (w 23 9)) 23 10 (w 23 10)) ∧ LQS 0 (wst u 23 10 (g : Int)) ∧ TrQ n F g (wst u 23 10 (g : Int)) := by
  obtain ⟨f1, f2, f3⟩ := hC
  refine ⟨⟨fun o ho a1 a2 a3 => ?_, fun i a1 a2 => ?_, fun i hi => absurd hi (Nat.not_lt_zero _)⟩, hq.cong (fun o ho => wo (by omega)), Or.inl ⟨h, rfl, ?_⟩⟩
  · rw [wo a3, wo a3, wo a3, wo a3, wo a3, wo a3, f1 o ho a1 a2 a3, wo a3, wo a3]
  · have := f2 i a1 a2
    simp only [w23] at this ⊢
    by_cases z10 : i = 10
    · subst z10; simp
    · by_cases z9 : i = 9
      · subst z9; simp
      · by_cases z6 : i = 6
        · subst z6; simp
        · simp only [z10, z9, z6, if_false] at this ⊢; exact this
  · have := f2 9 (by decide) (by decide)
    simp only [w23] at this ⊢
    simp at this ⊢
    rw [this]; exact h9
theorem try_2 {n g : Nat} {F : Nat → Int} {w u v : wd} (h9 : w 23 9 = -99999) (h10 : w 23 10 = -99999) (hC : FRM 0 (wst (wst w 23 5 (g : Int)) 23 6 1) u) (hD : FRM 0 (wst u 23 6 0) v) (hq : LQS 0 v) (h : rwS n F (g + 1) ≤ 3000) (hr : RcA g v (acS n F g)) (h7 : v 23 7 = rwS n F (g + 1)) (h0 : ¬ 0 < (acS n F g).1) : FRM 0 (wst (wst w 23 5 g) 23 6 0) (wst (wst (wst v 23 6 0) 23 9 (w 23 9)) 23 10 (w 23 10)) ∧ LQS 0 v ∧ TrQ n F g v := by
  obtain ⟨f1, f2, f3⟩ := hC
  obtain ⟨d1, d2, d3⟩ := hD
  have e9 := f2 9 (by decide) (by decide)
  have e10 := f2 10 (by decide) (by decide)
  have e9b := d2 9 (by decide) (by decide)
  have e10b := d2 10 (by decide) (by decide)
  simp only [w23] at e9 e10 e9b e10b
  simp at e9 e10 e9b e10b
  refine ⟨⟨fun o ho a1 a2 a3 => ?_, fun i a1 a2 => ?_, fun i hi => absurd hi (Nat.not_lt_zero _)⟩, hq, Or.inr ⟨h, by rw [e10b, e10, h10], hr, h7, by rw [if_neg h0, e9b, e9, h9]⟩⟩
  · rw [wo a3, wo a3, wo a3, wo a3, wo a3, d1 o ho a1 a2 a3, wo a3, f1 o ho a1 a2 a3, wo a3, wo a3]
  · have t1 := f2 i a1 a2
    have t2 := d2 i a1 a2
    simp only [w23] at t1 t2 ⊢
    by_cases z10 : i = 10
    · subst z10; simp
    · by_cases z9 : i = 9
      · subst z9; simp
      · by_cases z6 : i = 6
        · subst z6; simp
        · simp only [z10, z9, z6, if_false] at t1 t2 ⊢; rw [t2, t1]
theorem try_3 {n g : Nat} {F : Nat → Int} {w u v : wd} (h9 : w 23 9 = -99999) (h10 : w 23 10 = -99999) (hC : FRM 0 (wst (wst w 23 5 (g : Int)) 23 6 1) u) (hD : FRM 0 (wst u 23 6 0) v) (hq : LQS 0 v) (h : rwS n F (g + 1) ≤ 3000) (hr : RcA g v (acS n F g)) (h7 : v 23 7 = rwS n F (g + 1)) (h0 : 0 < (acS n F g).1) : FRM 0 (wst (wst w 23 5 g) 23 6 0) (wst (wst (wst (wst v 23 9 (g : Int)) 23 6 0) 23 9 (w 23 9)) 23 10 (w 23 10)) ∧ LQS 0 (wst v 23 9 (g : Int)) ∧ TrQ n F g (wst v 23 9 (g : Int)) := by
  obtain ⟨f1, f2, f3⟩ := hC
  obtain ⟨d1, d2, d3⟩ := hD
  have e10 := f2 10 (by decide) (by decide)
  have e10b := d2 10 (by decide) (by decide)
  simp only [w23] at e10 e10b
  simp at e10 e10b
  refine ⟨⟨fun o ho a1 a2 a3 => ?_, fun i a1 a2 => ?_, fun i hi => absurd hi (Nat.not_lt_zero _)⟩, hq.cong (fun o ho => wo (by omega)), Or.inr ⟨h, by simp only [w23]; simp; rw [e10b, e10, h10], hr.cong rfl (wo (by decide)), h7, by rw [if_pos h0]; rfl⟩⟩
  · rw [wo a3, wo a3, wo a3, wo a3, wo a3, wo a3, d1 o ho a1 a2 a3, wo a3, f1 o ho a1 a2 a3, wo a3, wo a3]
  · have t1 := f2 i a1 a2
    have t2 := d2 i a1 a2
    simp only [w23] at t1 t2 ⊢
    by_cases z10 : i = 10
    · subst z10; simp
    · by_cases z9 : i = 9
      · subst z9; simp
      · by_cases z6 : i = 6
        · subst z6; simp
        · simp only [z10, z9, z6, if_false] at t1 t2 ⊢; rw [t2, t1]
set_option maxHeartbeats 4000000 in
set_option maxRecDepth 20000 in
theorem sp_X6_tryRows {n g : Nat} {F : Nat → Int} {w : wd} (hn : 1 ≤ n ∧ n ≤ 6) (hF : ∀ f, f < 4 * n * n → F f = 0 ∨ F f = 1) (hg3 : g ≤ 3) (hq : LQS 0 w) (hrp : RpD 0 w (4 * n * n) F (S0 n)) (h7 : w 23 7 = rwS n F g) (h73 : rwS n F g ≤ 3000) (h8 : w 23 8 = 0) (h9 : w 23 9 = -99999) (h10 : w 23 10 = -99999) : CalV yX6_tryRows cX6_tryRows 2 10 LAY w [vR 23, vI (g : Int)] (fun w' => FRM 0 (wst (wst w 23 5 g) 23 6 0) (wst (wst (wst w' 23 6 0) 23 9 (w 23 9)) 23 10 (w 23 10)) ∧ LQS 0 w' ∧ TrQ n F g w') := by
  have hN1 := nn_pos hn.1
  have hbx := S0_box hn
  have hcn := S0_cns n F
  have h70 : 0 ≤ rwS n F g := sm_nn g (fun k _ => rwS_nn n F k)
  have er : rwS n F (g + 1) = rwS n F g + (if g = 0 then 0 else cnt (4 * n * n) F g (S0 n)) := rfl
  refine calV_intro (ls := [some (vR 23), some (vI (g : Int))]) (by decide) (Nat.le_of_ble_eq_true rfl) rfl (fun κ ad X hR => ?_)
  refine j_aload_n X dX6_tryRows_0 rfl ?_
  refine j_iload_n X dX6_tryRows_1 rfl ?_
  refine j_putI X dX6_tryRows_2 fp_X6_66 rfl rfl ?_
  refine j_aload_n X dX6_tryRows_5 rfl ?_
  refine j_iconst X dX6_tryRows_6 ?_
  refine j_putZ X dX6_tryRows_7 fp_X6_69 rfl rfl (by first | exact Or.inl rfl | exact Or.inr rfl | assumption | omega) ?_
  have hq1 : LQS 0 (wst (wst w 23 5 (g : Int)) 23 6 1) := hq.cong (fun o ho => by rw [wo (by omega), wo (by omega)])
  have hrp1 : RpD 0 (wst (wst w 23 5 (g : Int)) 23 6 1) (4 * n * n) F (S0 n) := hrp.cong rfl (fun j hj => by rcases (by omega : j = 0 ∨ j = 1 ∨ j = 2 ∨ j = 3 ∨ j = 4 ∨ j = 5) with rfl | rfl | rfl | rfl | rfl | rfl <;> rfl)
  have cC : CalV yX6_lengthen cX6_lengthen 11 9 LAY (wst (wst w 23 5 (g : Int)) 23 6 1) [vR 23, vR 24, vI 0] (fun u => FRM 0 (wst (wst w 23 5 (g : Int)) 23 6 1) u ∧ LQS 0 u ∧ u 23 8 = 0 ∧ 0 ≤ u 23 7 ∧ u 23 7 ≤ rwS n F (g + 1) ∧ (u 23 7 ≤ 3000 → u 23 7 = rwS n F (g + 1)) ∧ u 23 7 ≤ 3002) := by
    by_cases z : g = 0
    · subst z
      refine (sp_X6_len0 (by obtain ⟨us, sp, hL, _⟩ := hrp1; exact hL.2.2.2.1) rfl rfl (by rw [show wst (wst w 23 5 ((0 : Nat) : Int)) 23 6 1 23 8 = w 23 8 from rfl, h8]; decide)).mono (fun u hu => ?_)
      rw [hu]
      have e7 : wst (wst w 23 5 ((0 : Nat) : Int)) 23 6 1 23 7 = w 23 7 := rfl
      have e8 : wst (wst w 23 5 ((0 : Nat) : Int)) 23 6 1 23 8 = w 23 8 := rfl
      rw [if_pos rfl] at er
      exact ⟨FRM.refl _ _, hq1, by rw [e8, h8], by omega, by omega, by omega, by omega⟩
    · rw [if_neg z] at er
      have e7 : wst (wst w 23 5 (g : Int)) 23 6 1 23 7 = w 23 7 := rfl
      have e8 : wst (wst w 23 5 (g : Int)) 23 6 1 23 8 = w 23 8 := rfl
      refine (sp_X6_lenC_0 (N := 4 * n * n) (g := g) (F := F) (S := S0 n) hN1 hF hbx hcn rfl hg3 (by omega) rfl (by rw [e7]; omega) hq1 hrp1).mono (fun u hu => ?_)
      obtain ⟨u1, u2, u3, u4, u5, u6, u7, u8⟩ := hu
      simp only [Nat.sub_zero] at u6 u7
      exact ⟨u1, u2, by rw [u4, e8, h8], by omega, by omega, fun q => by have := u7 q; omega, u8⟩
  refine j_aload_n X dX6_tryRows_10 rfl ?_
  refine j_aload_n X dX6_tryRows_11 rfl ?_
  refine j_getR X dX6_tryRows_12 ff_X6_14 rfl rfl ?_
  refine j_iconst X dX6_tryRows_15 ?_
  refine cS3v X mf_X6_lengthen ms_X6_lengthen ml_X6_73 (by decide) (Nat.le_of_ble_eq_true rfl) dX6_tryRows_16 (cC) (fun w_16 h_16 => ?_)
  have hC := h_16
  have hCr := (hC.2.2.2)
  refine j_aload_n X dX6_tryRows_19 rfl ?_
  refine j_getI X dX6_tryRows_20 ff_X6_39 rfl rfl ?_
  refine j_sipush X dX6_tryRows_23 (by decide +kernel) ?_
  refine j_icmp_le (tgt := 35) X dX6_tryRows_26 (by decide) ⟨by omega, by omega⟩ ⟨by omega, by omega⟩ (fun h_26 => ?_) (fun h_26 => ?_)
  · refine j_aload_n X dX6_tryRows_35 rfl ?_
    refine j_iconst X dX6_tryRows_36 ?_
    refine j_putZ X dX6_tryRows_37 fp_X6_69 rfl rfl (by first | exact Or.inl rfl | exact Or.inr rfl | assumption | omega) ?_
    have h3k : rwS n F (g + 1) ≤ 3000 := by have := hC.2.2.2.2.2.1 (by omega); omega
    have e7c : w_16 23 7 = rwS n F (g + 1) := hC.2.2.2.2.2.1 (by omega)
    have hq2 : LQS 0 (wst w_16 23 6 0) := hC.2.1.cong (fun o ho => wo (by omega))
    have hrp2 : RpD 0 (wst w_16 23 6 0) (4 * n * n) F (S0 n) := (hrp1.cong (hC.1.1 24 (by decide) (by decide) (by decide) (by decide)) (fun j hj => hC.1.1 _ (by omega) (by omega) (by omega) (by omega))).cong rfl (fun j hj => by rcases (by omega : j = 0 ∨ j = 1 ∨ j = 2 ∨ j = 3 ∨ j = 4 ∨ j = 5) with rfl | rfl | rfl | rfl | rfl | rfl <;> rfl)
    have hcg : cnt (4 * n * n) F g (S0 n) ≤ 3000 := by
      by_cases z : g = 0
      · subst z; simp only [cnt]; decide
      · rw [if_neg z] at er; omega
    have e5 : wst w_16 23 6 0 23 5 = (g : Int) := hC.1.2.1 5 (by decide) (by decide)
    refine j_aload_n X dX6_tryRows_40 rfl ?_
    refine j_aload_n X dX6_tryRows_41 rfl ?_
    refine j_getR X dX6_tryRows_42 ff_X6_14 rfl rfl ?_
    refine j_iconst X dX6_tryRows_45 ?_
    refine cS3v X mf_X6_lengthen ms_X6_lengthen ml_X6_73 (by decide) (Nat.le_of_ble_eq_true rfl) dX6_tryRows_46 (sp_X6_lenW_0 (N := 4 * n * n) (g := g) (F := F) (S := S0 n) (r := fun _ => 0) (a := (0, fun _ => 0)) hN1 hF hbx hcn e5 hg3 (Nat.zero_le _) rfl (by rw [show wst w_16 23 6 0 23 7 = w_16 23 7 from rfl]; omega) ⟨hC.2.2.1, Int.le_refl _, fun z => absurd z (by decide)⟩ (fun i hi => absurd hi (Nat.not_lt_zero _)) hq2 (by simp only [Nat.sub_zero]; omega) hrp2.rp (fun _ => hrp2)) (fun w_46 h_46 => ?_)
    have hD := h_46
    rw [Nat.sub_zero] at hD
    change FRM 0 (wst w_16 23 6 0) w_46 ∧ LQS 0 w_46 ∧ w_46 23 7 = wst w_16 23 6 0 23 7 ∧ RcA g w_46 (acS n F g) at hD
    have hDc := (hD.2.2.2.2.1)
    have hD8 := (hD.2.2.2.1)
    have hDr : (acS n F g).1 ≤ 2000000 := by
      have := (accD_rg (4 * n * n) F g g (S0 n) (fun _ => 0) (0, fun _ => 0)).2
      change (acS n F g).1 ≤ 0 + 584 * cnt (4 * n * n) F g (S0 n) at this
      omega
    refine j_aload_n X dX6_tryRows_49 rfl ?_
    refine j_getI X dX6_tryRows_50 ff_X6_42 rfl rfl ?_
    refine j_if_le (tgt := 61) X dX6_tryRows_53 (by decide) ⟨by omega, by omega⟩ (fun h_53 => ?_) (fun h_53 => ?_)
    · exact j_return X hR dX6_tryRows_61 (try_2 h9 h10 hC.1 hD.1 hD.2.1 h3k hD.2.2.2 (by rw [hD.2.2.1]; exact e7c) (by omega))
    · refine j_aload_n X dX6_tryRows_56 rfl ?_
      refine j_iload_n X dX6_tryRows_57 rfl ?_
      refine j_putI X dX6_tryRows_58 fp_X6_46 rfl rfl ?_
      exact j_return X hR dX6_tryRows_61 (try_3 h9 h10 hC.1 hD.1 hD.2.1 h3k hD.2.2.2 (by rw [hD.2.2.1]; exact e7c) (by omega))
  · refine j_aload_n X dX6_tryRows_29 rfl ?_
    refine j_iload_n X dX6_tryRows_30 rfl ?_
    refine j_putI X dX6_tryRows_31 fp_X6_49 rfl rfl ?_
    exact j_return X hR dX6_tryRows_34 (try_1 h9 h10 hC.1 hC.2.1 (by omega))
