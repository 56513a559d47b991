/-! ===== the reference: fold ===== -/
/-- hides a hypothesis from what counts -/
def Hid (P : Prop) : Prop := P
def mvM (s l d : Int) (w : wd) (k : Nat) : wd := fun o i => if o = 67 ∧ i < k then ib (ron s l d w i) else w o i
abbrev crC (n : Nat) (s l d : Int) (w : wd) (f e : Nat) : Prop := nb n f e ≠ -99999 ∧ ib (ron s l d w f) ≠ ib (ron s l d w (nb n f e).toNat)
def crV (n : Nat) (s l d ov : Int) (w : wd) (f e : Nat) : Int := if crC n s l d w f e then (if ov = w 59 f then 1 else 2) else w 60 (3 * f + e)
def crM (n : Nat) (s l d ov : Int) (w b : wd) (c : Nat) : wd := fun o i => if o = 60 ∧ i < c then crV n s l d ov w (i / 3) (i % 3) else b o i
def owS (N : Nat) (w : wd) (f g : Nat) : Int := ib (w 55 g = w 55 f ∧ w 56 g = w 56 f ∧ w 57 g = w 57 f)
def syS (s l d : Int) (w : wd) (f g : Nat) : Int := ib (¬ ron s l d w g ∧ (w 55 g = mirX s l (w 55 f) (w 56 f) ∧ w 56 g = mirY s l (w 55 f) (w 56 f) ∧ w 57 g = mirQ s (w 57 f)))
def cmS (s l d : Int) (w : wd) (f g : Nat) : Int := ib (ron s l d w g ∧ (mirX s l (w 55 g) (w 56 g) = w 55 f ∧ mirY s l (w 55 g) (w 56 g) = w 56 f ∧ mirQ s (w 57 g) = w 57 f))
def nwL (N : Nat) (s l d ov : Int) (w : wd) (f : Nat) : Int := sm (owS N w f) N - 1 - w 58 f + (if ov = 0 then 0 else sm (syS s l d w f) N)
def fmM (N : Nat) (s l d ov : Int) (w b : wd) (k : Nat) : wd := fun o i => if (55 ≤ o ∧ o ≤ 59) ∧ i < k ∧ ron s l d w i then (if o = 55 then mirX s l (w 55 i) (w 56 i) else if o = 56 then mirY s l (w 55 i) (w 56 i) else if o = 57 then mirQ s (w 57 i) else if o = 58 then nwL N s l d ov w i else ib (¬ w 59 i = 1)) else b o i
def stM (N : Nat) (s l d ov : Int) (w b : wd) (k : Nat) : wd := fun o i => if o = 58 ∧ i < k ∧ ¬ ron s l d w i ∧ ov = 0 then w 58 i + sm (cmS s l d w i) N else b o i
/-- before the leaves move -/
def foD (n q : Nat) (s l d ov : Int) (w : wd) : wd := wst (crM n s l d ov w (kepM (mvM s l d w (4 * n * n)) q (4 * n * n) (3 * (4 * n * n))) (3 * (4 * n * n))) 54 8 ((q : Int) + 1)
def folM (n q : Nat) (s l d ov : Int) (w : wd) : wd := stM (4 * n * n) s l d ov w (fmM (4 * n * n) s l d ov w (foD n q s l d ov w) (4 * n * n)) (4 * n * n)
theorem mvM_o {s l d : Int} {w : wd} {k o : Nat} (h : o ≠ 67) : mvM s l d w k o = w o := by
  funext i; unfold mvM; rw [if_neg (by omega)]
theorem mvM_0 (s l d : Int) (w : wd) : mvM s l d w 0 = w := by
  funext o i; unfold mvM; rw [if_neg (by omega)]
theorem mvM_at {s l d : Int} {w : wd} {k i : Nat} (h : i < k) : mvM s l d w k 67 i = ib (ron s l d w i) := by
  unfold mvM; rw [if_pos ⟨rfl, h⟩]
theorem mvM_s (s l d : Int) (w : wd) (m : Nat) : wst (mvM s l d w m) 67 m (ib (ron s l d w m)) = mvM s l d w (m + 1) := by
  funext o i
  by_cases ho : o = 67
  · subst ho
    by_cases hi : i = m
    · subst hi; simp [wst, w1, mvM]
    · have : i < m ↔ i < m + 1 := by omega
      simp [wst, w1, mvM, hi, this]
  · simp [wst, mvM, ho]
theorem crM_o {n : Nat} {s l d ov : Int} {w b : wd} {c o : Nat} (h : o ≠ 60) : crM n s l d ov w b c o = b o := by
  funext i; unfold crM; rw [if_neg (by omega)]
theorem crM_0 (n : Nat) (s l d ov : Int) (w b : wd) : crM n s l d ov w b 0 = b := by
  funext o i; unfold crM; rw [if_neg (by omega)]
theorem crM_y {n : Nat} {s l d ov : Int} {w b : wd} {f e : Nat} {v : Int} (he : e < 3) (hv : v = crV n s l d ov w f e) : wst (crM n s l d ov w b (3 * f + e)) 60 (3 * f + e) v = crM n s l d ov w b (3 * f + (e + 1)) := by
  funext o i
  by_cases ho : o = 60
  · subst ho
    by_cases hi : i = 3 * f + e
    · subst hi
      have e1 : (3 * f + e) / 3 = f := by omega
      have e2 : (3 * f + e) % 3 = e := by omega
      have e3 : 3 * f + e < 3 * f + (e + 1) := by omega
      simp [wst, w1, crM, e1, e2, e3, hv]
    · have : i < 3 * f + e ↔ i < 3 * f + (e + 1) := by omega
      simp [wst, w1, crM, hi, this]
  · simp [wst, crM, ho]
theorem crM_n {n : Nat} {s l d ov : Int} {w b : wd} {f e : Nat} (he : e < 3) (hb : b 60 = w 60) (hc : ¬ crC n s l d w f e) : crM n s l d ov w b (3 * f + e) = crM n s l d ov w b (3 * f + (e + 1)) := by
  funext o i
  unfold crM
  by_cases ho : o = 60
  · subst ho
    by_cases hi : i = 3 * f + e
    · subst hi
      rw [if_neg (by omega), if_pos (by omega), show (3 * f + e) / 3 = f by omega, show (3 * f + e) % 3 = e by omega]
      unfold crV
      rw [if_neg hc, hb]
    · by_cases z : i < 3 * f + e
      · rw [if_pos ⟨rfl, z⟩, if_pos ⟨rfl, by omega⟩]
      · rw [if_neg (fun q => z q.2), if_neg (fun q => by have := q.2; omega)]
  · rw [if_neg (fun q => ho q.1), if_neg (fun q => ho q.1)]
theorem fmM_o {N : Nat} {s l d ov : Int} {w b : wd} {k o : Nat} (h : o < 55 ∨ 59 < o) : fmM N s l d ov w b k o = b o := by
  funext i; unfold fmM; rw [if_neg (fun q => by have := q.1; omega)]
theorem fmM_0 (N : Nat) (s l d ov : Int) (w b : wd) : fmM N s l d ov w b 0 = b := by
  funext o i; unfold fmM; rw [if_neg (fun q => absurd q.2.1 (Nat.not_lt_zero _))]
theorem fmM_ge {N : Nat} {s l d ov : Int} {w b : wd} {k o i : Nat} (h : ¬ (i < k ∧ ron s l d w i)) : fmM N s l d ov w b k o i = b o i := by
  unfold fmM; rw [if_neg (fun q => h q.2)]
theorem fmM_n {N : Nat} {s l d ov : Int} {w b : wd} {k : Nat} (h : ¬ ron s l d w k) : fmM N s l d ov w b k = fmM N s l d ov w b (k + 1) := by
  funext o i
  unfold fmM
  by_cases hi : i = k
  · subst hi
    rw [if_neg (fun q => h q.2.2), if_neg (fun q => h q.2.2)]
  · have : i < k ↔ i < k + 1 := by omega
    simp only [this]
theorem fmM_y {N : Nat} {s l d ov : Int} {w b : wd} {k : Nat} (h : ron s l d w k) : wst (wst (wst (wst (wst (fmM N s l d ov w b k) 55 k (mirX s l (w 55 k) (w 56 k))) 56 k (mirY s l (w 55 k) (w 56 k))) 57 k (mirQ s (w 57 k))) 58 k (nwL N s l d ov w k)) 59 k (ib (¬ w 59 k = 1)) = fmM N s l d ov w b (k + 1) := by
  funext o i
  by_cases ho : 55 ≤ o ∧ o ≤ 59
  · by_cases hi : i = k
    · subst hi
      rcases (by omega : o = 55 ∨ o = 56 ∨ o = 57 ∨ o = 58 ∨ o = 59) with rfl | rfl | rfl | rfl | rfl <;> simp [wst, w1, fmM, h]
    · have hm : i < k ↔ i < k + 1 := by omega
      rcases (by omega : o = 55 ∨ o = 56 ∨ o = 57 ∨ o = 58 ∨ o = 59) with rfl | rfl | rfl | rfl | rfl <;> simp [wst, w1, fmM, hi, hm]
  · have a1 : ¬ o = 55 := by omega
    have a2 : ¬ o = 56 := by omega
    have a3 : ¬ o = 57 := by omega
    have a4 : ¬ o = 58 := by omega
    have a5 : ¬ o = 59 := by omega
    simp only [wst, fmM, a1, a2, a3, a4, a5, if_false, ho, false_and]
theorem stM_o {N : Nat} {s l d ov : Int} {w b : wd} {k o : Nat} (h : o ≠ 58) : stM N s l d ov w b k o = b o := by
  funext i; unfold stM; rw [if_neg (fun q => h q.1)]
theorem stM_0 (N : Nat) (s l d ov : Int) (w b : wd) : stM N s l d ov w b 0 = b := by
  funext o i; unfold stM; rw [if_neg (fun q => absurd q.2.1 (Nat.not_lt_zero _))]
theorem stM_ge {N : Nat} {s l d ov : Int} {w b : wd} {k o i : Nat} (h : ¬ (i < k ∧ ¬ ron s l d w i)) : stM N s l d ov w b k o i = b o i := by
  unfold stM; rw [if_neg (fun q => h ⟨q.2.1, q.2.2.1⟩)]
theorem stM_n {N : Nat} {s l d ov : Int} {w b : wd} {k : Nat} (h : ¬ (¬ ron s l d w k ∧ ov = 0)) : stM N s l d ov w b k = stM N s l d ov w b (k + 1) := by
  funext o i
  unfold stM
  by_cases hi : i = k
  · subst hi
    rw [if_neg (fun q => h q.2.2), if_neg (fun q => h q.2.2)]
  · have : i < k ↔ i < k + 1 := by omega
    simp only [this]
theorem stM_y {N : Nat} {s l d ov : Int} {w b : wd} {k : Nat} (h : ¬ ron s l d w k) (h0 : ov = 0) : wst (stM N s l d ov w b k) 58 k (w 58 k + sm (cmS s l d w k) N) = stM N s l d ov w b (k + 1) := by
  funext o i
  by_cases ho : o = 58
  · subst ho
    by_cases hi : i = k
    · subst hi
      simp only [wst, w1, stM, if_true]
      rw [if_pos ⟨trivial, by omega, h, h0⟩]
    · have : i < k ↔ i < k + 1 := by omega
      simp only [wst, w1, stM, if_true, hi, if_false, this]
  · simp only [wst, stM, ho, if_false, false_and]
theorem sc3.wst {w u : wd} (h : sc3 w u) {o i : Nat} {a : Int} (ho : o ≠ 54) : sc3 (wst w o i a) (wst u o i a) := by
  refine ⟨fun p hp => ?_, fun j hj => ?_⟩
  · by_cases z : p = o
    · subst z
      show (if p = p then w1 (u p) i a else u p) = (if p = p then w1 (w p) i a else w p)
      rw [if_pos rfl, if_pos rfl, h.1 p hp]
    · show (if p = o then w1 (u o) i a else u p) = (if p = o then w1 (w o) i a else w p)
      rw [if_neg z, if_neg z, h.1 p hp]
  · show (if 54 = o then w1 (u o) i a else u 54) j = (if 54 = o then w1 (w o) i a else w 54) j
    rw [if_neg (fun z => ho z.symm), if_neg (fun z => ho z.symm)]
    exact h.2 j hj
theorem wst_ne {w : wd} {k j o : Nat} {a : Int} (h : o ≠ k) : wst w k j a o = w o := by
  show (if o = k then w1 (w k) j a else w o) = w o
  rw [if_neg h]
theorem foD_o {n q : Nat} {s l d ov : Int} {w : wd} {o : Nat} (h : o < 54 ∨ (55 ≤ o ∧ o ≤ 59) ∨ 67 < o) : foD n q s l d ov w o = w o := by
  unfold foD
  rw [wst_ne (by omega), crM_o (by omega), kepM_o (by omega), mvM_o (by omega)]
theorem foD_i {n q : Nat} {s l d ov : Int} {w : wd} {i : Nat} (h : i ≠ 8) : foD n q s l d ov w 54 i = w 54 i := by
  unfold foD
  have e : crM n s l d ov w (kepM (mvM s l d w (4 * n * n)) q (4 * n * n) (3 * (4 * n * n))) (3 * (4 * n * n)) 54 = w 54 := by rw [crM_o (by omega), kepM_o (by omega), mvM_o (by omega)]
  show (if 54 = 54 then w1 (crM n s l d ov w (kepM (mvM s l d w (4 * n * n)) q (4 * n * n) (3 * (4 * n * n))) (3 * (4 * n * n)) 54) 8 _ else _) i = _
  rw [if_pos rfl, e]
  simp [w1, h]
theorem foD_67 {n q : Nat} {s l d ov : Int} {w : wd} {i : Nat} (h : i < 4 * n * n) : foD n q s l d ov w 67 i = ib (ron s l d w i) := by
  unfold foD
  rw [wst_ne (by omega), crM_o (by omega), kepM_o (by omega), mvM_at h]
theorem kepM_at {w : wd} {q a c o i : Nat} (ho : 61 ≤ o ∧ o ≤ 65) (h : i < a) : kepM w q a c o (144 * q + i) = w (o - 6) i := by
  unfold kepM
  rw [if_pos ⟨ho, by omega, by omega⟩, show 144 * q + i - 144 * q = i by omega]
theorem foD_was {n q : Nat} {s l d ov : Int} {w : wd} {o i : Nat} (ho : 61 ≤ o ∧ o ≤ 65) (h : i < 4 * n * n) : foD n q s l d ov w o (144 * q + i) = w (o - 6) i := by
  unfold foD
  rw [wst_ne (by omega), crM_o (by omega), kepM_at ho h, mvM_o (by omega)]
theorem cadd (a b : Nat) : (a : Int) + (b : Int) = ((a + b : Nat) : Int) := (Int.natCast_add a b).symm
theorem c144z (q : Nat) : (144 : Int) * (q : Int) = ((144 * q : Nat) : Int) := by omega
theorem fmM_v {N : Nat} {s l d ov : Int} {w b : wd} {i : Nat} (h : i < N) (hr : ron s l d w i) : fmM N s l d ov w b N 55 i = mirX s l (w 55 i) (w 56 i) ∧ fmM N s l d ov w b N 56 i = mirY s l (w 55 i) (w 56 i) ∧ fmM N s l d ov w b N 57 i = mirQ s (w 57 i) := by
  refine ⟨?_, ?_, ?_⟩ <;> (unfold fmM; rw [if_pos ⟨by decide, h, hr⟩]) <;> rfl
theorem mXY {sort l x y : Int} (hl : -24 ≤ l ∧ l ≤ 48) (hx : -300 ≤ x ∧ x ≤ 300) (hy : -300 ≤ y ∧ y ≤ 300) : (-900 ≤ mirX sort l x y ∧ mirX sort l x y ≤ 900) ∧ (-900 ≤ mirY sort l x y ∧ mirY sort l x y ≤ 900) := by
  unfold mirX mirY
  constructor <;> (repeat' split) <;> omega
set_option maxHeartbeats 4000000 in
set_option maxRecDepth 20000 in
theorem sp_X10_fold {n : Nat} {w : wd} (hm : MI n w) {sort l : Int} (hsr : rg sort) (hlr : rg l) {side : Int} (hdr : rg side) {ov : Int} (ho0 : ov = 0 ∨ ov = 1) (hA : ∀ q : Nat, q < 8 → w 54 8 = (q : Int) → isLine sort l → isSide side → w 54 17 = 0 → (0 < sm (fun k => ib (ron sort l side w k)) (4 * n * n) ∧ sm (fun k => ib (ron sort l side w k)) (4 * n * n) < ((4 * n * n : Nat) : Int)) → ∀ k, k < 4 * n * n → PlM (folM n q sort l side ov w) k) : CalI yX10_fold cX10_fold 12 .int 3 LAY w [vR 54, vI sort, vI l, vI side, vI ov] (fun a w' => if isLine sort l ∧ isSide side then (if w 54 17 = 0 ∧ (0 < sm (fun k => ib (ron sort l side w k)) (4 * n * n) ∧ sm (fun k => ib (ron sort l side w k)) (4 * n * n) < ((4 * n * n : Nat) : Int)) then (if w 54 8 < 8 then sc3 (folM n (w 54 8).toNat sort l side ov w) w' ∧ a = sm (fun k => ib (w' 58 k = 0)) (4 * n * n) else a = -4 ∧ ∀ o, o ≠ 67 → w' o = w o) else a = -3 ∧ ∀ o, o ≠ 67 → w' o = w o) else a = -2 ∧ w' = w) := by
  obtain ⟨hn, ht0, hp, hcr, hfe, hfi, hic, hfo, hkn⟩ := id hm
  have hN := nn_le hn.1.2
  have hn1 := hn.2
  have hn6 := hn.1
  obtain ⟨q, hfo8, hfo1⟩ := hfo
  have hor : 0 ≤ ov ∧ ov ≤ 1 := by omega
  have hicr : 0 ≤ w 54 17 ∧ w 54 17 ≤ 1 := by omega
  clear ho0 hic hcr hfe hfi
  refine calI_intro (ls := [some (vR 54), some (vI sort), some (vI l), some (vI side), some (vI ov), none, none, none, none, none, none, none]) (by decide) (Nat.le_of_ble_eq_true rfl) rfl (fun κ ad X hR => ?_)
  refine j_aload_n X dX10_fold_0 rfl ?_
  refine j_iconst X dX10_fold_1 ?_
  refine j_putI X dX10_fold_2 fp_X10_94 rfl rfl ?_
  rw [thr0 ht0]
  refine j_iload_n X dX10_fold_5 rfl ?_
  refine j_iload_n X dX10_fold_6 rfl ?_
  refine cS2i X mf_X10_noLine ms_X10_noLine ml_X10_138 (by decide) (Nat.le_of_ble_eq_true rfl) dX10_fold_7 (sp_X10_noLine hsr hlr) (fun a_7 w_7 h_7 => ?_)
  obtain ⟨_, _⟩ := h_7
  subst a_7
  subst w_7
  refine jb_ne (tgt := 23) X dX10_fold_10 (by decide) (fun h_10 => ?_) (fun h_10 => ?_)
  · refine j_bipush X dX10_fold_23 (by decide +kernel) ?_
    exact j_ireturn X hR dX10_fold_25 (by rw [if_neg (fun z => h_10 z.1)]; exact ⟨rfl, rfl⟩)
  · have hln : isLine sort l := Decidable.not_not.mp h_10
    refine j_iload_n X dX10_fold_13 rfl ?_
    refine j_i2l X dX10_fold_14 ⟨by omega, by omega⟩ ?_
    refine j_lconst X dX10_fold_15 ?_
    refine j_lconst X dX10_fold_16 ?_
    refine cS3i X mf_X10_in ms_X10_in ml_X10_101 (by decide) (Nat.le_of_ble_eq_true rfl) dX10_fold_17 (sp_X10_in ⟨by omega, by omega⟩ ⟨by omega, by omega⟩ ⟨by omega, by omega⟩) (fun a_17 w_17 h_17 => ?_)
    obtain ⟨_, _⟩ := h_17
    subst a_17
    subst w_17
    refine jb_ne (tgt := 26) X dX10_fold_20 (by decide) (fun h_20 => ?_) (fun h_20 => ?_)
    · have hsd : Hid (isSide side) := by show isSide side; simp only [isSide]; omega
      refine j_iconst X dX10_fold_26 ?_
      refine s_5 X dX10_fold_27 rfl ?_
      refine j_iconst X dX10_fold_29 ?_
      refine s_6 X dX10_fold_30 rfl ?_
      have L_32 : ∀ (m : Nat) (k : Nat) (c : Int) (_ : c = sm (fun k => ib (ron sort l side w k)) k) (_ : k ≤ 4 * n * n) (_ : 4 * n * n - k < m), J κ LAY ad 0 0 32 [some (vR 54), some (vI sort), some (vI l), some (vI side), some (vI ov), some (vI c), some (vI (k : Int)), none, none, none, none, none] [] (mvM sort l side w k) := by
        intro m
        induction m with
        | zero => intros; exact absurd ‹_ < 0› (Nat.not_lt_zero _)
        | succ m ih32 =>
          intro k c hc h1 h2
          have hcb := sm_b (f := fun k => ib (ron sort l side w k)) (fun _ => ib_01) k
          have hbn : nOk n (mvM sort l side w k) := ⟨hn.1, (congrFun (mvM_o (by decide)) 1).trans hn.2⟩
          refine j_iload X dX10_fold_32 rfl ?_
          refine j_aload_n X dX10_fold_34 rfl ?_
          refine cV0i X mf_X10_facets mv_X10_facets ml_X10_97 (by decide) rfl rfl (Nat.le_of_ble_eq_true rfl) dX10_fold_35 (sp_X10_facets hbn) (fun a_35 w_35 h_35 => ?_)
          obtain ⟨_, _⟩ := h_35
          subst a_35
          subst w_35
          refine j_icmp_ge (tgt := 109) X dX10_fold_38 (by decide) ⟨by omega, by omega⟩ ⟨by omega, by omega⟩ (fun h_38 => ?_) (fun h_38 => ?_)
          · obtain rfl : k = 4 * n * n := by omega
            have hwi : ∀ i, (mvM sort l side w (4 * n * n)) 54 i = w 54 i := fun i => congrFun (mvM_o (by decide)) i
            have hw54 := hwi 17
            have hw54b := hwi 8
            have hbp : ∀ k, k < 4 * n * n → PlM (mvM sort l side w (4 * n * n)) k := fun k hk => by unfold PlM; rw [mvM_o (by decide), mvM_o (by decide), mvM_o (by decide), mvM_o (by decide), mvM_o (by decide)]; exact hp k hk
            refine j_aload_n X dX10_fold_109 rfl ?_
            refine j_getI X dX10_fold_110 ff_X10_114 rfl rfl ?_
            refine j_if_ne (tgt := 130) X dX10_fold_113 (by decide) ⟨by omega, by omega⟩ (fun h_113 => ?_) (fun h_113 => ?_)
            · refine j_bipush X dX10_fold_130 (by decide +kernel) ?_
              exact j_ireturn X hR dX10_fold_132 (by rw [if_pos ⟨hln, hsd⟩, if_neg (by omega)]; exact ⟨rfl, fun o ho => mvM_o ho⟩)
            · refine j_iload X dX10_fold_116 rfl ?_
              refine j_if_eq (tgt := 130) X dX10_fold_118 (by decide) ⟨by omega, by omega⟩ (fun h_118 => ?_) (fun h_118 => ?_)
              · refine j_bipush X dX10_fold_130 (by decide +kernel) ?_
                exact j_ireturn X hR dX10_fold_132 (by rw [if_pos ⟨hln, hsd⟩, if_neg (by omega)]; exact ⟨rfl, fun o ho => mvM_o ho⟩)
              · refine j_iload X dX10_fold_121 rfl ?_
                refine j_aload_n X dX10_fold_123 rfl ?_
                refine cV0i X mf_X10_facets mv_X10_facets ml_X10_97 (by decide) rfl rfl (Nat.le_of_ble_eq_true rfl) dX10_fold_124 (sp_X10_facets (n := n) ⟨hn.1, (hwi 1).trans hn1⟩) (fun a_124 w_124 h_124 => ?_)
                obtain ⟨_, _⟩ := h_124
                subst a_124
                subst w_124
                refine j_icmp_ne (tgt := 133) X dX10_fold_127 (by decide) ⟨by omega, by omega⟩ ⟨by omega, by omega⟩ (fun h_127 => ?_) (fun h_127 => ?_)
                · refine j_aload_n X dX10_fold_133 rfl ?_
                  refine j_getI X dX10_fold_134 ff_X10_111 rfl rfl ?_
                  refine j_bipush X dX10_fold_137 (by decide +kernel) ?_
                  refine j_icmp_ne (tgt := 145) X dX10_fold_139 (by decide) ⟨by omega, by omega⟩ ⟨by omega, by omega⟩ (fun h_139 => ?_) (fun h_139 => ?_)
                  · have hfin := hA q (by omega) hfo1 hln hsd (by omega) (by omega)
                    have hsn : 0 ≤ sort ∧ sort ≤ 3 := hln.1
                    refine j_aload_n X dX10_fold_145 rfl ?_
                    refine cV0v X mf_X10_keep mv_X10_keep ml_X10_146 (by decide) rfl rfl (Nat.le_of_ble_eq_true rfl) dX10_fold_146 (sp_X10_keep (n := n) (q := q) ⟨hn.1, (hwi 1).trans hn1⟩ hbp ((hwi 8).trans hfo1) (by omega)) (fun w_146 h_146 => ?_)
                    change _ = _ at h_146
                    subst w_146
                    have hK54 : (kepM (mvM sort l side w (4 * n * n)) q (4 * n * n) (3 * (4 * n * n))) 54 = w 54 := (kepM_o (by decide)).trans (mvM_o (by decide))
                    have hK60 : (kepM (mvM sort l side w (4 * n * n)) q (4 * n * n) (3 * (4 * n * n))) 60 = w 60 := (kepM_o (by decide)).trans (mvM_o (by decide))
                    have hK59 : (kepM (mvM sort l side w (4 * n * n)) q (4 * n * n) (3 * (4 * n * n))) 59 = w 59 := (kepM_o (by decide)).trans (mvM_o (by decide))
                    have hK67 : (kepM (mvM sort l side w (4 * n * n)) q (4 * n * n) (3 * (4 * n * n))) 67 = mvM sort l side w (4 * n * n) 67 := kepM_o (by decide)
                    refine j_iconst X dX10_fold_149 ?_
                    refine s_6 X dX10_fold_150 rfl ?_
                    have L_152 : ∀ (m : Nat) (f : Nat) (_ : f ≤ 4 * n * n) (_ : 4 * n * n - f < m), J κ LAY ad 0 0 152 [some (vR 54), some (vI sort), some (vI l), some (vI side), some (vI ov), some (vI c), some (vI (f : Int)), none, none, none, none, none] [] (crM n sort l side ov w (kepM (mvM sort l side w (4 * n * n)) q (4 * n * n) (3 * (4 * n * n))) (3 * f)) := by
                      intro m
                      induction m with
                      | zero => intros; exact absurd ‹_ < 0› (Nat.not_lt_zero _)
                      | succ m ih152 =>
                        intro f h3 h4
                        have hbn2 : nOk n (crM n sort l side ov w (kepM (mvM sort l side w (4 * n * n)) q (4 * n * n) (3 * (4 * n * n))) (3 * f)) := ⟨hn.1, (congrFun ((crM_o (by decide)).trans hK54) 1).trans hn.2⟩
                        refine j_iload X dX10_fold_152 rfl ?_
                        refine j_aload_n X dX10_fold_154 rfl ?_
                        refine cV0i X mf_X10_facets mv_X10_facets ml_X10_97 (by decide) rfl rfl (Nat.le_of_ble_eq_true rfl) dX10_fold_155 (sp_X10_facets hbn2) (fun a_155 w_155 h_155 => ?_)
                        obtain ⟨_, _⟩ := h_155
                        subst a_155
                        subst w_155
                        refine j_icmp_ge (tgt := 245) X dX10_fold_158 (by decide) ⟨by omega, by omega⟩ ⟨by omega, by omega⟩ (fun h_158 => ?_) (fun h_158 => ?_)
                        · obtain rfl : f = 4 * n * n := by omega
                          have hC8 : (crM n sort l side ov w (kepM (mvM sort l side w (4 * n * n)) q (4 * n * n) (3 * (4 * n * n))) (3 * (4 * n * n))) 54 8 = (q : Int) := (congrFun ((crM_o (by decide)).trans hK54) 8).trans hfo1
                          refine j_sipush X dX10_fold_245 (by decide +kernel) ?_
                          refine j_aload_n X dX10_fold_248 rfl ?_
                          refine j_getI X dX10_fold_249 ff_X10_111 rfl rfl ?_
                          refine j_imul X dX10_fold_252 ?_
                          rw [hC8, c144z]
                          refine s_6 X dX10_fold_253 rfl ?_
                          refine j_aload_n X dX10_fold_255 rfl ?_
                          refine j_dup X dX10_fold_256 (fun _ h => by cases h) ?_
                          refine j_getI X dX10_fold_257 ff_X10_111 rfl rfl ?_
                          refine j_iconst X dX10_fold_260 ?_
                          refine j_iadd X dX10_fold_261 ?_
                          rw [hC8]
                          refine j_putI X dX10_fold_262 fp_X10_111 rfl rfl ?_
                          change J _ _ _ _ _ _ _ _ (foD n q sort l side ov w)
                          refine j_iconst X dX10_fold_265 ?_
                          refine s_7 X dX10_fold_266 rfl ?_
                          have L_268 : ∀ (m : Nat) (f : Nat) (u : wd) (_ : sc3 (fmM (4 * n * n) sort l side ov w (foD n q sort l side ov w) f) u) (_ : f ≤ 4 * n * n) (_ : 4 * n * n - f < m), J κ LAY ad 0 0 268 [some (vR 54), some (vI sort), some (vI l), some (vI side), some (vI ov), some (vI c), some (vI ((144 * q : Nat) : Int)), some (vI (f : Int)), none, none, none, none] [] u := by
                            intro m
                            induction m with
                            | zero => intros; exact absurd ‹_ < 0› (Nat.not_lt_zero _)
                            | succ m ih268 =>
                              intro f u hu h3 h4
                              have hun : nOk n u := ⟨hn.1, (hu.2 1 (by decide)).trans ((congrFun (fmM_o (by decide)) 1).trans ((foD_i (by decide)).trans hn1))⟩
                              have hu67 : ∀ i, i < 4 * n * n → u 67 i = ib (ron sort l side w i) := fun i hi => by rw [hu.1 67 (by decide), fmM_o (by decide), foD_67 hi]
                              have huw61 : ∀ i, i < 4 * n * n → u 61 (144 * q + i) = w 55 i := fun i hi => by rw [hu.1 61 (by omega), fmM_o (by omega), foD_was (by omega) hi]
                              have huw62 : ∀ i, i < 4 * n * n → u 62 (144 * q + i) = w 56 i := fun i hi => by rw [hu.1 62 (by omega), fmM_o (by omega), foD_was (by omega) hi]
                              have huw63 : ∀ i, i < 4 * n * n → u 63 (144 * q + i) = w 57 i := fun i hi => by rw [hu.1 63 (by omega), fmM_o (by omega), foD_was (by omega) hi]
                              have huw64 : ∀ i, i < 4 * n * n → u 64 (144 * q + i) = w 58 i := fun i hi => by rw [hu.1 64 (by omega), fmM_o (by omega), foD_was (by omega) hi]
                              have hus : ∀ o i, (55 ≤ o ∧ o ≤ 59) → ¬ (i < f ∧ ron sort l side w i) → u o i = w o i := fun o i ho hi => by rw [hu.1 o (by omega), fmM_ge hi, foD_o (by omega)]
                              refine j_iload X dX10_fold_268 rfl ?_
                              refine j_aload_n X dX10_fold_270 rfl ?_
                              refine cV0i X mf_X10_facets mv_X10_facets ml_X10_97 (by decide) rfl rfl (Nat.le_of_ble_eq_true rfl) dX10_fold_271 (sp_X10_facets hun) (fun a_271 w_271 h_271 => ?_)
                              obtain ⟨_, _⟩ := h_271
                              subst a_271
                              subst w_271
                              refine j_icmp_ge (tgt := 583) X dX10_fold_274 (by decide) ⟨by omega, by omega⟩ ⟨by omega, by omega⟩ (fun h_274 => ?_) (fun h_274 => ?_)
                              · obtain rfl : f = 4 * n * n := by omega
                                refine j_iconst X dX10_fold_583 ?_
                                refine s_7 X dX10_fold_584 rfl ?_
                                have L_586 : ∀ (m : Nat) (f : Nat) (u : wd) (_ : sc3 (stM (4 * n * n) sort l side ov w (fmM (4 * n * n) sort l side ov w (foD n q sort l side ov w) (4 * n * n)) f) u) (_ : f ≤ 4 * n * n) (_ : 4 * n * n - f < m), J κ LAY ad 0 0 586 [some (vR 54), some (vI sort), some (vI l), some (vI side), some (vI ov), some (vI c), some (vI ((144 * q : Nat) : Int)), some (vI (f : Int)), none, none, none, none] [] u := by
                                  intro m
                                  induction m with
                                  | zero => intros; exact absurd ‹_ < 0› (Nat.not_lt_zero _)
                                  | succ m ih586 =>
                                    intro f u hu h3 h4
                                    have hun : nOk n u := ⟨hn.1, (hu.2 1 (by decide)).trans ((congrFun (stM_o (by decide)) 1).trans ((congrFun (fmM_o (by decide)) 1).trans ((foD_i (by decide)).trans hn1)))⟩
                                    have hu67 : ∀ i, i < 4 * n * n → u 67 i = ib (ron sort l side w i) := fun i hi => by rw [hu.1 67 (by decide), stM_o (by decide), fmM_o (by decide), foD_67 hi]
                                    have hue : ∀ o i, (55 ≤ o ∧ o ≤ 59) → ron sort l side w i → u o i = (fmM (4 * n * n) sort l side ov w (foD n q sort l side ov w) (4 * n * n)) o i := fun o i ho hi => by rw [hu.1 o (by omega), stM_ge (fun z => z.2 hi)]
                                    have hus : ∀ o i, (55 ≤ o ∧ o ≤ 59) → f ≤ i → ¬ ron sort l side w i → u o i = w o i := fun o i ho hi hr => by rw [hu.1 o (by omega), stM_ge (fun z => by have := z.1; omega), fmM_ge (fun z => hr z.2), foD_o (by omega)]
                                    have huo : ∀ o i, (55 ≤ o ∧ o ≤ 57) → ¬ ron sort l side w i → u o i = w o i := fun o i ho hr => by rw [hu.1 o (by omega), stM_o (by omega), fmM_ge (fun z => hr z.2), foD_o (by omega)]
                                    refine j_iload X dX10_fold_586 rfl ?_
                                    refine j_aload_n X dX10_fold_588 rfl ?_
                                    refine cV0i X mf_X10_facets mv_X10_facets ml_X10_97 (by decide) rfl rfl (Nat.le_of_ble_eq_true rfl) dX10_fold_589 (sp_X10_facets hun) (fun a_589 w_589 h_589 => ?_)
                                    obtain ⟨_, _⟩ := h_589
                                    subst a_589
                                    subst w_589
                                    refine j_icmp_ge (tgt := 699) X dX10_fold_592 (by decide) ⟨by omega, by omega⟩ ⟨by omega, by omega⟩ (fun h_592 => ?_) (fun h_592 => ?_)
                                    · obtain rfl : f = 4 * n * n := by omega
                                      have hfu : ∀ o, o ≠ 54 → u o = folM n q sort l side ov w o := fun o ho => hu.1 o ho
                                      have hup : ∀ k, k < 4 * n * n → PlM u k := fun k hk => by unfold PlM; rw [hfu 55 (by decide), hfu 56 (by decide), hfu 57 (by decide), hfu 58 (by decide), hfu 59 (by decide)]; exact hfin k hk
                                      refine j_aload_n X dX10_fold_699 rfl ?_
                                      refine cV0i X mf_X10_placesOf mv_X10_placesOf ml_X10_157 (by decide) rfl rfl (Nat.le_of_ble_eq_true rfl) dX10_fold_700 (sp_X10_placesOf (n := n) ⟨hn.1, hun.2⟩ hup) (fun a_700 w_700 h_700 => ?_)
                                      obtain ⟨_, _⟩ := h_700
                                      subst a_700
                                      subst w_700
                                      exact j_ireturn X hR dX10_fold_703 (by rw [if_pos ⟨hln, hsd⟩, if_pos (by omega), if_pos (by omega), show (w 54 8).toNat = q by rw [hfo1]; rfl]; exact ⟨hu, rfl⟩)
                                    · refine j_aload_n X dX10_fold_595 rfl ?_
                                      refine j_getR X dX10_fold_596 ff_X10_51 rfl rfl ?_
                                      refine j_iload X dX10_fold_599 rfl ?_
                                      refine j_zaldk X dX10_fold_601 rfl (by omega) (by decide) ?_
                                      rw [hu67 f (by omega)]
                                      refine jb_ne (tgt := 693) X dX10_fold_602 (by decide) (fun h_602 => ?_) (fun h_602 => ?_)
                                      · refine inc_7 X dX10_fold_693 rfl ?_
                                        refine j_goto (tgt := 586) X dX10_fold_696 (by decide) ?_
                                        exact ih586 (f + 1) u (by rw [← stM_n (fun z => z.1 h_602)]; exact hu) (by omega) (by omega)
                                      · have hf : f < 4 * n * n := by omega
                                        have hfr : Hid (¬ ron sort l side w f) := h_602
                                        clear h_602
                                        obtain ⟨p1, p2, p3, -, -⟩ := hp f hf
                                        refine j_iload X dX10_fold_605 rfl ?_
                                        refine j_if_ne (tgt := 693) X dX10_fold_607 (by decide) ⟨by omega, by omega⟩ (fun h_607 => ?_) (fun h_607 => ?_)
                                        · refine inc_7 X dX10_fold_693 rfl ?_
                                          refine j_goto (tgt := 586) X dX10_fold_696 (by decide) ?_
                                          exact ih586 (f + 1) u (by rw [← stM_n (fun z => h_607 z.2)]; exact hu) (by omega) (by omega)
                                        · refine j_iconst X dX10_fold_610 ?_
                                          refine s_8 X dX10_fold_611 rfl ?_
                                          refine j_iconst X dX10_fold_613 ?_
                                          refine s_9 X dX10_fold_614 rfl ?_
                                          have L_616 : ∀ (m : Nat) (g : Nat) (o : Int) (_ : o = sm (cmS sort l side w f) g) (_ : g ≤ 4 * n * n) (_ : 4 * n * n - g < m), J κ LAY ad 0 0 616 [some (vR 54), some (vI sort), some (vI l), some (vI side), some (vI ov), some (vI c), some (vI ((144 * q : Nat) : Int)), some (vI (f : Int)), some (vI o), some (vI (g : Int)), none, none] [] u := by
                                            intro m
                                            induction m with
                                            | zero => intros; exact absurd ‹_ < 0› (Nat.not_lt_zero _)
                                            | succ m ih616 =>
                                              intro g o ho h5 h6
                                              refine j_iload X dX10_fold_616 rfl ?_
                                              refine j_aload_n X dX10_fold_618 rfl ?_
                                              refine cV0i X mf_X10_facets mv_X10_facets ml_X10_97 (by decide) rfl rfl (Nat.le_of_ble_eq_true rfl) dX10_fold_619 (sp_X10_facets hun) (fun a_619 w_619 h_619 => ?_)
                                              obtain ⟨_, _⟩ := h_619
                                              subst a_619
                                              subst w_619
                                              refine j_icmp_ge (tgt := 681) X dX10_fold_622 (by decide) ⟨by omega, by omega⟩ ⟨by omega, by omega⟩ (fun h_622 => ?_) (fun h_622 => ?_)
                                              · refine j_aload_n X dX10_fold_681 rfl ?_
                                                refine j_getR X dX10_fold_682 ff_X10_23 rfl rfl ?_
                                                refine j_iload X dX10_fold_685 rfl ?_
                                                refine j_dup2 X dX10_fold_687 (fun _ h => by cases h) (fun _ h => by cases h) ?_
                                                refine j_ialdk X dX10_fold_688 rfl (by omega) (by decide) ?_
                                                rw [hus 58 f (by decide) (Nat.le_refl f) hfr]
                                                refine j_iload X dX10_fold_689 rfl ?_
                                                refine j_iadd X dX10_fold_691 ?_
                                                rw [ho, show g = 4 * n * n by omega]
                                                refine j_iastk X dX10_fold_692 rfl (by omega) (by decide) ?_
                                                refine inc_7 X dX10_fold_693 rfl ?_
                                                refine j_goto (tgt := 586) X dX10_fold_696 (by decide) ?_
                                                refine fg_8 ?_
                                                refine fg_9 ?_
                                                exact ih586 (f + 1) _ (by rw [← stM_y hfr (by omega)]; exact hu.wst (by decide)) (by omega) (by omega)
                                              · have hg : g < 4 * n * n := by omega
                                                refine j_iload X dX10_fold_625 rfl ?_
                                                refine j_aload_n X dX10_fold_627 rfl ?_
                                                refine j_getR X dX10_fold_628 ff_X10_51 rfl rfl ?_
                                                refine j_iload X dX10_fold_631 rfl ?_
                                                refine j_zaldk X dX10_fold_633 rfl (by omega) (by decide) ?_
                                                rw [hu67 g hg]
                                                refine jb_eq (tgt := 671) X dX10_fold_634 (by decide) (fun h_634 => ?_) (fun h_634 => ?_)
                                                · refine j_iconst X dX10_fold_671 ?_
                                                  refine j_iadd X dX10_fold_672 ?_
                                                  refine s_8 X dX10_fold_673 rfl ?_
                                                  refine inc_9 X dX10_fold_675 rfl ?_
                                                  refine j_goto (tgt := 616) X dX10_fold_678 (by decide) ?_
                                                  exact ih616 (g + 1) _ (ac0_f ho (ib_f (fun z => h_634 z.1))) (by omega) (by omega)
                                                · have hgr : Hid (ron sort l side w g) := h_634
                                                  clear h_634
                                                  have hup : PlM u g := by
                                                    have h9 := hfin g hg
                                                    unfold PlM at h9 ⊢
                                                    simp only [folM, stM_ge (show ¬ (g < 4 * n * n ∧ ¬ ron sort l side w g) from fun z => z.2 hgr)] at h9
                                                    rw [hue 55 g (by decide) hgr, hue 56 g (by decide) hgr, hue 57 g (by decide) hgr, hue 58 g (by decide) hgr, hue 59 g (by decide) hgr]
                                                    exact h9
                                                  have hg5 : u 55 g = mirX sort l (w 55 g) (w 56 g) := (hue 55 g (by decide) hgr).trans (fmM_v hg hgr).1
                                                  have hg6 : u 56 g = mirY sort l (w 55 g) (w 56 g) := (hue 56 g (by decide) hgr).trans (fmM_v hg hgr).2.1
                                                  have hg7 : u 57 g = mirQ sort (w 57 g) := (hue 57 g (by decide) hgr).trans (fmM_v hg hgr).2.2
                                                  refine j_aload_n X dX10_fold_637 rfl ?_
                                                  refine j_iload X dX10_fold_638 rfl ?_
                                                  refine j_aload_n X dX10_fold_640 rfl ?_
                                                  refine j_getR X dX10_fold_641 ff_X10_13 rfl rfl ?_
                                                  refine j_iload X dX10_fold_644 rfl ?_
                                                  refine j_ialdk X dX10_fold_646 rfl (by omega) (by decide) ?_
                                                  rw [huo 55 f (by decide) hfr]
                                                  refine j_aload_n X dX10_fold_647 rfl ?_
                                                  refine j_getR X dX10_fold_648 ff_X10_17 rfl rfl ?_
                                                  refine j_iload X dX10_fold_651 rfl ?_
                                                  refine j_ialdk X dX10_fold_653 rfl (by omega) (by decide) ?_
                                                  rw [huo 56 f (by decide) hfr]
                                                  refine j_aload_n X dX10_fold_654 rfl ?_
                                                  refine j_getR X dX10_fold_655 ff_X10_20 rfl rfl ?_
                                                  refine j_iload X dX10_fold_658 rfl ?_
                                                  refine j_ialdk X dX10_fold_660 rfl (by omega) (by decide) ?_
                                                  rw [huo 57 f (by decide) hfr]
                                                  refine cV4i X mf_X10_isThere mv_X10_isThere ml_X10_131 (by decide) rfl rfl (Nat.le_of_ble_eq_true rfl) dX10_fold_661 (sp_X10_isThere (by omega) hup ⟨by omega, by omega⟩ ⟨by omega, by omega⟩ ⟨by omega, by omega⟩) (fun a_661 w_661 h_661 => ?_)
                                                  obtain ⟨_, _⟩ := h_661
                                                  subst a_661
                                                  subst w_661
                                                  refine jb_eq (tgt := 671) X dX10_fold_664 (by decide) (fun h_664 => ?_) (fun h_664 => ?_)
                                                  · refine j_iconst X dX10_fold_671 ?_
                                                    refine j_iadd X dX10_fold_672 ?_
                                                    refine s_8 X dX10_fold_673 rfl ?_
                                                    refine inc_9 X dX10_fold_675 rfl ?_
                                                    refine j_goto (tgt := 616) X dX10_fold_678 (by decide) ?_
                                                    exact ih616 (g + 1) _ (ac0_f ho (ib_f (fun z => h_664 (by rw [hg5, hg6, hg7]; exact z.2)))) (by omega) (by omega)
                                                  · refine j_iconst X dX10_fold_667 ?_
                                                    refine j_goto (tgt := 672) X dX10_fold_668 (by decide) ?_
                                                    refine j_iadd X dX10_fold_672 ?_
                                                    refine s_8 X dX10_fold_673 rfl ?_
                                                    refine inc_9 X dX10_fold_675 rfl ?_
                                                    refine j_goto (tgt := 616) X dX10_fold_678 (by decide) ?_
                                                    exact ih616 (g + 1) _ (ac0_t ho (ib_t ⟨hgr, by rw [hg5, hg6, hg7] at h_664; exact h_664⟩)) (by omega) (by omega)
                                          exact L_616 (4 * n * n + 1) 0 0 rfl (by omega) (by omega)
                                refine L_586 (4 * n * n + 1) 0 u ?_ (by omega) (by omega)
                                rw [stM_0]
                                exact hu
                              · refine j_aload_n X dX10_fold_277 rfl ?_
                                refine j_getR X dX10_fold_278 ff_X10_51 rfl rfl ?_
                                refine j_iload X dX10_fold_281 rfl ?_
                                refine j_zaldk X dX10_fold_283 rfl (by omega) (by decide) ?_
                                rw [hu67 f (by omega)]
                                refine jb_eq (tgt := 577) X dX10_fold_284 (by decide) (fun h_284 => ?_) (fun h_284 => ?_)
                                · refine inc_7 X dX10_fold_577 rfl ?_
                                  refine j_goto (tgt := 268) X dX10_fold_580 (by decide) ?_
                                  exact ih268 (f + 1) u (by rw [← fmM_n h_284]; exact hu) (by omega) (by omega)
                                · have hr284 : Hid (ron sort l side w f) := h_284
                                  clear h_284
                                  have hf : f < 4 * n * n := by omega
                                  obtain ⟨p1, p2, p3, -, -⟩ := hp f hf
                                  have hfnf : ¬ (f < f ∧ ron sort l side w f) := fun z => absurd z.1 (Nat.lt_irrefl f)
                                  refine j_iconst X dX10_fold_287 ?_
                                  refine s_8 X dX10_fold_288 rfl ?_
                                  refine j_iconst X dX10_fold_290 ?_
                                  refine s_9 X dX10_fold_291 rfl ?_
                                  have L_293 : ∀ (m : Nat) (g : Nat) (o : Int) (_ : o = sm (owS (4 * n * n) w f) g) (_ : g ≤ 4 * n * n) (_ : 4 * n * n - g < m), J κ LAY ad 0 0 293 [some (vR 54), some (vI sort), some (vI l), some (vI side), some (vI ov), some (vI c), some (vI ((144 * q : Nat) : Int)), some (vI (f : Int)), some (vI o), some (vI (g : Int)), none, none] [] u := by
                                    intro m
                                    induction m with
                                    | zero => intros; exact absurd ‹_ < 0› (Nat.not_lt_zero _)
                                    | succ m ih293 =>
                                      intro g o ho h5 h6
                                      refine j_iload X dX10_fold_293 rfl ?_
                                      refine j_aload_n X dX10_fold_295 rfl ?_
                                      refine cV0i X mf_X10_facets mv_X10_facets ml_X10_97 (by decide) rfl rfl (Nat.le_of_ble_eq_true rfl) dX10_fold_296 (sp_X10_facets hun) (fun a_296 w_296 h_296 => ?_)
                                      obtain ⟨_, _⟩ := h_296
                                      subst a_296
                                      subst w_296
                                      refine j_icmp_ge (tgt := 387) X dX10_fold_299 (by decide) ⟨by omega, by omega⟩ ⟨by omega, by omega⟩ (fun h_299 => ?_) (fun h_299 => ?_)
                                      · obtain rfl : g = 4 * n * n := by omega
                                        refine j_aload_n X dX10_fold_387 rfl ?_
                                        refine j_iload_n X dX10_fold_388 rfl ?_
                                        refine j_iload_n X dX10_fold_389 rfl ?_
                                        refine j_aload_n X dX10_fold_390 rfl ?_
                                        refine j_getR X dX10_fold_391 ff_X10_13 rfl rfl ?_
                                        refine j_iload X dX10_fold_394 rfl ?_
                                        refine j_ialdk X dX10_fold_396 rfl (by omega) (by decide) ?_
                                        rw [hus 55 f (by decide) hfnf]
                                        refine j_aload_n X dX10_fold_397 rfl ?_
                                        refine j_getR X dX10_fold_398 ff_X10_17 rfl rfl ?_
                                        refine j_iload X dX10_fold_401 rfl ?_
                                        refine j_ialdk X dX10_fold_403 rfl (by omega) (by decide) ?_
                                        rw [hus 56 f (by decide) hfnf]
                                        refine j_aload_n X dX10_fold_404 rfl ?_
                                        refine j_getR X dX10_fold_405 ff_X10_20 rfl rfl ?_
                                        refine j_iload X dX10_fold_408 rfl ?_
                                        refine j_ialdk X dX10_fold_410 rfl (by omega) (by decide) ?_
                                        rw [hus 57 f (by decide) hfnf]
                                        refine cV5v X mf_X10_turn mv_X10_turn ml_X10_153 (by decide) rfl rfl (Nat.le_of_ble_eq_true rfl) dX10_fold_411 (sp_X10_turn hsn ⟨by omega, by omega⟩) (fun w_411 h_411 => ?_)
                                        change _ = _ at h_411
                                        subst w_411
                                        have hvn : nOk n (trnM u sort l (w 55 f) (w 56 f) (w 57 f)) := ⟨hn.1, (trnM_i (by decide)).trans hun.2⟩
                                        have hvo : ∀ o, o ≠ 54 → (trnM u sort l (w 55 f) (w 56 f) (w 57 f)) o = u o := fun o ho => trnM_o ho
                                        refine j_iconst X dX10_fold_414 ?_
                                        refine s_9 X dX10_fold_415 rfl ?_
                                        refine j_iconst X dX10_fold_417 ?_
                                        refine s_10 X dX10_fold_418 rfl ?_
                                        have L_420 : ∀ (m : Nat) (g : Nat) (t : Int) (_ : t = sm (syS sort l side w f) g) (_ : g ≤ 4 * n * n) (_ : 4 * n * n - g < m), J κ LAY ad 0 0 420 [some (vR 54), some (vI sort), some (vI l), some (vI side), some (vI ov), some (vI c), some (vI ((144 * q : Nat) : Int)), some (vI (f : Int)), some (vI o), some (vI t), some (vI (g : Int)), none] [] (trnM u sort l (w 55 f) (w 56 f) (w 57 f)) := by
                                          intro m
                                          induction m with
                                          | zero => intros; exact absurd ‹_ < 0› (Nat.not_lt_zero _)
                                          | succ m ih420 =>
                                            intro g t ht h7 h8
                                            refine j_iload X dX10_fold_420 rfl ?_
                                            refine j_aload_n X dX10_fold_422 rfl ?_
                                            refine cV0i X mf_X10_facets mv_X10_facets ml_X10_97 (by decide) rfl rfl (Nat.le_of_ble_eq_true rfl) dX10_fold_423 (sp_X10_facets hvn) (fun a_423 w_423 h_423 => ?_)
                                            obtain ⟨_, _⟩ := h_423
                                            subst a_423
                                            subst w_423
                                            refine j_icmp_ge (tgt := 488) X dX10_fold_426 (by decide) ⟨by omega, by omega⟩ ⟨by omega, by omega⟩ (fun h_426 => ?_) (fun h_426 => ?_)
                                            · refine j_aload_n X dX10_fold_488 rfl ?_
                                              refine j_getR X dX10_fold_489 ff_X10_13 rfl rfl ?_
                                              refine j_iload X dX10_fold_492 rfl ?_
                                              refine j_aload_n X dX10_fold_494 rfl ?_
                                              refine j_getI X dX10_fold_495 ff_X10_122 rfl rfl ?_
                                              rw [trnM_x]
                                              refine j_iastk X dX10_fold_498 rfl (by omega) (by decide) ?_
                                              refine j_aload_n X dX10_fold_499 rfl ?_
                                              refine j_getR X dX10_fold_500 ff_X10_17 rfl rfl ?_
                                              refine j_iload X dX10_fold_503 rfl ?_
                                              refine j_aload_n X dX10_fold_505 rfl ?_
                                              refine j_getI X dX10_fold_506 ff_X10_125 rfl rfl ?_
                                              rw [show (wst (trnM u sort l (w 55 f) (w 56 f) (w 57 f)) 55 f (mirX sort l (w 55 f) (w 56 f))) 54 33 = mirY sort l (w 55 f) (w 56 f) from trnM_y (w := u) (s := sort) (k := l) (x := w 55 f) (y := w 56 f) (q := w 57 f)]
                                              refine j_iastk X dX10_fold_509 rfl (by omega) (by decide) ?_
                                              refine j_aload_n X dX10_fold_510 rfl ?_
                                              refine j_getR X dX10_fold_511 ff_X10_20 rfl rfl ?_
                                              refine j_iload X dX10_fold_514 rfl ?_
                                              refine j_aload_n X dX10_fold_516 rfl ?_
                                              refine j_getI X dX10_fold_517 ff_X10_128 rfl rfl ?_
                                              rw [show (wst (wst (trnM u sort l (w 55 f) (w 56 f) (w 57 f)) 55 f (mirX sort l (w 55 f) (w 56 f))) 56 f (mirY sort l (w 55 f) (w 56 f))) 54 34 = mirQ sort (w 57 f) from trnM_q (w := u) (s := sort) (k := l) (x := w 55 f) (y := w 56 f) (q := w 57 f)]
                                              refine j_iastk X dX10_fold_520 rfl (by omega) (by decide) ?_
                                              refine j_aload_n X dX10_fold_521 rfl ?_
                                              refine j_getR X dX10_fold_522 ff_X10_23 rfl rfl ?_
                                              refine j_iload X dX10_fold_525 rfl ?_
                                              refine j_iload X dX10_fold_527 rfl ?_
                                              refine j_iconst X dX10_fold_529 ?_
                                              refine j_isub X dX10_fold_530 ?_
                                              refine j_aload_n X dX10_fold_531 rfl ?_
                                              refine j_getR X dX10_fold_532 ff_X10_42 rfl rfl ?_
                                              refine j_iload X dX10_fold_535 rfl ?_
                                              refine j_iload X dX10_fold_537 rfl ?_
                                              refine j_iadd X dX10_fold_539 ?_
                                              rw [cadd]
                                              refine j_ialdk X dX10_fold_540 rfl (by omega) (by decide) ?_
                                              rw [show (wst (wst (wst (trnM u sort l (w 55 f) (w 56 f) (w 57 f)) 55 f (mirX sort l (w 55 f) (w 56 f))) 56 f (mirY sort l (w 55 f) (w 56 f))) 57 f (mirQ sort (w 57 f))) 64 (144 * q + f) = w 58 f from (congrFun (hvo 64 (by decide)) _).trans (huw64 f hf)]
                                              refine j_isub X dX10_fold_541 ?_
                                              have C_553 : J κ LAY ad 0 0 553 [some (vR 54), some (vI sort), some (vI l), some (vI side), some (vI ov), some (vI c), some (vI ((144 * q : Nat) : Int)), some (vI (f : Int)), some (vI o), some (vI t), some (vI (g : Int)), none] [vI (if ov = 0 then 0 else t), vI (o - 1 - w 58 f), vI (f : Int), vR 58] (wst (wst (wst (trnM u sort l (w 55 f) (w 56 f) (w 57 f)) 55 f (mirX sort l (w 55 f) (w 56 f))) 56 f (mirY sort l (w 55 f) (w 56 f))) 57 f (mirQ sort (w 57 f))) := by
                                                skip
                                                refine j_iadd X dX10_fold_553 ?_
                                                rw [show o - 1 - w 58 f + (if ov = 0 then 0 else t) = nwL (4 * n * n) sort l side ov w f by unfold nwL; rw [ho, ht, show g = 4 * n * n by omega]]
                                                refine j_iastk X dX10_fold_554 rfl (by omega) (by decide) ?_
                                                refine j_aload_n X dX10_fold_555 rfl ?_
                                                refine j_getR X dX10_fold_556 ff_X10_26 rfl rfl ?_
                                                have C_576 : J κ LAY ad 0 0 576 [some (vR 54), some (vI sort), some (vI l), some (vI side), some (vI ov), some (vI c), some (vI ((144 * q : Nat) : Int)), some (vI (f : Int)), some (vI o), some (vI t), some (vI (g : Int)), none] [vI (ib (¬ w 59 f = 1)), vI (f : Int), vR 59] (wst (wst (wst (wst (trnM u sort l (w 55 f) (w 56 f) (w 57 f)) 55 f (mirX sort l (w 55 f) (w 56 f))) 56 f (mirY sort l (w 55 f) (w 56 f))) 57 f (mirQ sort (w 57 f))) 58 f (nwL (4 * n * n) sort l side ov w f)) := by
                                                  skip
                                                  refine j_zastk X dX10_fold_576 rfl (by omega) (by decide) ib_01 ?_
                                                  refine inc_7 X dX10_fold_577 rfl ?_
                                                  refine j_goto (tgt := 268) X dX10_fold_580 (by decide) ?_
                                                  refine fg_8 ?_
                                                  refine fg_9 ?_
                                                  refine fg_10 ?_
                                                  refine fg_11 ?_
                                                  exact ih268 (f + 1) _ (by rw [← fmM_y hr284]; exact ((((((hu.trn _ _ _ _ _).wst (by decide)).wst (by decide)).wst (by decide)).wst (by decide)).wst (by decide))) (by omega) (by omega)
                                                refine j_iload X dX10_fold_559 rfl ?_
                                                refine j_aload_n X dX10_fold_561 rfl ?_
                                                refine j_getR X dX10_fold_562 ff_X10_26 rfl rfl ?_
                                                refine j_iload X dX10_fold_565 rfl ?_
                                                refine j_zaldk X dX10_fold_567 rfl (by omega) (by decide) ?_
                                                have p5 := (hp f hf).2.2.2.2
                                                rw [show (wst (wst (wst (wst (trnM u sort l (w 55 f) (w 56 f) (w 57 f)) 55 f (mirX sort l (w 55 f) (w 56 f))) 56 f (mirY sort l (w 55 f) (w 56 f))) 57 f (mirQ sort (w 57 f))) 58 f (nwL (4 * n * n) sort l side ov w f)) 59 f = w 59 f from (congrFun (hvo 59 (by decide)) f).trans (hus 59 f (by decide) hfnf)]
                                                refine j_if_ne (tgt := 575) X dX10_fold_568 (by decide) ⟨by omega, by omega⟩ (fun h_568 => ?_) (fun h_568 => ?_)
                                                · refine j_iconst X dX10_fold_575 ?_
                                                  rw [ib_f (by omega)] at C_576
                                                  exact C_576
                                                · refine j_iconst X dX10_fold_571 ?_
                                                  refine j_goto (tgt := 576) X dX10_fold_572 (by decide) ?_
                                                  rw [ib_t (by omega)] at C_576
                                                  exact C_576
                                              refine j_iload X dX10_fold_542 rfl ?_
                                              refine j_if_eq (tgt := 552) X dX10_fold_544 (by decide) ⟨by omega, by omega⟩ (fun h_544 => ?_) (fun h_544 => ?_)
                                              · refine j_iconst X dX10_fold_552 ?_
                                                rw [if_pos (by omega)] at C_553
                                                exact C_553
                                              · refine j_iload X dX10_fold_547 rfl ?_
                                                refine j_goto (tgt := 553) X dX10_fold_549 (by decide) ?_
                                                rw [if_neg (by omega)] at C_553
                                                exact C_553
                                            · have hg : g < 4 * n * n := by omega
                                              obtain ⟨g1, g2, g3, -, -⟩ := hp g hg
                                              refine j_aload_n X dX10_fold_429 rfl ?_
                                              refine j_getR X dX10_fold_430 ff_X10_51 rfl rfl ?_
                                              refine j_iload X dX10_fold_433 rfl ?_
                                              refine j_zaldk X dX10_fold_435 rfl (by omega) (by decide) ?_
                                              rw [hvo 67 (by decide), hu67 g hg]
                                              refine jb_ne (tgt := 464) X dX10_fold_436 (by decide) (fun h_436 => ?_) (fun h_436 => ?_)
                                              · refine j_iconst X dX10_fold_464 ?_
                                                refine s_11 X dX10_fold_465 rfl ?_
                                                refine j_iload X dX10_fold_467 rfl ?_
                                                refine j_iload X dX10_fold_469 rfl ?_
                                                refine jt_if_eq (tgt := 478) X dX10_fold_471 (by decide) ⟨by omega, by omega⟩ (by first | decide | omega) ?_
                                                refine j_iconst X dX10_fold_478 ?_
                                                refine j_iadd X dX10_fold_479 ?_
                                                refine s_9 X dX10_fold_480 rfl ?_
                                                refine inc_10 X dX10_fold_482 rfl ?_
                                                refine j_goto (tgt := 420) X dX10_fold_485 (by decide) ?_
                                                refine fg_11 ?_
                                                exact ih420 (g + 1) _ (ac0_f ht (ib_f (fun z => z.1 h_436))) (by omega) (by omega)
                                              · have hgr : Hid (¬ ron sort l side w g) := h_436
                                                clear h_436
                                                have hvg : ∀ o, (55 ≤ o ∧ o ≤ 59) → (trnM u sort l (w 55 f) (w 56 f) (w 57 f)) o g = w o g := fun o ho => by rw [hvo o (by omega)]; exact hus o g ho (fun z => hgr z.2)
                                                have hvp : PlM (trnM u sort l (w 55 f) (w 56 f) (w 57 f)) g := by unfold PlM; rw [hvg 55 (by decide), hvg 56 (by decide), hvg 57 (by decide), hvg 58 (by decide), hvg 59 (by decide)]; exact hp g hg
                                                have hmx := mXY (sort := sort) (l := l) (x := w 55 f) (y := w 56 f) (by omega) (by omega) (by omega)
                                                have hmq := mirQ_rg (sort := sort) (q := w 57 f) (by omega)
                                                refine j_aload_n X dX10_fold_439 rfl ?_
                                                refine j_iload X dX10_fold_440 rfl ?_
                                                refine j_aload_n X dX10_fold_442 rfl ?_
                                                refine j_getI X dX10_fold_443 ff_X10_122 rfl rfl ?_
                                                rw [trnM_x]
                                                refine j_aload_n X dX10_fold_446 rfl ?_
                                                refine j_getI X dX10_fold_447 ff_X10_125 rfl rfl ?_
                                                rw [trnM_y]
                                                refine j_aload_n X dX10_fold_450 rfl ?_
                                                refine j_getI X dX10_fold_451 ff_X10_128 rfl rfl ?_
                                                rw [trnM_q]
                                                refine cV4i X mf_X10_isThere mv_X10_isThere ml_X10_131 (by decide) rfl rfl (Nat.le_of_ble_eq_true rfl) dX10_fold_454 (sp_X10_isThere (by omega) hvp ⟨by omega, by omega⟩ ⟨by omega, by omega⟩ ⟨by omega, by omega⟩) (fun a_454 w_454 h_454 => ?_)
                                                obtain ⟨_, _⟩ := h_454
                                                subst a_454
                                                subst w_454
                                                refine jb_eq (tgt := 464) X dX10_fold_457 (by decide) (fun h_457 => ?_) (fun h_457 => ?_)
                                                · refine j_iconst X dX10_fold_464 ?_
                                                  refine s_11 X dX10_fold_465 rfl ?_
                                                  refine j_iload X dX10_fold_467 rfl ?_
                                                  refine j_iload X dX10_fold_469 rfl ?_
                                                  refine jt_if_eq (tgt := 478) X dX10_fold_471 (by decide) ⟨by omega, by omega⟩ (by first | decide | omega) ?_
                                                  refine j_iconst X dX10_fold_478 ?_
                                                  refine j_iadd X dX10_fold_479 ?_
                                                  refine s_9 X dX10_fold_480 rfl ?_
                                                  refine inc_10 X dX10_fold_482 rfl ?_
                                                  refine j_goto (tgt := 420) X dX10_fold_485 (by decide) ?_
                                                  refine fg_11 ?_
                                                  exact ih420 (g + 1) _ (ac0_f ht (ib_f (fun z => h_457 (by rw [hvg 55 (by decide), hvg 56 (by decide), hvg 57 (by decide)]; exact z.2)))) (by omega) (by omega)
                                                · refine j_iconst X dX10_fold_460 ?_
                                                  refine j_goto (tgt := 465) X dX10_fold_461 (by decide) ?_
                                                  refine s_11 X dX10_fold_465 rfl ?_
                                                  refine j_iload X dX10_fold_467 rfl ?_
                                                  refine j_iload X dX10_fold_469 rfl ?_
                                                  refine jf_if_eq (tgt := 478) X dX10_fold_471 (by decide) ⟨by omega, by omega⟩ (by first | decide | omega) ?_
                                                  refine j_iconst X dX10_fold_474 ?_
                                                  refine j_goto (tgt := 479) X dX10_fold_475 (by decide) ?_
                                                  refine j_iadd X dX10_fold_479 ?_
                                                  refine s_9 X dX10_fold_480 rfl ?_
                                                  refine inc_10 X dX10_fold_482 rfl ?_
                                                  refine j_goto (tgt := 420) X dX10_fold_485 (by decide) ?_
                                                  refine fg_11 ?_
                                                  exact ih420 (g + 1) _ (ac0_t ht (ib_t ⟨hgr, by rw [hvg 55 (by decide), hvg 56 (by decide), hvg 57 (by decide)] at h_457; exact h_457⟩)) (by omega) (by omega)
                                        exact L_420 (4 * n * n + 1) 0 0 rfl (by omega) (by omega)
                                      · have hg : g < 4 * n * n := by omega
                                        obtain ⟨g1, g2, g3, -, -⟩ := hp g hg
                                        refine j_iload X dX10_fold_302 rfl ?_
                                        refine j_aload_n X dX10_fold_304 rfl ?_
                                        refine j_getR X dX10_fold_305 ff_X10_33 rfl rfl ?_
                                        refine j_iload X dX10_fold_308 rfl ?_
                                        refine j_iload X dX10_fold_310 rfl ?_
                                        refine j_iadd X dX10_fold_312 ?_
                                        rw [cadd]
                                        refine j_ialdk X dX10_fold_313 rfl (by omega) (by decide) ?_
                                        rw [huw61 g hg]
                                        refine j_aload_n X dX10_fold_314 rfl ?_
                                        refine j_getR X dX10_fold_315 ff_X10_33 rfl rfl ?_
                                        refine j_iload X dX10_fold_318 rfl ?_
                                        refine j_iload X dX10_fold_320 rfl ?_
                                        refine j_iadd X dX10_fold_322 ?_
                                        rw [cadd]
                                        refine j_ialdk X dX10_fold_323 rfl (by omega) (by decide) ?_
                                        rw [huw61 f hf]
                                        refine j_icmp_ne (tgt := 377) X dX10_fold_324 (by decide) ⟨by omega, by omega⟩ ⟨by omega, by omega⟩ (fun h_324 => ?_) (fun h_324 => ?_)
                                        · refine j_iconst X dX10_fold_377 ?_
                                          refine j_iadd X dX10_fold_378 ?_
                                          refine s_8 X dX10_fold_379 rfl ?_
                                          refine inc_9 X dX10_fold_381 rfl ?_
                                          refine j_goto (tgt := 293) X dX10_fold_384 (by decide) ?_
                                          exact ih293 (g + 1) _ (ac0_f ho (ib_f (fun z => h_324 z.1))) (by omega) (by omega)
                                        · refine j_aload_n X dX10_fold_327 rfl ?_
                                          refine j_getR X dX10_fold_328 ff_X10_36 rfl rfl ?_
                                          refine j_iload X dX10_fold_331 rfl ?_
                                          refine j_iload X dX10_fold_333 rfl ?_
                                          refine j_iadd X dX10_fold_335 ?_
                                          rw [cadd]
                                          refine j_ialdk X dX10_fold_336 rfl (by omega) (by decide) ?_
                                          rw [huw62 g hg]
                                          refine j_aload_n X dX10_fold_337 rfl ?_
                                          refine j_getR X dX10_fold_338 ff_X10_36 rfl rfl ?_
                                          refine j_iload X dX10_fold_341 rfl ?_
                                          refine j_iload X dX10_fold_343 rfl ?_
                                          refine j_iadd X dX10_fold_345 ?_
                                          rw [cadd]
                                          refine j_ialdk X dX10_fold_346 rfl (by omega) (by decide) ?_
                                          rw [huw62 f hf]
                                          refine j_icmp_ne (tgt := 377) X dX10_fold_347 (by decide) ⟨by omega, by omega⟩ ⟨by omega, by omega⟩ (fun h_347 => ?_) (fun h_347 => ?_)
                                          · refine j_iconst X dX10_fold_377 ?_
                                            refine j_iadd X dX10_fold_378 ?_
                                            refine s_8 X dX10_fold_379 rfl ?_
                                            refine inc_9 X dX10_fold_381 rfl ?_
                                            refine j_goto (tgt := 293) X dX10_fold_384 (by decide) ?_
                                            exact ih293 (g + 1) _ (ac0_f ho (ib_f (fun z => h_347 z.2.1))) (by omega) (by omega)
                                          · refine j_aload_n X dX10_fold_350 rfl ?_
                                            refine j_getR X dX10_fold_351 ff_X10_39 rfl rfl ?_
                                            refine j_iload X dX10_fold_354 rfl ?_
                                            refine j_iload X dX10_fold_356 rfl ?_
                                            refine j_iadd X dX10_fold_358 ?_
                                            rw [cadd]
                                            refine j_ialdk X dX10_fold_359 rfl (by omega) (by decide) ?_
                                            rw [huw63 g hg]
                                            refine j_aload_n X dX10_fold_360 rfl ?_
                                            refine j_getR X dX10_fold_361 ff_X10_39 rfl rfl ?_
                                            refine j_iload X dX10_fold_364 rfl ?_
                                            refine j_iload X dX10_fold_366 rfl ?_
                                            refine j_iadd X dX10_fold_368 ?_
                                            rw [cadd]
                                            refine j_ialdk X dX10_fold_369 rfl (by omega) (by decide) ?_
                                            rw [huw63 f hf]
                                            refine j_icmp_ne (tgt := 377) X dX10_fold_370 (by decide) ⟨by omega, by omega⟩ ⟨by omega, by omega⟩ (fun h_370 => ?_) (fun h_370 => ?_)
                                            · refine j_iconst X dX10_fold_377 ?_
                                              refine j_iadd X dX10_fold_378 ?_
                                              refine s_8 X dX10_fold_379 rfl ?_
                                              refine inc_9 X dX10_fold_381 rfl ?_
                                              refine j_goto (tgt := 293) X dX10_fold_384 (by decide) ?_
                                              exact ih293 (g + 1) _ (ac0_f ho (ib_f (fun z => h_370 z.2.2))) (by omega) (by omega)
                                            · refine j_iconst X dX10_fold_373 ?_
                                              refine j_goto (tgt := 378) X dX10_fold_374 (by decide) ?_
                                              refine j_iadd X dX10_fold_378 ?_
                                              refine s_8 X dX10_fold_379 rfl ?_
                                              refine inc_9 X dX10_fold_381 rfl ?_
                                              refine j_goto (tgt := 293) X dX10_fold_384 (by decide) ?_
                                              exact ih293 (g + 1) _ (ac0_t ho (ib_t ⟨h_324, h_347, h_370⟩)) (by omega) (by omega)
                                  exact L_293 (4 * n * n + 1) 0 0 rfl (by omega) (by omega)
                          refine L_268 (4 * n * n + 1) 0 _ ?_ (by omega) (by omega)
                          rw [fmM_0]
                          exact sc3.refl _
                        · refine j_iconst X dX10_fold_161 ?_
                          refine s_7 X dX10_fold_162 rfl ?_
                          have L_164 : ∀ (m : Nat) (e : Nat) (_ : e ≤ 3) (_ : 3 - e < m), J κ LAY ad 0 0 164 [some (vR 54), some (vI sort), some (vI l), some (vI side), some (vI ov), some (vI c), some (vI (f : Int)), some (vI (e : Int)), none, none, none, none] [] (crM n sort l side ov w (kepM (mvM sort l side w (4 * n * n)) q (4 * n * n) (3 * (4 * n * n))) (3 * f + e)) := by
                            intro m
                            induction m with
                            | zero => intros; exact absurd ‹_ < 0› (Nat.not_lt_zero _)
                            | succ m ih164 =>
                              intro e h5 h6
                              have hbn3 : nOk n (crM n sort l side ov w (kepM (mvM sort l side w (4 * n * n)) q (4 * n * n) (3 * (4 * n * n))) (3 * f + e)) := ⟨hn.1, (congrFun ((crM_o (by decide)).trans hK54) 1).trans hn.2⟩
                              refine j_iload X dX10_fold_164 rfl ?_
                              refine j_iconst X dX10_fold_166 ?_
                              refine j_icmp_ge (tgt := 239) X dX10_fold_167 (by decide) ⟨by omega, by omega⟩ ⟨by omega, by omega⟩ (fun h_167 => ?_) (fun h_167 => ?_)
                              · refine inc_6 X dX10_fold_239 rfl ?_
                                refine j_goto (tgt := 152) X dX10_fold_242 (by decide) ?_
                                refine fg_7 ?_
                                refine fg_8 ?_
                                obtain rfl : e = 3 := by omega
                                exact ih152 (f + 1) (by omega) (by omega)
                              · have hf : f < 4 * n * n := by omega
                                have he : e < 3 := by omega
                                have hnb := nb_b hn6 hf he
                                have hC67 : ∀ i, i < 4 * n * n → (crM n sort l side ov w (kepM (mvM sort l side w (4 * n * n)) q (4 * n * n) (3 * (4 * n * n))) (3 * f + e)) 67 i = ib (ron sort l side w i) := fun i hi => by rw [crM_o (by decide), hK67, mvM_at hi]
                                have hC59 : (crM n sort l side ov w (kepM (mvM sort l side w (4 * n * n)) q (4 * n * n) (3 * (4 * n * n))) (3 * f + e)) 59 = w 59 := (crM_o (by decide)).trans hK59
                                refine j_aload_n X dX10_fold_170 rfl ?_
                                refine j_iload X dX10_fold_171 rfl ?_
                                refine j_iload X dX10_fold_173 rfl ?_
                                refine cV2i X mf_X10_nextTo mv_X10_nextTo ml_X10_149 (by decide) rfl rfl (Nat.le_of_ble_eq_true rfl) dX10_fold_175 (sp_X10_nextTo hbn3 hf he) (fun a_175 w_175 h_175 => ?_)
                                obtain ⟨_, _⟩ := h_175
                                subst a_175
                                subst w_175
                                refine s_8 X dX10_fold_178 rfl ?_
                                refine j_iload X dX10_fold_180 rfl ?_
                                refine j_ldc X dX10_fold_182 kc_X10_135 ?_
                                refine j_icmp_eq (tgt := 233) X dX10_fold_184 (by decide) ⟨by omega, by omega⟩ ⟨by omega, by omega⟩ (fun h_184 => ?_) (fun h_184 => ?_)
                                · skip
                                  refine inc_7 X dX10_fold_233 rfl ?_
                                  refine j_goto (tgt := 164) X dX10_fold_236 (by decide) ?_
                                  refine fg_8 ?_
                                  rw [crM_n he hK60 (fun z => z.1 h_184)]
                                  exact ih164 (e + 1) (by omega) (by omega)
                                · obtain ⟨j, hj, hjN⟩ := (nb_rg hn6 hf he).resolve_left h_184
                                  have hjt : (nb n f e).toNat = j := by rw [hj]; rfl
                                  rw [hj]
                                  have hp5f := (hp f hf).2.2.2.2
                                  refine j_aload_n X dX10_fold_187 rfl ?_
                                  refine j_getR X dX10_fold_188 ff_X10_51 rfl rfl ?_
                                  refine j_iload X dX10_fold_191 rfl ?_
                                  refine j_zaldk X dX10_fold_193 rfl (by omega) (by decide) ?_
                                  rw [hC67 f hf]
                                  refine j_aload_n X dX10_fold_194 rfl ?_
                                  refine j_getR X dX10_fold_195 ff_X10_51 rfl rfl ?_
                                  refine j_iload X dX10_fold_198 rfl ?_
                                  refine j_zaldk X dX10_fold_200 rfl (by omega) (by decide) ?_
                                  rw [hC67 j hjN]
                                  refine j_icmp_eq (tgt := 233) X dX10_fold_201 (by decide) ib_rg ib_rg (fun h_201 => ?_) (fun h_201 => ?_)
                                  · skip
                                    refine inc_7 X dX10_fold_233 rfl ?_
                                    refine j_goto (tgt := 164) X dX10_fold_236 (by decide) ?_
                                    refine fg_8 ?_
                                    rw [crM_n he hK60 (fun z => z.2 (by rw [hjt]; exact h_201))]
                                    exact ih164 (e + 1) (by omega) (by omega)
                                  · refine j_aload_n X dX10_fold_204 rfl ?_
                                    refine j_getR X dX10_fold_205 ff_X10_30 rfl rfl ?_
                                    refine j_iconst X dX10_fold_208 ?_
                                    refine j_iload X dX10_fold_209 rfl ?_
                                    refine j_imul X dX10_fold_211 ?_
                                    refine j_iload X dX10_fold_212 rfl ?_
                                    refine j_iadd X dX10_fold_214 ?_
                                    have C_232 : ∀ v : Int, v = (if ov = w 59 f then 1 else 2) → J κ LAY ad 0 0 232 [some (vR 54), some (vI sort), some (vI l), some (vI side), some (vI ov), some (vI c), some (vI (f : Int)), some (vI (e : Int)), some (vI (j : Int)), none, none, none] [vI v, vI ((3 * f + e : Nat) : Int), vR 60] (crM n sort l side ov w (kepM (mvM sort l side w (4 * n * n)) q (4 * n * n) (3 * (4 * n * n))) (3 * f + e)) := by
                                      intro v hv
                                      refine j_iastk X dX10_fold_232 rfl (by omega) (by decide) ?_
                                      skip
                                      refine inc_7 X dX10_fold_233 rfl ?_
                                      refine j_goto (tgt := 164) X dX10_fold_236 (by decide) ?_
                                      refine fg_8 ?_
                                      rw [crM_y he (show v = crV n sort l side ov w f e by unfold crV; rw [if_pos ⟨h_184, fun z => h_201 (by rw [hjt] at z; exact z)⟩]; exact hv)]
                                      exact ih164 (e + 1) (by omega) (by omega)
                                    rw [c3]
                                    refine j_iload X dX10_fold_215 rfl ?_
                                    refine j_aload_n X dX10_fold_217 rfl ?_
                                    refine j_getR X dX10_fold_218 ff_X10_26 rfl rfl ?_
                                    refine j_iload X dX10_fold_221 rfl ?_
                                    refine j_zaldk X dX10_fold_223 rfl (by omega) (by decide) ?_
                                    rw [hC59]
                                    refine j_icmp_ne (tgt := 231) X dX10_fold_224 (by decide) ⟨by omega, by omega⟩ ⟨by omega, by omega⟩ (fun h_224 => ?_) (fun h_224 => ?_)
                                    · refine j_iconst X dX10_fold_231 ?_
                                      exact C_232 _ (if_neg h_224).symm
                                    · refine j_iconst X dX10_fold_227 ?_
                                      refine j_goto (tgt := 232) X dX10_fold_228 (by decide) ?_
                                      exact C_232 _ (if_pos h_224).symm
                          exact L_164 4 0 (by omega) (by omega)
                    have h9 := L_152 (4 * n * n + 1) 0 (by omega) (by omega)
                    rw [crM_0] at h9
                    exact h9
                  · refine j_bipush X dX10_fold_142 (by decide +kernel) ?_
                    exact j_ireturn X hR dX10_fold_144 (by rw [if_pos ⟨hln, hsd⟩, if_pos (by omega), if_neg (by omega)]; exact ⟨rfl, fun o ho => mvM_o ho⟩)
                · refine j_bipush X dX10_fold_130 (by decide +kernel) ?_
                  exact j_ireturn X hR dX10_fold_132 (by rw [if_pos ⟨hln, hsd⟩, if_neg (by omega)]; exact ⟨rfl, fun o ho => mvM_o ho⟩)
          · refine j_aload_n X dX10_fold_41 rfl ?_
            refine j_getR X dX10_fold_42 ff_X10_51 rfl rfl ?_
            refine j_iload X dX10_fold_45 rfl ?_
            refine j_iload_n X dX10_fold_47 rfl ?_
            refine j_iload_n X dX10_fold_48 rfl ?_
            have C_82 : J κ LAY ad 0 0 82 [some (vR 54), some (vI sort), some (vI l), some (vI side), some (vI ov), some (vI c), some (vI (k : Int)), none, none, none, none, none] [vI (ib (ron sort l side w k)), vI (k : Int), vR 67] (mvM sort l side w k) := by
              skip
              refine j_zastk X dX10_fold_82 rfl (by omega) (by decide) ib_01 ?_
              rw [mvM_s]
              refine j_iload X dX10_fold_83 rfl ?_
              refine j_aload_n X dX10_fold_85 rfl ?_
              refine j_getR X dX10_fold_86 ff_X10_51 rfl rfl ?_
              refine j_iload X dX10_fold_89 rfl ?_
              refine j_zaldk X dX10_fold_91 rfl (by omega) (by decide) ?_
              rw [mvM_at (Nat.lt_succ_self k)]
              refine jb_eq (tgt := 99) X dX10_fold_92 (by decide) (fun h_92 => ?_) (fun h_92 => ?_)
              · refine j_iconst X dX10_fold_99 ?_
                refine j_iadd X dX10_fold_100 ?_
                refine s_5 X dX10_fold_101 rfl ?_
                refine inc_6 X dX10_fold_103 rfl ?_
                refine j_goto (tgt := 32) X dX10_fold_106 (by decide) ?_
                exact ih32 (k + 1) _ (ac0_f hc (ib_f h_92)) (by omega) (by omega)
              · refine j_iconst X dX10_fold_95 ?_
                refine j_goto (tgt := 100) X dX10_fold_96 (by decide) ?_
                refine j_iadd X dX10_fold_100 ?_
                refine s_5 X dX10_fold_101 rfl ?_
                refine inc_6 X dX10_fold_103 rfl ?_
                refine j_goto (tgt := 32) X dX10_fold_106 (by decide) ?_
                exact ih32 (k + 1) _ (ac0_t hc (ib_t h_92)) (by omega) (by omega)
            have hk : k < 4 * n * n := by omega
            obtain ⟨p1, p2, p3, -, -⟩ := hp k hk
            have hr55 : (mvM sort l side w k) 55 = w 55 := mvM_o (by decide)
            have hr56 : (mvM sort l side w k) 56 = w 56 := mvM_o (by decide)
            have hr57 : (mvM sort l side w k) 57 = w 57 := mvM_o (by decide)
            refine j_aload_n X dX10_fold_49 rfl ?_
            refine j_getR X dX10_fold_50 ff_X10_13 rfl rfl ?_
            refine j_iload X dX10_fold_53 rfl ?_
            refine j_ialdk X dX10_fold_55 rfl (by omega) (by decide) ?_
            rw [hr55]
            refine j_aload_n X dX10_fold_56 rfl ?_
            refine j_getR X dX10_fold_57 ff_X10_17 rfl rfl ?_
            refine j_iload X dX10_fold_60 rfl ?_
            refine j_ialdk X dX10_fold_62 rfl (by omega) (by decide) ?_
            rw [hr56]
            refine j_aload_n X dX10_fold_63 rfl ?_
            refine j_getR X dX10_fold_64 ff_X10_20 rfl rfl ?_
            refine j_iload X dX10_fold_67 rfl ?_
            refine j_ialdk X dX10_fold_69 rfl (by omega) (by decide) ?_
            rw [hr57]
            refine cS5i X mf_X10_sideOf ms_X10_sideOf ml_X10_142 (by decide) (Nat.le_of_ble_eq_true rfl) dX10_fold_70 (sp_X10_sideOf hln.1 ⟨by omega, by omega⟩ ⟨by omega, by omega⟩ ⟨by omega, by omega⟩ p3) (fun a_70 w_70 h_70 => ?_)
            obtain ⟨_, _⟩ := h_70
            subst a_70
            subst w_70
            refine j_iload_n X dX10_fold_73 rfl ?_
            refine j_icmp_ne (tgt := 81) X dX10_fold_74 (by decide) ib_rg ⟨by omega, by omega⟩ (fun h_74 => ?_) (fun h_74 => ?_)
            · refine j_iconst X dX10_fold_81 ?_
              rw [show ib (ron sort l side w k) = 0 from ib_f (fun z => h_74 ((ib_on hsd).mpr z))] at C_82
              exact C_82
            · refine j_iconst X dX10_fold_77 ?_
              refine j_goto (tgt := 82) X dX10_fold_78 (by decide) ?_
              rw [show ib (ron sort l side w k) = 1 from ib_t ((ib_on hsd).mp h_74)] at C_82
              exact C_82
      have h9 := L_32 (4 * n * n + 1) 0 0 rfl (by omega) (by omega)
      rw [mvM_0] at h9
      exact h9
    · refine j_bipush X dX10_fold_23 (by decide +kernel) ?_
      exact j_ireturn X hR dX10_fold_25 (by rw [if_neg (fun z => by have := z.2; simp only [isSide] at this; omega)]; exact ⟨rfl, rfl⟩)
