/-! ===== the reference's search: goThrough, look ===== -/
def gg (n : Nat) (F : Nat → Int) (g : Nat) : Int := if g = 0 then 0 else cnt (4 * n * n) F g (S0 n)
def zTf (n : Nat) (F : Nat → Int) (g : Nat) (R X : Int) : fin3 := (acS n F g, (R + gg n F g, X + bud (4 * n * n) F g (S0 n)))
def gtP (n g : Nat) (w w' : wd) (X R a : Int) : Prop := fr7 w w' ∧ lvO (4 * n * n) (w 69) w' (fun _ => S0 n) 0 ∧ stO w' (X + bud (4 * n * n) (w 69) g (S0 n)) ∧ ((a = 0 ∧ 3000 < R + gg n (w 69) g) ∨ (a = 1 ∧ R + gg n (w 69) g ≤ 3000 ∧ w' 54 30 = R + gg n (w 69) g ∧ w' 54 31 = (acS n (w 69) g).1 ∧ (0 < (acS n (w 69) g).1 → ∀ i, i ≤ g → w' 78 i = (acS n (w 69) g).2 i)))
theorem gtJ.start {n g : Nat} {w : wd} {X R : Int} (hg : g ≠ 0) (hN : 4 * n * n ≤ 144) (hlv : lvO (4 * n * n) (w 69) w (fun _ => S0 n) 0) (hst : stO w X) (h30 : w 54 30 = R) (hR : 0 ≤ R ∧ R ≤ 3000) (h31 : w 54 31 = 0) : gtJ n w g (zTf n (w 69) g R X) 0 0 (wst w 77 0 (-1)) (fun _ => S0 n) (fun _ _ => 0) (fun _ => 0) ((0, fun _ => 0), (R, X)) := by
  refine ⟨(fr7.refl w).at_ (by decide), hlv.c hN (fun o i a b _ => congrFun (wst_ne (by omega)) i) (fun i _ => ⟨congrFun (wst_ne (by decide)) i, congrFun (wst_ne (by decide)) i⟩), ⟨fun i hi j hj => by omega, fun i hi => absurd hi (Nat.not_lt_zero _)⟩, ⟨hst.c (by rw [wst_ne (by decide)]) (by rw [wst_ne (by decide)]), ?_, ?_, ?_, ?_, ?_⟩, rfl, hR.2, by omega, by omega, by rw [wat]; rfl, ?_⟩
  · rw [wst_ne (by decide)]; exact h30
  · rw [wst_ne (by decide)]; exact h31
  · exact Int.le_refl 0
  · show (0 : Int) ≤ 584 * R; omega
  · intro h; exact absurd h (Int.lt_irrefl 0)
  · obtain ⟨m, rfl⟩ : ∃ m, g = m + 1 := ⟨g - 1, by omega⟩
    rw [fini_all]
    unfold zTf gg
    rw [if_neg (by omega)]
    rfl
theorem gtJ.done {n g : Nat} {w u : wd} {X R : Int} {z : fin3} {Sq : Nat → lys} {rq : Nat → Nat → Int} {tq : Nat → Nat} {x : Int} (hN : 4 * n * n ≤ 144) (h : gtJ n w g (zTf n (w 69) g R X) 0 584 u Sq rq tq z) : gtP n g w (wst u 77 0 x) X R 1 := by
  obtain ⟨a, b, ⟨c1, c2, c3, c4, c5, c6⟩, d⟩ := h.last (x := x) hN
  exact ⟨a, b, c1, Or.inr ⟨rfl, d, c2, c3, c6⟩⟩
theorem gtJ.stop {n g d t : Nat} {w u v v2 : wd} {X R : Int} {z : fin3} {Sq : Nat → lys} {rq : Nat → Nat → Int} {tq : Nat → Nat} (hN : 4 * n * n ≤ 144) (h : gtJ n w g (zTf n (w 69) g R X) d t u Sq rq tq z) (ht : t < 584) (hg : goF (wst u 77 d t) v d) (hs : stO v (z.2.2 + 2 * ib (crS (4 * n * n) (Sq d) (tS t : Int) (tK t)))) (hgo : goS (4 * n * n) (w 69) (Sq d) t) (hm : msR (nxS (Sq d) t) v v2 (d + 1) 4 (4 * n * n)) (hd : d + 1 = g) (h3000 : ¬ z.2.1 + 1 ≤ 3000) {y : Int} : gtP n g w (wst v2 54 30 y) X R 0 := by
  obtain ⟨a1, a2, a3, a4, a5⟩ := h.try_ hN hg hs
  have h9 := h.2.2.2.2.2.2.2.2.2
  have h5 := h.2.2.2.2.1
  rw [ib_t hgo.1] at hs
  rw [fini_next ht, lev3_leaf hd hgo] at h9
  have hge := fini_ge (N := 4 * n * n) (F := w 69) (g := g) (Sq := Sq) (rq := rq) (tq := tq) d (t + 1) (weiS (4 * n * n) (w 69) g (nxS (Sq d) t) (w1 (rq d) d (t : Int)) z.1, (z.2.1 + 1, z.2.2 + 2))
  rw [h9] at hge
  have g1 : z.2.1 + 1 ≤ R + gg n (w 69) g := hge.1
  have g2 : z.2.2 + 2 ≤ X + bud (4 * n * n) (w 69) g (S0 n) := hge.2
  have b2 : lvO (4 * n * n) (w 69) v2 Sq d := a2.c hN (fun o i a b _ => congrFun (hm.1 o (by omega) (by omega)) i) (fun i hi => hm.2.2 i (by omega))
  have b3 : lvO (4 * n * n) (w 69) v2 (fun _ => S0 n) 0 := fun i hi => by
    have := b2 i (by omega)
    rw [show i = 0 by omega, h5] at this
    rw [show i = 0 by omega]
    exact this
  refine ⟨⟨fun o p1 p2 => ?_, fun i p1 p2 p3 p4 p5 p6 => ?_⟩, b3.c hN (fun o i a b _ => congrFun (wst_ne (by omega)) i) (fun i _ => ⟨congrFun (wst_ne (by decide)) i, congrFun (wst_ne (by decide)) i⟩), ?_, Or.inl ⟨rfl, by omega⟩⟩
  · rw [wst_ne p1, hm.1 o (by omega) (by omega)]; exact a1.1 o p1 p2
  · show (if 54 = 54 then w1 (v2 54) 30 _ else _) i = _
    rw [if_pos rfl, hm.1 54 (by decide) (by decide)]
    simp only [w1, if_neg p2]
    exact a1.2 i p1 p2 p3 p4 p5 p6
  · refine (hs.mono (C := X + bud (4 * n * n) (w 69) g (S0 n)) (by omega)).c ?_ ?_
    · show (if 54 = 54 then w1 (v2 54) 30 _ else _) 25 = _
      rw [if_pos rfl, hm.1 54 (by decide) (by decide)]
      rfl
    · rw [wst_ne (by decide), hm.1 74 (by decide) (by decide)]
theorem gt_zero {n : Nat} {w : wd} {X R x : Int} (hN : 4 * n * n ≤ 144) (hlv : lvO (4 * n * n) (w 69) w (fun _ => S0 n) 0) (hst : stO w X) (h30 : w 54 30 = R) (hR : 0 ≤ R ∧ R ≤ 3000) (h31 : w 54 31 = 0) : gtP n 0 w (wst (ctW (4 * n * n) (S0 n) (wst w 77 0 x) 0) 54 31 (0 + cutN (4 * n * n) (w 69) (S0 n))) X R 1 := by
  obtain ⟨W, hW⟩ : ∃ W, W = ctW (4 * n * n) (S0 n) (wst w 77 0 x) 0 := ⟨_, rfl⟩
  have hWo : ∀ o, o ≠ 78 → W o = wst w 77 0 x o := fun o ho => by
    rw [hW]; unfold ctW; split
    · rw [wst_ne ho, cpR_o ho]
    · rfl
  have hc := cutN_rg (4 * n * n) (w 69) (S0 n)
  rw [← hW]
  have E : ∀ o, o ≠ 78 → o ≠ 54 → o ≠ 77 → wst W 54 31 (0 + cutN (4 * n * n) (w 69) (S0 n)) o = w o := fun o p1 p2 p3 => by rw [wst_ne p2, hWo o p1, wst_ne p3]
  have E54 : ∀ i, i ≠ 31 → wst W 54 31 (0 + cutN (4 * n * n) (w 69) (S0 n)) 54 i = w 54 i := fun i p2 => by
    show (if 54 = 54 then w1 (W 54) 31 _ else _) i = _
    rw [if_pos rfl, hWo 54 (by decide)]
    simp only [w1, if_neg p2]
    exact congrFun (wst_ne (by decide)) i
  have hgg : gg n (w 69) 0 = 0 := rfl
  have hac : (acS n (w 69) 0).1 = 0 + cutN (4 * n * n) (w 69) (S0 n) := rfl
  refine ⟨⟨fun o p1 p2 => E o (by omega) p1 (by omega), fun i p1 p2 p3 p4 p5 p6 => E54 i p3⟩, hlv.c hN (fun o i p1 p2 _ => by rw [E o (by omega) (by omega) (by omega)]) (fun i hi => ⟨by rw [E 75 (by decide) (by decide) (by decide)], by rw [E 76 (by decide) (by decide) (by decide)]⟩), (hst.mono (by have := bud_nn (4 * n * n) (w 69) 0 (S0 n); omega)).c (E54 25 (by decide)) (E 74 (by decide) (by decide) (by decide)), Or.inr ⟨rfl, by omega, by rw [E54 30 (by decide)]; omega, ?_, fun hp i hi => ?_⟩⟩
  · show (if 54 = 54 then w1 (W 54) 31 _ else _) 31 = _
    rw [if_pos rfl]
    simp only [w1, if_true]
    rfl
  · rw [hac] at hp
    have q69 : wst w 77 0 x 69 = w 69 := wst_ne (by decide)
    have q31 : wst w 77 0 x 54 31 = 0 := by rw [wst_ne (by decide)]; exact h31
    have z2 : 0 < cutN (4 * n * n) (w 69) (S0 n) ∧ (0 : Int) = 0 := ⟨by omega, rfl⟩
    obtain rfl : i = 0 := by omega
    rw [wst_ne (by decide), hW]
    unfold ctW
    rw [q69, q31, if_pos z2]
    show (if 78 = 78 then w1 (cpR _ 0 78) 0 _ else _) 0 = _
    rw [if_pos rfl]
    unfold acS accD weiS
    rw [if_pos z2]
    simp [w1]
theorem gt_last {n g d t : Nat} {w u : wd} {X R : Int} {z : fin3} {Sq : Nat → lys} {rq : Nat → Nat → Int} {tq : Nat → Nat} {x : Int} (h : gtJ n w g (zTf n (w 69) g R X) d t u Sq rq tq z) (hN : 4 * n * n ≤ 144) (hd : d = 0) (ht : t = 584) : gtP n g w (wst u 77 d x) X R 1 := by
  subst hd
  subst ht
  exact h.done hN
theorem mu_next {d t : Nat} {tq : Nat → Nat} (ht : t < 584) : mu3 d (t + 1) tq < mu3 d t tq := by
  unfold mu3
  (repeat' split) <;> omega
theorem mu_down {d t : Nat} {tq : Nat → Nat} (hd : d + 1 ≤ 2) (ht : t < 584) : mu3 (d + 1) 0 (fun i => if i < d then tq i else t) < mu3 d t tq := by
  rcases (by omega : d = 0 ∨ d = 1) with rfl | rfl
  · simp [mu3] <;> omega
  · simp [mu3] <;> omega
theorem mu_up {d : Nat} {tq : Nat → Nat} (hd : d + 1 ≤ 2) (ht : tq d < 584) : mu3 d (tq d + 1) tq < mu3 (d + 1) 584 tq := by
  rcases (by omega : d = 0 ∨ d = 1) with rfl | rfl
  · simp [mu3] <;> omega
  · simp [mu3] <;> omega
set_option maxHeartbeats 4000000 in
set_option maxRecDepth 20000 in
theorem sp_X10_goThrough {n g : Nat} {w : wd} {Bx R : Int} (hn : nOk n w) (hg3 : g ≤ 3) (hF : ∀ f, f < 144 → w 69 f = 0 ∨ w 69 f = 1) (hlv : lvO (4 * n * n) (w 69) w (fun _ => S0 n) 0) (hst : stO w Bx) (hBx : Bx + bud (4 * n * n) (w 69) g (S0 n) ≤ 2000000000) (h30 : w 54 30 = R) (hRr : 0 ≤ R ∧ R ≤ 3000) (h31 : w 54 31 = 0) : CalI yX10_goThrough cX10_goThrough 3 .boolean 4 LAY w [vR 54, vI (g : Int)] (fun a w' => gtP n g w w' Bx R a) := by
  have hN := nn_le hn.1.2
  have hn1 := hn.2
  refine calI_intro (ls := [some (vR 54), some (vI (g : Int)), none]) (by decide) (Nat.le_of_ble_eq_true rfl) rfl (fun κ ad X hR => ?_)
  refine j_iconst X dX10_goThrough_0 ?_
  refine s_2 X dX10_goThrough_1 rfl ?_
  refine j_aload_n X dX10_goThrough_2 rfl ?_
  refine j_getR X dX10_goThrough_3 ff_X10_84 rfl rfl ?_
  refine j_iconst X dX10_goThrough_6 ?_
  rw [show (0 : Int) = ((0 : Nat) : Int) from rfl]
  refine j_iconst X dX10_goThrough_7 ?_
  refine j_iastk X dX10_goThrough_8 rfl (by omega) (by decide) ?_
  refine j_iload_n X dX10_goThrough_9 rfl ?_
  refine jf_if_lt (tgt := 128) X dX10_goThrough_10 (by decide) ⟨by omega, by omega⟩ (by first | decide | omega) ?_
  refine j_iload_n X dX10_goThrough_13 rfl ?_
  refine j_iload_n X dX10_goThrough_14 rfl ?_
  refine j_icmp_ne (tgt := 41) X dX10_goThrough_15 (by decide) ⟨by omega, by omega⟩ ⟨by omega, by omega⟩ (fun h_15 => ?_) (fun h_15 => ?_)
  · have L_41 : ∀ (m : Nat) (d t : Nat) (u : wd) (Sq : Nat → lys) (rq : Nat → Nat → Int) (tq : Nat → Nat) (z : fin3) (_ : gtJ n w g (zTf n (w 69) g R Bx) d t u Sq rq tq z) (_ : mu3 d t tq < m), J κ LAY ad 0 0 41 [some (vR 54), some (vI (g : Int)), some (vI (d : Int))] [] u := by
      intro m
      induction m with
      | zero => intros; exact absurd ‹_ < 0› (Nat.not_lt_zero _)
      | succ m ih41 =>
        intro d t u Sq rq tq z hj hmu
        obtain ⟨hfr, hlo, hao, ⟨hco1, hco2, hco3, hco4, hco5, _⟩, _, hz30, hdg0, ht4, h77, hfin⟩ := id hj
        obtain ⟨hrows, hbx, hcn, hms⟩ := hlo d (Nat.le_refl d)
        have hnu : nOk n (wst u 77 d (t : Int)) := ⟨hn.1, (hfr.2 1 (by decide) (by decide) (by decide) (by decide) (by decide) (by decide)).trans hn1⟩
        have e69 : (wst u 77 d (t : Int)) 69 = w 69 := (wst_ne (by decide)).trans (hfr.1 69 (by decide) (by decide))
        have hge := (fini_ge (N := 4 * n * n) (F := w 69) (g := g) (Sq := Sq) (rq := rq) (tq := tq) d t z).2
        rw [hfin] at hge
        have hge2 : z.2.2 ≤ Bx + bud (4 * n * n) (w 69) g (S0 n) := hge
        clear hge
        refine j_aload_n X dX10_goThrough_41 rfl ?_
        refine j_getR X dX10_goThrough_42 ff_X10_84 rfl rfl ?_
        refine j_iload_n X dX10_goThrough_45 rfl ?_
        refine j_dup2 X dX10_goThrough_46 (fun _ h => by cases h) (fun _ h => by cases h) ?_
        refine j_ialdk X dX10_goThrough_47 rfl (by omega) (by decide) ?_
        refine j_iconst X dX10_goThrough_48 ?_
        refine j_iadd X dX10_goThrough_49 ?_
        rw [h77, show (t : Int) - 1 + 1 = (t : Int) by omega]
        refine j_iastk X dX10_goThrough_50 rfl (by omega) (by decide) ?_
        refine j_aload_n X dX10_goThrough_51 rfl ?_
        refine j_getR X dX10_goThrough_52 ff_X10_84 rfl rfl ?_
        refine j_iload_n X dX10_goThrough_55 rfl ?_
        refine j_ialdk X dX10_goThrough_56 rfl (by omega) (by decide) ?_
        rw [wat]
        refine j_sipush X dX10_goThrough_57 (by decide +kernel) ?_
        refine j_icmp_ne (tgt := 69) X dX10_goThrough_60 (by decide) ⟨by omega, by omega⟩ ⟨by omega, by omega⟩ (fun h_60 => ?_) (fun h_60 => ?_)
        · have ht : t < 584 := by omega
          have hS1 : ∀ f, f < 4 * n * n → rS (wst u 77 d (t : Int)) d f = Sq d f := fun f hf => by rw [← hrows f hf]; simp only [rS]; rw [wst_ne (by decide), wst_ne (by decide), wst_ne (by decide)]
          have hst1 : stO (wst u 77 d (t : Int)) z.2.2 := hco1.c (by rw [wst_ne (by decide)]) (by rw [wst_ne (by decide)])
          have hms1 : ∀ i, i < 4 → (wst u 77 d (t : Int)) 75 (4 * d + i) = loP tru (i : Int) (Sq d) (4 * n * n) ∧ (wst u 77 d (t : Int)) 76 (4 * d + i) = hiP tru (i : Int) (Sq d) (4 * n * n) := fun i hi => by rw [wst_ne (by decide), wst_ne (by decide)]; exact hms i hi
          refine j_aload_n X dX10_goThrough_69 rfl ?_
          refine j_iload_n X dX10_goThrough_70 rfl ?_
          refine j_aload_n X dX10_goThrough_71 rfl ?_
          refine j_getR X dX10_goThrough_72 ff_X10_84 rfl rfl ?_
          refine j_iload_n X dX10_goThrough_75 rfl ?_
          refine j_ialdk X dX10_goThrough_76 rfl (by omega) (by decide) ?_
          rw [wat]
          refine cV2i X mf_X10_goes mv_X10_goes ml_X10_217 (by decide) rfl rfl (Nat.le_of_ble_eq_true rfl) dX10_goThrough_77 (sp_X10_goes (n := n) (d := d) (t := t) (S := Sq d) (R := 5 + 5 * (d : Int)) (B := z.2.2) hnu hS1 (by omega) ht (fun f hf => by rw [e69]; exact hF f hf) (by omega) hbx (by rw [e69]; exact hcn) hms1 hst1 (by omega)) (fun a_77 w_77 h_77 => ?_)
          obtain ⟨hgf, hgs, hgo⟩ := h_77
          rw [e69] at hgo
          have har : 0 ≤ a_77 ∧ a_77 ≤ 1 := by
            rcases hgo with q | q
            · have q1 := q.1
              clear q
              omega
            · have q1 := q.1
              clear q
              omega
          have hgo9 : Hid (_ ∨ _) := (hgo)
          clear hgo
          refine j_if_eq (tgt := 9) X dX10_goThrough_80 (by decide) ⟨by omega, by omega⟩ (fun h_80 => ?_) (fun h_80 => ?_)
          · refine j_iload_n X dX10_goThrough_9 rfl ?_
            refine jf_if_lt (tgt := 128) X dX10_goThrough_10 (by decide) ⟨by omega, by omega⟩ (by first | decide | omega) ?_
            refine j_iload_n X dX10_goThrough_13 rfl ?_
            refine j_iload_n X dX10_goThrough_14 rfl ?_
            refine jt_icmp_ne (tgt := 41) X dX10_goThrough_15 (by decide) ⟨by omega, by omega⟩ ⟨by omega, by omega⟩ (by first | decide | omega) ?_
            have hng : ¬ goS (4 * n * n) (w 69) (Sq d) t := by
              rcases hgo9 with q | q
              · exact absurd (q.1.symm.trans h_80) (by decide)
              · exact q.2
            exact ih41 d (t + 1) _ Sq rq tq _ (hj.no hN ht hgf hgs hng) (Nat.lt_of_lt_of_le (mu_next ht) (by omega))
          · obtain ⟨hgo2, hgr⟩ : Hid (goS (4 * n * n) (w 69) (Sq d) t) ∧ ∀ f, f < 4 * n * n → rS w_77 (d + 1) f = nxS (Sq d) t f := by
              rcases hgo9 with q | q
              · exact ⟨q.2.1, q.2.2⟩
              · exact absurd q.1 h_80
            clear hgo9
            have hbx2 := nx_box hbx hcn hgo2
            have hok2 : ∀ f, f < 4 * n * n → okp 100 (nxS (Sq d) t f) := (fun f hf => by have h9 := (hbx2.1).1 f hf; unfold okp at h9 ⊢; omega)
            have hnv : nOk n w_77 := ⟨hn.1, (hgf.2.1 1 (by decide) (by decide) (by decide) (by decide)).trans hnu.2⟩
            refine inc_2 X dX10_goThrough_83 rfl ?_
            rw [show (d : Int) + 1 = ((d + 1 : Nat) : Int) from rfl]
            refine j_aload_n X dX10_goThrough_86 rfl ?_
            refine j_iload_n X dX10_goThrough_87 rfl ?_
            refine cV1v X mf_X10_measure mv_X10_measure ml_X10_220 (by decide) rfl rfl (Nat.le_of_ble_eq_true rfl) dX10_goThrough_88 (sp_X10_measure (n := n) (d := d + 1) (S := nxS (Sq d) t) hnv (by omega) hgr hok2) (fun w_88 h_88 => ?_)
            have hm2 : msR (nxS (Sq d) t) w_77 w_88 (d + 1) 4 (4 * n * n) := h_88
            have e54 : ∀ i, (i = 1 ∨ i = 30 ∨ i = 31) → w_88 54 i = u 54 i := fun i hi => (congrFun (hm2.1 54 (by decide) (by decide)) i).trans ((hgf.2.1 i (by omega) (by omega) (by omega) (by omega)).trans (congrFun (wst_ne (by decide)) i))
            have e88 : w_88 69 = w 69 := (hm2.1 69 (by decide) (by decide)).trans ((hgf.1 69 (by decide) (by decide)).trans e69)
            refine j_iload_n X dX10_goThrough_91 rfl ?_
            refine j_iload_n X dX10_goThrough_92 rfl ?_
            refine j_icmp_ne (tgt := 118) X dX10_goThrough_93 (by decide) ⟨by omega, by omega⟩ ⟨by omega, by omega⟩ (fun h_93 => ?_) (fun h_93 => ?_)
            · refine j_aload_n X dX10_goThrough_118 rfl ?_
              refine j_getR X dX10_goThrough_119 ff_X10_84 rfl rfl ?_
              refine j_iload_n X dX10_goThrough_122 rfl ?_
              refine j_iconst X dX10_goThrough_123 ?_
              refine j_iastk X dX10_goThrough_124 rfl (by omega) (by decide) ?_
              refine j_goto (tgt := 9) X dX10_goThrough_125 (by decide) ?_
              refine j_iload_n X dX10_goThrough_9 rfl ?_
              refine jf_if_lt (tgt := 128) X dX10_goThrough_10 (by decide) ⟨by omega, by omega⟩ (by first | decide | omega) ?_
              refine j_iload_n X dX10_goThrough_13 rfl ?_
              refine j_iload_n X dX10_goThrough_14 rfl ?_
              refine jt_icmp_ne (tgt := 41) X dX10_goThrough_15 (by decide) ⟨by omega, by omega⟩ ⟨by omega, by omega⟩ (by first | decide | omega) ?_
              exact ih41 (d + 1) 0 _ _ _ _ _ (hj.down hN ht hgf hgs hgo2 hgr hm2 (by omega)) (Nat.lt_of_lt_of_le (mu_down (by omega) ht) (by omega))
            · have hdg : d + 1 = g := by omega
              subst hdg
              refine j_aload_n X dX10_goThrough_96 rfl ?_
              refine j_dup X dX10_goThrough_97 (fun _ h => by cases h) ?_
              refine j_getI X dX10_goThrough_98 ff_X10_223 rfl rfl ?_
              refine j_iconst X dX10_goThrough_101 ?_
              refine j_iadd X dX10_goThrough_102 ?_
              rw [(e54 30 (by decide)).trans hco2]
              refine j_putI X dX10_goThrough_103 fp_X10_223 rfl rfl ?_
              refine j_aload_n X dX10_goThrough_106 rfl ?_
              refine j_getI X dX10_goThrough_107 ff_X10_223 rfl rfl ?_
              rw [show wst w_88 54 30 (z.2.1 + 1) 54 30 = z.2.1 + 1 by simp [wst, w1]]
              refine j_sipush X dX10_goThrough_110 (by decide +kernel) ?_
              refine j_icmp_le (tgt := 9) X dX10_goThrough_113 (by decide) ⟨by omega, by omega⟩ ⟨by omega, by omega⟩ (fun h_113 => ?_) (fun h_113 => ?_)
              · refine j_iload_n X dX10_goThrough_9 rfl ?_
                refine jf_if_lt (tgt := 128) X dX10_goThrough_10 (by decide) ⟨by omega, by omega⟩ (by first | decide | omega) ?_
                refine j_iload_n X dX10_goThrough_13 rfl ?_
                refine j_iload_n X dX10_goThrough_14 rfl ?_
                refine jf_icmp_ne (tgt := 41) X dX10_goThrough_15 (by decide) ⟨by omega, by omega⟩ ⟨by omega, by omega⟩ (by first | decide | omega) ?_
                have hnr : nOk n (wst w_88 54 30 (z.2.1 + 1)) := ⟨hn.1, (e54 1 (by decide)).trans hnu.2⟩
                have hS2 : ∀ f, f < 4 * n * n → rS (wst w_88 54 30 (z.2.1 + 1)) (d + 1) f = nxS (Sq d) t f := fun f hf => by rw [← hgr f hf]; simp only [rS]; rw [wst_ne (by decide), wst_ne (by decide), wst_ne (by decide), hm2.1 71 (by decide) (by decide), hm2.1 72 (by decide) (by decide), hm2.1 73 (by decide) (by decide)]
                have hF2 : ∀ f, f < 144 → wst w_88 54 30 (z.2.1 + 1) 69 f = 0 ∨ wst w_88 54 30 (z.2.1 + 1) 69 f = 1 := fun f hf => by rw [wst_ne (by decide), e88]; exact hF f hf
                have hr31 : rg (wst w_88 54 30 (z.2.1 + 1) 54 31) := by
                  rw [show wst w_88 54 30 (z.2.1 + 1) 54 31 = z.1.1 from ((e54 31 (by decide)).trans hco3)]
                  exact ⟨by omega, by omega⟩
                refine j_aload_n X dX10_goThrough_18 rfl ?_
                refine j_dup X dX10_goThrough_19 (fun _ h => by cases h) ?_
                refine j_getI X dX10_goThrough_20 ff_X10_210 rfl rfl ?_
                refine j_aload_n X dX10_goThrough_23 rfl ?_
                refine j_iload_n X dX10_goThrough_24 rfl ?_
                refine cV1i X mf_X10_cuts mv_X10_cuts ml_X10_213 (by decide) rfl rfl (Nat.le_of_ble_eq_true rfl) dX10_goThrough_25 (sp_X10_cuts (n := n) (d := d + 1) (S := nxS (Sq d) t) hnr (by omega) hS2 hF2 hok2 hr31) (fun a_25 w_25 h_25 => ?_)
                obtain ⟨_, _⟩ := h_25
                subst a_25
                subst w_25
                rw [show wst w_88 54 30 (z.2.1 + 1) 54 31 = z.1.1 from ((e54 31 (by decide)).trans hco3), show wst w_88 54 30 (z.2.1 + 1) 69 = w 69 from e88]
                refine j_iadd X dX10_goThrough_28 ?_
                refine j_putI X dX10_goThrough_29 fp_X10_210 rfl rfl ?_
                refine inc_2 X dX10_goThrough_32 rfl ?_
                rw [show ((d + 1 : Nat) : Int) + -1 = (d : Int) by omega]
                refine j_iload_n X dX10_goThrough_35 rfl ?_
                refine jt_if_ge (tgt := 41) X dX10_goThrough_36 (by decide) ⟨by omega, by omega⟩ (by first | decide | omega) ?_
                exact ih41 d (t + 1) _ Sq rq tq _ (hj.leaf hN ht hgf hgs hgo2 hm2 rfl h_113) (Nat.lt_of_lt_of_le (mu_next ht) (by omega))
              · refine j_iconst X dX10_goThrough_116 ?_
                exact j_zreturn X hR dX10_goThrough_117 (by first | exact Or.inl rfl | exact Or.inr rfl | exact ib_01) (hj.stop hN ht hgf hgs hgo2 hm2 rfl h_113)
        · refine inc_2 X dX10_goThrough_63 rfl ?_
          refine j_goto (tgt := 9) X dX10_goThrough_66 (by decide) ?_
          refine j_iload_n X dX10_goThrough_9 rfl ?_
          refine j_if_lt (tgt := 128) X dX10_goThrough_10 (by decide) ⟨by omega, by omega⟩ (fun h_10 => ?_) (fun h_10 => ?_)
          · refine j_iconst X dX10_goThrough_128 ?_
            exact j_zreturn X hR dX10_goThrough_129 (by first | exact Or.inl rfl | exact Or.inr rfl | exact ib_01) (gt_last hj hN (by omega) (by omega))
          · refine j_iload_n X dX10_goThrough_13 rfl ?_
            refine j_iload_n X dX10_goThrough_14 rfl ?_
            refine jt_icmp_ne (tgt := 41) X dX10_goThrough_15 (by decide) ⟨by omega, by omega⟩ ⟨by omega, by omega⟩ (by first | decide | omega) ?_
            obtain ⟨d2, rfl⟩ : ∃ d2, d = d2 + 1 := ⟨d - 1, by omega⟩
            obtain rfl : t = 584 := by omega
            have hup := hj.up (x := ((584 : Nat) : Int)) hN
            rw [show ((d2 + 1 : Nat) : Int) + -1 = (d2 : Int) by omega]
            exact ih41 d2 (tq d2 + 1) _ Sq rq tq z hup.1 (Nat.lt_of_lt_of_le (mu_up (by omega) hup.2) (by omega))
    exact L_41 (mu3 0 0 (fun _ => 0) + 1) 0 0 _ _ _ _ _ (gtJ.start (by omega) hN hlv hst h30 hRr h31) (by omega)
  · obtain rfl : g = 0 := by omega
    obtain ⟨hrw9, _, _, _⟩ := hlv 0 (Nat.le_refl 0)
    have hrw0 : ∀ f, f < 4 * n * n → rS w 0 f = S0 n f := hrw9
    have hbx0 := S0_box hn.1
    refine j_aload_n X dX10_goThrough_18 rfl ?_
    refine j_dup X dX10_goThrough_19 (fun _ h => by cases h) ?_
    refine j_getI X dX10_goThrough_20 ff_X10_210 rfl rfl ?_
    refine j_aload_n X dX10_goThrough_23 rfl ?_
    refine j_iload_n X dX10_goThrough_24 rfl ?_
    refine cV1i X mf_X10_cuts mv_X10_cuts ml_X10_213 (by decide) rfl rfl (Nat.le_of_ble_eq_true rfl) dX10_goThrough_25 (sp_X10_cuts (n := n) (d := 0) (S := S0 n) (w := wst w 77 0 (-1)) ⟨hn.1, hn1⟩ (by omega) (fun f hf => by rw [← hrw0 f hf]; simp only [rS]; rw [wst_ne (by decide), wst_ne (by decide), wst_ne (by decide)]) (fun f hf => by rw [wst_ne (by decide)]; exact hF f hf) (fun f hf => by have h9 := (hbx0).1 f hf; unfold okp at h9 ⊢; omega) (by rw [show wst w 77 0 (-1) 54 31 = 0 from h31]; exact ⟨by decide, by decide⟩)) (fun a_25 w_25 h_25 => ?_)
    obtain ⟨_, _⟩ := h_25
    subst a_25
    subst w_25
    rw [show wst w 77 0 (-1) 54 31 = 0 from h31, show wst w 77 0 (-1) 69 = w 69 from wst_ne (by decide)]
    refine j_iadd X dX10_goThrough_28 ?_
    refine j_putI X dX10_goThrough_29 fp_X10_210 rfl rfl ?_
    refine inc_2 X dX10_goThrough_32 rfl ?_
    refine j_iload_n X dX10_goThrough_35 rfl ?_
    refine jf_if_ge (tgt := 41) X dX10_goThrough_36 (by decide) ⟨by omega, by omega⟩ (by first | decide | omega) ?_
    refine j_iconst X dX10_goThrough_39 ?_
    exact j_zreturn X hR dX10_goThrough_40 (by first | exact Or.inl rfl | exact Or.inr rfl | exact ib_01) (gt_zero hN hlv hst h30 hRr h31)
