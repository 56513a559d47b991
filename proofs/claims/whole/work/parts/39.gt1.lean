/-! ===== the reference's search: goThrough, look, and its face ===== -/
def fr7 (w u : wd) : Prop := (∀ o, o ≠ 54 → (o < 71 ∨ 78 < o) → u o = w o) ∧ ∀ i, i ≠ 25 → i ≠ 30 → i ≠ 31 → i ≠ 32 → i ≠ 33 → i ≠ 34 → u 54 i = w 54 i
def lvO (N : Nat) (F : Nat → Int) (u : wd) (Sq : Nat → lys) (d : Nat) : Prop := ∀ i, i ≤ d → (∀ f, f < N → rS u i f = Sq i f) ∧ BOX (5 + 5 * (i : Int)) N (Sq i) ∧ CNS N F (Sq i) ∧ ∀ s, s < 4 → u 75 (4 * i + s) = loP tru (s : Int) (Sq i) N ∧ u 76 (4 * i + s) = hiP tru (s : Int) (Sq i) N
def atO (u : wd) (rq : Nat → Nat → Int) (tq : Nat → Nat) (d : Nat) : Prop := (∀ i, i ≤ d → ∀ j, j < i → u 77 j = rq i j) ∧ ∀ i, i < d → u 77 i = (tq i : Int) ∧ tq i < 584
def ctO (u : wd) (g : Nat) (z : fin3) : Prop := stO u z.2.2 ∧ u 54 30 = z.2.1 ∧ u 54 31 = z.1.1 ∧ 0 ≤ z.1.1 ∧ z.1.1 ≤ 584 * z.2.1 ∧ (0 < z.1.1 → ∀ i, i ≤ g → u 78 i = z.1.2 i)
def gtJ (n : Nat) (w : wd) (g : Nat) (zT : fin3) (d t : Nat) (u : wd) (Sq : Nat → lys) (rq : Nat → Nat → Int) (tq : Nat → Nat) (z : fin3) : Prop := fr7 w u ∧ lvO (4 * n * n) (w 69) u Sq d ∧ atO u rq tq d ∧ ctO u g z ∧ Sq 0 = S0 n ∧ z.2.1 ≤ 3000 ∧ d < g ∧ t ≤ 584 ∧ u 77 d = (t : Int) - 1 ∧ fini (4 * n * n) (w 69) g Sq rq tq d t z = zT
theorem fr7.refl (w : wd) : fr7 w w := ⟨fun _ _ _ => rfl, fun _ _ _ _ _ _ _ => rfl⟩
theorem fr7.trans {w u v : wd} (h : fr7 w u) (h2 : fr7 u v) : fr7 w v := ⟨fun o a b => (h2.1 o a b).trans (h.1 o a b), fun i a b c d e f => (h2.2 i a b c d e f).trans (h.2 i a b c d e f)⟩
theorem fr7.at_ {w u : wd} (h : fr7 w u) {o i : Nat} {x : Int} (ho : 71 ≤ o ∧ o ≤ 78) : fr7 w (wst u o i x) := ⟨fun p a b => (wst_ne (by omega)).trans (h.1 p a b), fun j a b c d e f => (congrFun (wst_ne (by omega : 54 ≠ o)) j).trans (h.2 j a b c d e f)⟩
theorem fr7.go {w u v : wd} {d : Nat} (h : fr7 w u) (hg : goF u v d) : fr7 w v := ⟨fun p a b => (hg.1 p a (by omega)).trans (h.1 p a b), fun j a b c d e f => (hg.2.1 j a d e f).trans (h.2 j a b c d e f)⟩
theorem fr7.ms {w u v : wd} {S : lys} {d s N : Nat} (h : fr7 w u) (hg : msR S u v d s N) : fr7 w v := ⟨fun p a b => (hg.1 p (by omega) (by omega)).trans (h.1 p a b), fun j a b c d e f => (congrFun (hg.1 54 (by decide) (by decide)) j).trans (h.2 j a b c d e f)⟩
theorem stO.mono {w : wd} {B C : Int} (h : stO w B) (hB : B ≤ C) : stO w C := ⟨⟨h.1.1, by have := h.1.2; omega⟩, h.2⟩
theorem stO.c {w u : wd} {B : Int} (h : stO w B) (h1 : u 54 25 = w 54 25) (h2 : u 74 = w 74) : stO u B := by
  unfold stO; rw [h1, h2]; exact h
theorem lvO.c {N d : Nat} {F : Nat → Int} {u v : wd} {Sq : Nat → lys} (h : lvO N F u Sq d) (hN : N ≤ 144) (h1 : ∀ o i, 71 ≤ o → o ≤ 73 → i < 144 * (d + 1) → v o i = u o i) (h2 : ∀ i, i < 4 * (d + 1) → v 75 i = u 75 i ∧ v 76 i = u 76 i) : lvO N F v Sq d := by
  intro i hi
  obtain ⟨a, b, c, e⟩ := h i hi
  refine ⟨fun f hf => ?_, b, c, fun s hs => ?_⟩
  · rw [← a f hf]
    simp only [rS]
    rw [h1 71 _ (by decide) (by decide) (by omega), h1 72 _ (by decide) (by decide) (by omega), h1 73 _ (by decide) (by decide) (by omega)]
  · obtain ⟨x, y⟩ := h2 (4 * i + s) (by omega)
    rw [x, y]
    exact e s hs
theorem atO.c {u v : wd} {rq : Nat → Nat → Int} {tq : Nat → Nat} {d : Nat} (h : atO u rq tq d) (e : ∀ i, i < d → v 77 i = u 77 i) : atO v rq tq d := ⟨fun i hi j hj => by rw [e j (by omega)]; exact h.1 i hi j hj, fun i hi => by rw [e i hi]; exact h.2 i hi⟩
theorem ctO.c {u v : wd} {g : Nat} {z : fin3} {X : Int} (h : ctO u g z) (h1 : v 54 30 = u 54 30) (h2 : v 54 31 = u 54 31) (h3 : v 78 = u 78) (h4 : stO v X) : ctO v g (z.1, (z.2.1, X)) := by
  obtain ⟨a, b, c, d, e, f⟩ := h
  exact ⟨h4, h1.trans b, h2.trans c, d, e, fun q i hi => by rw [h3]; exact f q i hi⟩
theorem wat {u : wd} {d : Nat} {x : Int} : wst u 77 d x 77 d = x := by simp [wst, w1]
theorem wan {u : wd} {d i : Nat} {x : Int} (h : i ≠ d) : wst u 77 d x 77 i = u 77 i := by simp [wst, w1, h]
/-- telling t is about to be tried -/
theorem gtJ.try_ {n g d t : Nat} {w u v : wd} {zT z : fin3} {Sq : Nat → lys} {rq : Nat → Nat → Int} {tq : Nat → Nat} {X : Int} (hN : 4 * n * n ≤ 144) (h : gtJ n w g zT d t u Sq rq tq z) (hg : goF (wst u 77 d t) v d) (hs : stO v X) : fr7 w v ∧ lvO (4 * n * n) (w 69) v Sq d ∧ atO v rq tq d ∧ ctO v g (z.1, (z.2.1, X)) ∧ v 77 d = (t : Int) := by
  obtain ⟨h1, h2, h3, h4, _⟩ := h
  have e : ∀ o, 75 ≤ o → o ≠ 77 → o ≤ 78 → v o = u o := fun o a b c => (hg.1 o (by omega) (by omega)).trans (wst_ne b)
  have e77 : v 77 = wst u 77 d t 77 := hg.1 77 (by decide) (by decide)
  have f54 : ∀ i, i = 30 ∨ i = 31 → v 54 i = u 54 i := fun i hi => (hg.2.1 i (by omega) (by omega) (by omega) (by omega)).trans (congrFun (wst_ne (by decide)) i)
  refine ⟨(h1.at_ (by decide)).go hg, h2.c hN (fun o i a b c => (hg.2.2 o i a b c).trans (congrFun (wst_ne (by omega)) i)) (fun i _ => ⟨by rw [e 75 (by decide) (by decide) (by decide)], by rw [e 76 (by decide) (by decide) (by decide)]⟩), h3.c (fun i hi => by rw [e77, wan (by omega)]), h4.c (f54 30 (Or.inl rfl)) (f54 31 (Or.inr rfl)) (e 78 (by decide) (by decide) (by decide)) hs, by rw [e77, wat]⟩
theorem gtJ.no {n g d t : Nat} {w u v : wd} {zT z : fin3} {Sq : Nat → lys} {rq : Nat → Nat → Int} {tq : Nat → Nat} (hN : 4 * n * n ≤ 144) (h : gtJ n w g zT d t u Sq rq tq z) (ht : t < 584) (hg : goF (wst u 77 d t) v d) (hs : stO v (z.2.2 + 2 * ib (crS (4 * n * n) (Sq d) (tS t : Int) (tK t)))) (hgo : ¬ goS (4 * n * n) (w 69) (Sq d) t) : gtJ n w g zT d (t + 1) v Sq rq tq (z.1, (z.2.1, z.2.2 + 2 * ib (crS (4 * n * n) (Sq d) (tS t : Int) (tK t)))) := by
  obtain ⟨a1, a2, a3, a4, a5⟩ := h.try_ hN hg hs
  obtain ⟨_, _, _, _, h5, h6, h7, h8, h9, h10⟩ := h
  refine ⟨a1, a2, a3, a4, h5, h6, h7, by omega, by rw [a5]; omega, ?_⟩
  rw [← h10, fini_next ht, lev3_no hgo]
theorem nx_box {R : Int} {N t : Nat} {F : Nat → Int} {S : lys} (hb : BOX R N S) (hc : CNS N F S) (hg : goS N F S t) : BOX (R + 5) N (nxS S t) ∧ CNS N F (nxS S t) := ⟨hb.trk (tSd t) (tDd t) hg.1, CNS.trk hb hc (tSd t) hg.2⟩
theorem lvO.down {n d t : Nat} {F : Nat → Int} {v v2 : wd} {Sq : Nat → lys} (hN : 4 * n * n ≤ 144) (h : lvO (4 * n * n) F v Sq d) (hg : goS (4 * n * n) F (Sq d) t) (hr : ∀ f, f < 4 * n * n → rS v (d + 1) f = nxS (Sq d) t f) (hm : msR (nxS (Sq d) t) v v2 (d + 1) 4 (4 * n * n)) : lvO (4 * n * n) F v2 (fun i => if i ≤ d then Sq i else nxS (Sq d) t) (d + 1) := by
  have h2 : lvO (4 * n * n) F v2 Sq d := h.c hN (fun o i a b _ => congrFun (hm.1 o (by omega) (by omega)) i) (fun i hi => hm.2.2 i (by omega))
  intro i hi
  by_cases z : i ≤ d
  · simp only [if_pos z]
    exact h2 i z
  · have e : i = d + 1 := by omega
    subst e
    simp only [if_neg z]
    obtain ⟨_, b, c, _⟩ := h d (Nat.le_refl d)
    obtain ⟨b2, c2⟩ := nx_box b c hg
    refine ⟨fun f hf => ?_, ?_, c2, fun s hs => hm.2.1 s hs⟩
    · rw [← hr f hf]
      simp only [rS]
      rw [hm.1 71 (by decide) (by decide), hm.1 72 (by decide) (by decide), hm.1 73 (by decide) (by decide)]
    · have e : (5 : Int) + 5 * ((d + 1 : Nat) : Int) = 5 + 5 * (d : Int) + 5 := by omega
      rw [e]; exact b2
theorem gtJ.down {n g d t : Nat} {w u v v2 : wd} {zT z : fin3} {Sq : Nat → lys} {rq : Nat → Nat → Int} {tq : Nat → Nat} (hN : 4 * n * n ≤ 144) (h : gtJ n w g zT d t u Sq rq tq z) (ht : t < 584) (hg : goF (wst u 77 d t) v d) (hs : stO v (z.2.2 + 2 * ib (crS (4 * n * n) (Sq d) (tS t : Int) (tK t)))) (hgo : goS (4 * n * n) (w 69) (Sq d) t) (hr : ∀ f, f < 4 * n * n → rS v (d + 1) f = nxS (Sq d) t f) (hm : msR (nxS (Sq d) t) v v2 (d + 1) 4 (4 * n * n)) (hd : d + 1 < g) : gtJ n w g zT (d + 1) 0 (wst v2 77 (d + 1) (-1)) (fun i => if i ≤ d then Sq i else nxS (Sq d) t) (fun i => if i ≤ d then rq i else w1 (rq d) d (t : Int)) (fun i => if i < d then tq i else t) (z.1, (z.2.1, z.2.2 + 2)) := by
  obtain ⟨a1, a2, a3, a4, a5⟩ := h.try_ hN hg hs
  obtain ⟨_, _, _, _, h5, h6, h7, h8, h9, h10⟩ := h
  have hl := a2.down hN hgo hr hm
  have e77 : v2 77 = v 77 := hm.1 77 (by decide) (by decide)
  have e54 : v2 54 = v 54 := hm.1 54 (by decide) (by decide)
  rw [ib_t hgo.1] at hs
  refine ⟨(a1.ms hm).at_ (by decide), hl.c hN (fun o i a b _ => congrFun (wst_ne (by omega)) i) (fun i _ => ⟨congrFun (wst_ne (by decide)) i, congrFun (wst_ne (by decide)) i⟩), ⟨fun i hi j hj => ?_, fun i hi => ?_⟩, ?_, ?_, h6, hd, by omega, by rw [wat]; rfl, ?_⟩
  · rw [wan (by omega), e77]
    by_cases z : i ≤ d
    · simp only [if_pos z]; exact a3.1 i z j hj
    · simp only [if_neg z, w1]
      by_cases z2 : j = d
      · subst z2; rw [if_pos rfl]; exact a5
      · rw [if_neg z2]; exact a3.1 d (Nat.le_refl d) j (by omega)
  · rw [wan (by omega), e77]
    by_cases z : i < d
    · simp only [if_pos z]; exact a3.2 i z
    · simp only [if_neg z]
      rw [show i = d by omega]
      exact ⟨a5, ht⟩
  · refine a4.c (z := (z.1, (z.2.1, _))) ?_ ?_ ?_ ?_
    · rw [wst_ne (by decide), e54]
    · rw [wst_ne (by decide), e54]
    · rw [wst_ne (by decide), hm.1 78 (by decide) (by decide)]
    · refine (hs.mono (by omega)).c ?_ ?_
      · rw [wst_ne (by decide), e54]
      · rw [wst_ne (by decide), hm.1 74 (by decide) (by decide)]
  · simp only [Nat.zero_le, if_true]; exact h5
  · rw [← h10, fini_next ht]
    have hx := fini_in (N := 4 * n * n) (F := w 69) (g := g) (Sq := fun i => if i ≤ d then Sq i else nxS (Sq d) t) (rq := fun i => if i ≤ d then rq i else w1 (rq d) d (t : Int)) (tq := fun i => if i < d then tq i else t) (d := d) (z := z) hd (by simp [show ¬ d + 1 ≤ d by omega]) (by simp [show ¬ d + 1 ≤ d by omega]) (by simpa using hgo)
    rw [hx]
    simp only [Nat.lt_irrefl, if_false]
    have hl3 : lev3 (4 * n * n) (w 69) g (fun i => if i ≤ d then Sq i else nxS (Sq d) t) (fun i => if i ≤ d then rq i else w1 (rq d) d (t : Int)) d t z = lev3 (4 * n * n) (w 69) g Sq rq d t z := by
      simp only [lev3, Nat.le_refl, if_true]
    rw [hl3]
    exact fini_c d _ _ (fun i hi => by simp only [if_pos hi]; exact ⟨trivial, trivial⟩) (fun i hi => by simp only [if_pos hi])
theorem gtJ.up {n g d : Nat} {w u : wd} {zT z : fin3} {Sq : Nat → lys} {rq : Nat → Nat → Int} {tq : Nat → Nat} {x : Int} (hN : 4 * n * n ≤ 144) (h : gtJ n w g zT (d + 1) 584 u Sq rq tq z) : gtJ n w g zT d (tq d + 1) (wst u 77 (d + 1) x) Sq rq tq z ∧ tq d < 584 := by
  obtain ⟨h1, h2, h3, h4, h5, h6, h7, h8, h9, h10⟩ := h
  have ht := h3.2 d (by omega)
  have hs := h4.1.c (u := wst u 77 (d + 1) x) (by rw [wst_ne (by decide)]) (by rw [wst_ne (by decide)])
  refine ⟨⟨h1.at_ (by decide), fun i hi => ?_, ⟨fun i hi j hj => ?_, fun i hi => ?_⟩, ?_, h5, h6, by omega, by omega, ?_, ?_⟩, ht.2⟩
  · obtain ⟨a, b, c, e⟩ := h2 i (by omega)
    refine ⟨fun f hf => ?_, b, c, fun s hs => ?_⟩
    · rw [← a f hf]
      simp only [rS]
      rw [wst_ne (by decide), wst_ne (by decide), wst_ne (by decide)]
    · rw [wst_ne (by decide), wst_ne (by decide)]; exact e s hs
  · rw [wan (by omega)]; exact h3.1 i (by omega) j hj
  · rw [wan (by omega)]; exact h3.2 i (by omega)
  · exact h4.c (z := z) (by rw [wst_ne (by decide)]) (by rw [wst_ne (by decide)]) (wst_ne (by decide)) hs
  · rw [wan (by omega), ht.1]; omega
  · rw [← h10, fini_pop]
theorem gtJ.last {n g : Nat} {w u : wd} {zT z : fin3} {Sq : Nat → lys} {rq : Nat → Nat → Int} {tq : Nat → Nat} {x : Int} (hN : 4 * n * n ≤ 144) (h : gtJ n w g zT 0 584 u Sq rq tq z) : fr7 w (wst u 77 0 x) ∧ lvO (4 * n * n) (w 69) (wst u 77 0 x) (fun _ => S0 n) 0 ∧ ctO (wst u 77 0 x) g zT ∧ zT.2.1 ≤ 3000 := by
  obtain ⟨h1, h2, h3, h4, h5, h6, h7, h8, h9, h10⟩ := h
  have hs := h4.1.c (u := wst u 77 0 x) (by rw [wst_ne (by decide)]) (by rw [wst_ne (by decide)])
  have e : z = zT := h10
  have h2' : lvO (4 * n * n) (w 69) u (fun _ => S0 n) 0 := fun i hi => by
    have := h2 i hi
    rw [show i = 0 by omega, h5] at this
    rw [show i = 0 by omega]
    exact this
  refine ⟨h1.at_ (by decide), h2'.c hN (fun o i a b _ => congrFun (wst_ne (by omega)) i) (fun i _ => ⟨congrFun (wst_ne (by decide)) i, congrFun (wst_ne (by decide)) i⟩), ?_, by rw [← e]; exact h6⟩
  rw [← e]
  exact h4.c (z := z) (by rw [wst_ne (by decide)]) (by rw [wst_ne (by decide)]) (wst_ne (by decide)) hs
/-- a row is whole -/
theorem gtJ.leaf {n g d t : Nat} {w u v v2 : wd} {zT z : fin3} {Sq : Nat → lys} {rq : Nat → Nat → Int} {tq : Nat → Nat} (hN : 4 * n * n ≤ 144) (h : gtJ n w g zT d t u Sq rq tq z) (ht : t < 584) (hg : goF (wst u 77 d t) v d) (hs : stO v (z.2.2 + 2 * ib (crS (4 * n * n) (Sq d) (tS t : Int) (tK t)))) (hgo : goS (4 * n * n) (w 69) (Sq d) t) (hm : msR (nxS (Sq d) t) v v2 (d + 1) 4 (4 * n * n)) (hd : d + 1 = g) (h3000 : z.2.1 + 1 ≤ 3000) : gtJ n w g zT d (t + 1) (wst (ctW (4 * n * n) (nxS (Sq d) t) (wst v2 54 30 (z.2.1 + 1)) g) 54 31 (z.1.1 + cutN (4 * n * n) (w 69) (nxS (Sq d) t))) Sq rq tq (lev3 (4 * n * n) (w 69) g Sq rq d t z) := by
  obtain ⟨a1, a2, a3, a4, a5⟩ := h.try_ hN hg hs
  obtain ⟨_, _, _, _, h5, h6, h7, h8, h9, h10⟩ := h
  rw [ib_t hgo.1] at hs
  rw [lev3_leaf hd hgo]
  obtain ⟨b1, b2, b3, b4, b5, b6⟩ := a4
  have q69 : wst v2 54 30 (z.2.1 + 1) 69 = w 69 := by rw [wst_ne (by decide), hm.1 69 (by decide) (by decide), a1.1 69 (by decide) (by decide)]
  have q31 : wst v2 54 30 (z.2.1 + 1) 54 31 = z.1.1 := by
    show (if 54 = 54 then w1 (v2 54) 30 _ else _) 31 = _
    rw [if_pos rfl, hm.1 54 (by decide) (by decide)]
    simp only [w1]
    exact b3
  have q77 : ∀ i, i < g → wst v2 54 30 (z.2.1 + 1) 77 i = w1 (rq d) d (t : Int) i := by
    intro i hi
    rw [wst_ne (by decide), hm.1 77 (by decide) (by decide)]
    simp only [w1]
    by_cases z2 : i = d
    · subst z2; rw [if_pos rfl]; exact a5
    · rw [if_neg z2]; exact a3.1 d (Nat.le_refl d) i (by omega)
  obtain ⟨W, hW⟩ : ∃ W, W = ctW (4 * n * n) (nxS (Sq d) t) (wst v2 54 30 (z.2.1 + 1)) g := ⟨_, rfl⟩
  have hWo : ∀ o, o ≠ 78 → W o = wst v2 54 30 (z.2.1 + 1) o := fun o ho => by
    rw [hW]; unfold ctW; split
    · rw [wst_ne ho, cpR_o ho]
    · rfl
  have hc := cutN_rg (4 * n * n) (w 69) (nxS (Sq d) t)
  rw [← hW]
  have E : ∀ o, o ≠ 78 → o ≠ 54 → o ≠ 75 → o ≠ 76 → wst W 54 31 (z.1.1 + cutN (4 * n * n) (w 69) (nxS (Sq d) t)) o = v o := fun o p1 p2 p3 p4 => by rw [wst_ne p2, hWo o p1, wst_ne p2, hm.1 o p3 p4]
  have E75 : ∀ o, o = 75 ∨ o = 76 → wst W 54 31 (z.1.1 + cutN (4 * n * n) (w 69) (nxS (Sq d) t)) o = v2 o := fun o p => by rw [wst_ne (by omega), hWo o (by omega), wst_ne (by omega)]
  have E54 : ∀ i, i ≠ 30 → i ≠ 31 → wst W 54 31 (z.1.1 + cutN (4 * n * n) (w 69) (nxS (Sq d) t)) 54 i = v 54 i := fun i p1 p2 => by
    show (if 54 = 54 then w1 (W 54) 31 _ else _) i = _
    rw [if_pos rfl, hWo 54 (by decide)]
    simp only [w1, if_neg p2]
    show (if 54 = 54 then w1 (v2 54) 30 _ else _) i = _
    rw [if_pos rfl, hm.1 54 (by decide) (by decide)]
    simp only [w1, if_neg p1]
  refine ⟨⟨fun o p1 p2 => ?_, fun i p1 p2 p3 p4 p5 p6 => ?_⟩, a2.c hN (fun o i p1 p2 _ => by rw [E o (by omega) (by omega) (by omega) (by omega)]) (fun i hi => ?_), a3.c (fun i hi => by rw [E 77 (by decide) (by decide) (by decide) (by decide)]), ⟨?_, ?_, ?_, ?_, ?_, ?_⟩, h5, h3000, h7, by omega, ?_, ?_⟩
  · rw [E o (by omega) p1 (by omega) (by omega)]; exact a1.1 o p1 p2
  · rw [E54 i p2 p3]; exact a1.2 i p1 p2 p3 p4 p5 p6
  · rw [E75 75 (Or.inl rfl), E75 76 (Or.inr rfl)]; exact hm.2.2 i (by omega)
  · exact (hs.mono (by show _ ≤ z.2.2 + 2; omega)).c (E54 25 (by decide) (by decide)) (E 74 (by decide) (by decide) (by decide) (by decide))
  · show (if 54 = 54 then w1 (W 54) 31 _ else _) 30 = z.2.1 + 1
    rw [if_pos rfl, hWo 54 (by decide)]
    simp only [w1]
    simp [wst, w1]
  · show (if 54 = 54 then w1 (W 54) 31 _ else _) 31 = _
    rw [if_pos rfl]
    simp only [w1, if_true]
    rfl
  · show 0 ≤ z.1.1 + cutN _ _ _
    have : 0 ≤ z.1.1 := b4
    omega
  · show z.1.1 + cutN _ _ _ ≤ 584 * (z.2.1 + 1)
    have : z.1.1 ≤ 584 * z.2.1 := b5
    omega
  · intro hp i hi
    have hp2 : 0 < z.1.1 + cutN (4 * n * n) (w 69) (nxS (Sq d) t) := hp
    have b4' : 0 ≤ z.1.1 := b4
    rw [wst_ne (by decide), hW]
    unfold ctW weiS
    rw [q69, q31]
    by_cases z2 : 0 < cutN (4 * n * n) (w 69) (nxS (Sq d) t) ∧ z.1.1 = 0
    · simp only [if_pos z2]
      show (if 78 = 78 then w1 (cpR _ g 78) g _ else _) i = _
      rw [if_pos rfl]
      simp only [w1]
      by_cases z3 : i = g
      · rw [if_pos z3, if_neg (by omega)]
      · rw [if_neg z3, if_pos (show i < g by omega)]
        unfold cpR
        rw [if_pos ⟨rfl, by omega⟩]
        have := q77 i (by omega)
        simp only [w1] at this
        exact this
    · simp only [if_neg z2]
      rw [wst_ne (by decide), hm.1 78 (by decide) (by decide)]
      exact b6 (by show 0 < z.1.1; omega) i hi
  · rw [E 77 (by decide) (by decide) (by decide) (by decide), a5]; omega
  · rw [← h10, fini_next ht, lev3_leaf hd hgo]
