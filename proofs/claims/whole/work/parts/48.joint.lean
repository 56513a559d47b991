/-! ===== the reference's fold, leaf by leaf ===== -/
section FOLM
variable {n q : Nat} {s L d ov : Int} {w : wd} {k : Nat}
theorem fol_p (hk : k < 4 * n * n) : pP (folM n q s L d ov w) 55 k = trS (pP w 55) s L d k := by
  have e : ∀ o, 55 ≤ o → o ≤ 57 → folM n q s L d ov w o k = fmM (4 * n * n) s L d ov w (foD n q s L d ov w) (4 * n * n) o k := fun o h1 h2 => by
    unfold folM
    rw [stM_o (by omega)]
  unfold trS trn
  by_cases z : ron s L d w k
  · rw [if_pos (show isOn (stp s (pP w 55 k)) L d from z)]
    obtain ⟨h1, h2, h3⟩ := fmM_v (ov := ov) (b := foD n q s L d ov w) hk z
    unfold pP
    rw [e 55 (by decide) (by decide), e 56 (by decide) (by decide), e 57 (by decide) (by decide), h1, h2, h3]
    rfl
  · rw [if_neg (show ¬ isOn (stp s (pP w 55 k)) L d from z)]
    have h : ¬ (k < 4 * n * n ∧ ron s L d w k) := fun y => z y.2
    unfold pP
    rw [e 55 (by decide) (by decide), e 56 (by decide) (by decide), e 57 (by decide) (by decide), fmM_ge h, fmM_ge h, fmM_ge h, foD_o (by omega), foD_o (by omega), foD_o (by omega)]
theorem fol_u (hk : k < 4 * n * n) : folM n q s L d ov w 59 k = fdU (pP w 55) s L d (w 59) k := by
  unfold folM
  rw [stM_o (by decide)]
  unfold fdU
  by_cases z : ron s L d w k
  · rw [if_pos (show mvS (pP w 55) s L d k from z)]
    unfold fmM
    rw [if_pos ⟨⟨by decide, by decide⟩, hk, z⟩]
    simp
  · rw [if_neg (show ¬ mvS (pP w 55) s L d k from z), fmM_ge (fun y => z y.2), foD_o (by omega)]
theorem fol_l0 (hk : k < 4 * n * n) : folM n q s L d ov w 58 k = if ron s L d w k then nwL (4 * n * n) s L d ov w k else if ov = 0 then w 58 k + sm (cmS s L d w k) (4 * n * n) else w 58 k := by
  unfold folM
  by_cases z : ron s L d w k
  · rw [stM_ge (fun y => y.2 z), if_pos z]
    unfold fmM
    rw [if_pos ⟨⟨by decide, by decide⟩, hk, z⟩]
    simp
  · rw [if_neg z]
    by_cases h0 : ov = 0
    · rw [if_pos h0]
      unfold stM
      rw [if_pos ⟨rfl, hk, z, h0⟩]
    · rw [if_neg h0]
      unfold stM
      rw [if_neg (fun y => h0 y.2.2.2), fmM_ge (fun y => z y.2), foD_o (by omega)]
theorem pl3 {a b c : Int} {p : pl} : (a = p.1 ∧ b = p.2.1 ∧ c = p.2.2) ↔ ((a, b, c) : pl) = p := by
  obtain ⟨x, y, z⟩ := p
  simp
theorem fol_l (hq : ∀ j, j < 4 * n * n → 0 ≤ (pP w 55 j).2.2 ∧ (pP w 55 j).2.2 ≤ 3) (hs : 0 ≤ s ∧ s ≤ 3) (hd : d = 0 ∨ d = 1) (hk : k < 4 * n * n) : folM n q s L d ov w 58 k = fdL (4 * n * n) (pP w 55) s L d ov (w 58) k := by
  rw [fol_l0 hk]
  unfold fdL
  by_cases z : ron s L d w k
  · have z2 : mvS (pP w 55) s L d k := z
    rw [if_pos z, if_pos z2]
    unfold nwL
    have e1 : sm (owS (4 * n * n) w k) (4 * n * n) = cnS (4 * n * n) (pP w 55) (pP w 55 k) := sm_c (fun j hj => by
      unfold owS
      exact ib_c (pl3 (p := pP w 55 k)))
    have e2 : sm (syS s L d w k) (4 * n * n) = cnS (4 * n * n) (pP w 55) (mir s L (pP w 55 k)) := sm_c (fun j hj => by
      unfold syS
      refine ib_c ?_
      have h1 := pl3 (a := w 55 j) (b := w 56 j) (c := w 57 j) (p := mir s L (pP w 55 k))
      constructor
      · intro y; exact h1.mp y.2
      · intro y
        refine ⟨fun r => ?_, h1.mpr y⟩
        have r2 : isOn (stp s (pP w 55 j)) L d := r
        have y2 : pP w 55 j = mir s L (pP w 55 k) := y
        rw [y2] at r2
        exact (on_mir hs hd (hq k hk)).mp r2 z)
    rw [e1, e2]
  · have z2 : ¬ mvS (pP w 55) s L d k := z
    rw [if_neg z, if_neg z2]
    have e2 : sm (cmS s L d w k) (4 * n * n) = cnS (4 * n * n) (pP w 55) (mir s L (pP w 55 k)) := sm_c (fun j hj => by
      unfold cmS
      refine ib_c ?_
      have h1 := pl3 (a := mirX s L (w 55 j) (w 56 j)) (b := mirY s L (w 55 j) (w 56 j)) (c := mirQ s (w 57 j)) (p := pP w 55 k)
      have m1 := mir_mir (k := L) hs (hq j hj)
      have m2 := mir_mir (k := L) hs (hq k hk)
      constructor
      · intro y
        have y2 : mir s L (pP w 55 j) = pP w 55 k := h1.mp y.2
        rw [← y2, m1]
      · intro y
        have y2 : pP w 55 j = mir s L (pP w 55 k) := y
        have y3 : mir s L (pP w 55 j) = pP w 55 k := by rw [y2, m2]
        refine ⟨?_, h1.mpr y3⟩
        show isOn (stp s (pP w 55 j)) L d
        rw [y2]
        exact (on_mir hs hd (hq k hk)).mpr z)
    rw [e2]
    split <;> omega
theorem fol_c {e : Nat} (hk : k < 4 * n * n) (he : e < 3) : folM n q s L d ov w 60 (3 * k + e) = crV n s L d ov w k e := by
  unfold folM
  rw [stM_o (by decide), fmM_o (by omega)]
  unfold foD
  rw [wst_ne (by decide)]
  unfold crM
  rw [if_pos ⟨rfl, by omega⟩, show (3 * k + e) / 3 = k by omega, show (3 * k + e) % 3 = e by omega]
theorem fol_cfar {i : Nat} (hi : 3 * (4 * n * n) ≤ i) : folM n q s L d ov w 60 i = w 60 i := by
  unfold folM
  rw [stM_o (by decide), fmM_o (by omega)]
  unfold foD
  rw [wst_ne (by decide)]
  unfold crM
  rw [if_neg (by omega), kepM_o (by omega), mvM_o (by decide)]
theorem fol_was {o : Nat} (ho : 61 ≤ o ∧ o ≤ 65) (hk : k < 4 * n * n) : folM n q s L d ov w o (144 * q + k) = w (o - 6) k := by
  unfold folM
  rw [stM_o (by omega), fmM_o (by omega), foD_was ho hk]
theorem fol_old {o i : Nat} (ho : 61 ≤ o ∧ o ≤ 66) (hi : (o ≤ 65 ∧ ¬ (144 * q ≤ i ∧ i < 144 * q + 4 * n * n)) ∨ (o = 66 ∧ ¬ (432 * q ≤ i ∧ i < 432 * q + 3 * (4 * n * n)))) : folM n q s L d ov w o i = w o i := by
  unfold folM
  rw [stM_o (by omega), fmM_o (by omega)]
  unfold foD
  rw [wst_ne (by omega), crM_o (by omega)]
  unfold kepM
  rw [if_neg (by omega), if_neg (by omega), mvM_o (by omega)]
theorem fol_66 {c : Nat} (hc : c < 3 * (4 * n * n)) : folM n q s L d ov w 66 (432 * q + c) = w 60 c := by
  unfold folM
  rw [stM_o (by omega), fmM_o (by omega)]
  unfold foD
  rw [wst_ne (by omega), crM_o (by omega)]
  unfold kepM
  rw [if_neg (by omega), if_pos ⟨rfl, by omega, by omega⟩, mvM_o (by omega), show 432 * q + c - 432 * q = c by omega]
theorem fol_o {o : Nat} (h : o < 54 ∨ 67 < o) : folM n q s L d ov w o = w o := by
  unfold folM
  rw [stM_o (by omega), fmM_o (by omega)]
  exact foD_o (by omega)
theorem fol_i {i : Nat} (h : i ≠ 8) : folM n q s L d ov w 54 i = w 54 i := by
  unfold folM
  rw [stM_o (by omega), fmM_o (by omega)]
  exact foD_i h
theorem fol_8 : folM n q s L d ov w 54 8 = (q : Int) + 1 := by
  unfold folM
  rw [stM_o (by omega), fmM_o (by omega)]
  unfold foD
  simp [wst, w1]
end FOLM
/-! ===== the joint invariant ===== -/
def JS (n m : Nat) (w : wd) : Prop := ShO n w ∧ w 54 1 = (n : Int) ∧ w 54 0 = 0 ∧ m ≤ 8 ∧ w 5 11 = (m : Int) ∧ w 54 8 = (m : Int) ∧ (1 ≤ w 0 6 ∧ w 0 6 ≤ 144) ∧ w 54 16 = w 0 6 ∧ (∀ i, i < 432 → 0 ≤ w 60 i ∧ w 60 i ≤ 2) ∧ (∀ i, i < 1152 → w 65 i = 0 ∨ w 65 i = 1) ∧ ∀ i, i < 3456 → 0 ≤ w 66 i ∧ w 66 i ≤ 2
def JP (n m : Nat) (w : wd) : Prop := GEO n m (pP w 6) (w 9) (w 10) (w 60) ∧ HTW (4 * n * n) w ∧ ∀ k, k < 4 * n * n → pP w 55 k = pP w 6 k ∧ w 58 k = w 9 k ∧ w 59 k = w 10 k
def JRi (n i : Nat) (w R : wd) : Prop := GEO n i (pP R 6) (R 9) (R 10) (fun j => w 66 (432 * i + j)) ∧ HTW (4 * n * n) R ∧ ∀ k, k < 4 * n * n → w 61 (144 * i + k) = R 6 k ∧ w 62 (144 * i + k) = R 7 k ∧ w 63 (144 * i + k) = R 8 k ∧ w 64 (144 * i + k) = R 9 k ∧ w 65 (144 * i + k) = R 10 k
def JR (n m : Nat) (w : wd) : Prop := (∀ o, 6 ≤ o → o ≤ 11 → redo (4 * n * n) (flatW n w) m o = w o) ∧ (∀ i, i < 8 → rg (w 12 i) ∧ rg (w 13 i) ∧ rg (w 14 i) ∧ (w 15 i = 0 ∨ w 15 i = 1)) ∧ ∀ i, i < m → JRi n i w (redo (4 * n * n) (flatW n w) i)
def JC (n : Nat) (w : wd) : Prop := FlO w ∧ LsO w ∧ (w 17 4 = 0 ∨ w 17 4 = 1) ∧ w 54 17 = w 17 4 ∧ (∀ k, k < 4 * n * n → w 68 k = w 18 k) ∧ (∀ k, k < 144 → w 68 k = 0 ∨ w 68 k = 1) ∧ w 17 5 = sm (w 18) (4 * n * n) ∧ Lab n (fun k => ib (w 18 k = 1)) (w 19)
def JF (n : Nat) (w : wd) : Prop := FgO w ∧ (∀ k, k < 144 → w 69 k = 0 ∨ w 69 k = 1) ∧ (∀ k, k < 4 * n * n → w 69 k = w 22 k) ∧ w 21 2 = sm (w 22) (4 * n * n)
theorem JS.c {n m : Nat} {w u : wd} (h : JS n m w) (e : ∀ o, (o ≤ 5 ∨ o = 60 ∨ o = 65 ∨ o = 66) → u o = w o) (ei : ∀ i, (i = 0 ∨ i = 1 ∨ i = 8 ∨ i = 16) → u 54 i = w 54 i) : JS n m u := by
  obtain ⟨h1, h2, h3, h4, h5, h6, h7, h8, h9, h10, h11⟩ := h
  refine ⟨h1.keep (fun o ho => e o (by omega)), ?_, ?_, h4, ?_, ?_, ?_, ?_, ?_, ?_, ?_⟩
  · rw [ei 1 (by omega)]; exact h2
  · rw [ei 0 (by omega)]; exact h3
  · rw [e 5 (by omega)]; exact h5
  · rw [ei 8 (by omega)]; exact h6
  · rw [e 0 (by omega)]; exact h7
  · rw [ei 16 (by omega), e 0 (by omega)]; exact h8
  · rw [e 60 (by omega)]; exact h9
  · rw [e 65 (by omega)]; exact h10
  · rw [e 66 (by omega)]; exact h11
theorem pP_c {w u : wd} {a : Nat} (h0 : u a = w a) (h1 : u (a + 1) = w (a + 1)) (h2 : u (a + 2) = w (a + 2)) : pP u a = pP w a := by
  unfold pP
  rw [h0, h1, h2]
theorem HTW.c {N : Nat} {w u : wd} (h : HTW N w) (e : ∀ o, (6 ≤ o ∧ o ≤ 11) → u o = w o) : HTW N u := by
  intro s hs
  have h1 := h s hs
  unfold psp at h1 ⊢
  rw [e 11 (by omega), e 6 (by omega), e 7 (by omega), e 8 (by omega)]
  exact h1
theorem JP.c {n m : Nat} {w u : wd} (h : JP n m w) (e : ∀ o, ((6 ≤ o ∧ o ≤ 11) ∨ (55 ≤ o ∧ o ≤ 60)) → u o = w o) : JP n m u := by
  obtain ⟨h1, h2, h3⟩ := h
  refine ⟨?_, h2.c (fun o ho => e o (Or.inl ho)), ?_⟩
  · rw [pP_c (e 6 (by omega)) (e 7 (by omega)) (e 8 (by omega)), e 9 (by omega), e 10 (by omega), e 60 (by omega)]
    exact h1
  · rw [pP_c (e 6 (by omega)) (e 7 (by omega)) (e 8 (by omega)), pP_c (e 55 (by omega)) (e 56 (by omega)) (e 57 (by omega)), e 9 (by omega), e 10 (by omega), e 58 (by omega), e 59 (by omega)]
    exact h3
theorem JRi.c {n i : Nat} {w u R Q : wd} (h : JRi n i w R) (e : ∀ o j, (61 ≤ o ∧ o ≤ 65) → j < 4 * n * n → u o (144 * i + j) = w o (144 * i + j)) (e6 : ∀ j, j < 3 * (4 * n * n) → u 66 (432 * i + j) = w 66 (432 * i + j)) (r : ∀ o, 6 ≤ o → o ≤ 11 → Q o = R o) : JRi n i u Q := by
  obtain ⟨h1, h2, h3⟩ := h
  have r6 := r 6 (by decide) (by decide)
  have r7 := r 7 (by decide) (by decide)
  have r8 := r 8 (by decide) (by decide)
  have r9 := r 9 (by decide) (by decide)
  have r10 := r 10 (by decide) (by decide)
  refine ⟨?_, h2.c (fun o ho => r o ho.1 ho.2), fun k hk => ?_⟩
  · rw [pP_c r6 r7 r8, r9, r10]
    exact h1.c (fun k hk => ⟨rfl, rfl, rfl⟩) (fun k e9 hk he => e6 _ (by omega))
  · rw [e 61 k (by omega) hk, e 62 k (by omega) hk, e 63 k (by omega) hk, e 64 k (by omega) hk, e 65 k (by omega) hk, r6, r7, r8, r9, r10]
    exact h3 k hk
theorem flat_c {n : Nat} {u v : wd} (e : ∀ o, 6 ≤ o → o ≤ 11 → u o = v o) : ∀ o, 6 ≤ o → o ≤ 11 → flatW n u o = flatW n v o := flat_of (fun o k a b _ => congrFun (e o a (by omega)) k) (fun s _ => congrFun (e 11 (by decide) (by decide)) s)
theorem JR.c {n m : Nat} {w u : wd} (h : JR n m w) (hm : m ≤ 8) (e : ∀ o, ((6 ≤ o ∧ o ≤ 15) ∨ (61 ≤ o ∧ o ≤ 66)) → u o = w o) : JR n m u := by
  obtain ⟨h1, h2, h3⟩ := h
  have hr : ∀ i, i ≤ m → ∀ o, 6 ≤ o → o ≤ 11 → redo (4 * n * n) (flatW n u) i o = redo (4 * n * n) (flatW n w) i o := redo_c (flat_c (fun o a b => e o (Or.inl (by omega)))) (fun o i a b _ => by rw [flatW_o (by omega), flatW_o (by omega), e o (Or.inl (by omega))])
  refine ⟨fun o a b => by rw [hr m (Nat.le_refl m) o a b, e o (Or.inl (by omega))]; exact h1 o a b, ?_, fun i hi => (h3 i hi).c (fun o j ho _ => by rw [e o (Or.inr (by omega))]) (fun j _ => by rw [e 66 (Or.inr (by omega))]) (hr i (by omega))⟩
  rw [e 12 (by omega), e 13 (by omega), e 14 (by omega), e 15 (by omega)]
  exact h2
theorem JC.c {n : Nat} {w u : wd} (h : JC n w) (e : ∀ o, (17 ≤ o ∧ o ≤ 19) ∨ o = 68 → u o = w o) (ei : u 54 17 = w 54 17) : JC n u := by
  obtain ⟨h1, h2, h3, h4, h5, h6, h7, h8⟩ := h
  unfold JC FlO LsO
  rw [e 17 (by omega), e 18 (by omega), e 19 (by omega), e 68 (by omega), ei]
  exact ⟨h1, h2, h3, h4, h5, h6, h7, h8⟩
theorem JF.c {n : Nat} {w u : wd} (h : JF n w) (e : ∀ o, o = 21 ∨ o = 22 ∨ o = 69 → u o = w o) : JF n u := by
  obtain ⟨h1, h2, h3, h4⟩ := h
  unfold JF FgO
  rw [e 21 (by omega), e 22 (by omega), e 69 (by omega)]
  exact ⟨h1, h2, h3, h4⟩
