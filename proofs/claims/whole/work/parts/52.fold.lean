/-! ===== fold, unfold, sheet, cut ===== -/
section FOLDS
variable {n m : Nat} {w : wd} {s L d ov : Int}
theorem add_o {N : Nat} {o : Nat} (h : o < 5 ∨ 15 < o) : addW N m s L d ov w o = w o := by
  unfold addW putF
  rw [turW_o (by omega), wst_ne (by omega), wst_ne (by omega), wst_ne (by omega), wst_ne (by omega), wst_ne (by omega)]
theorem add_5 {N : Nat} : addW N m s L d ov w 5 11 = (m : Int) + 1 := by
  unfold addW
  rw [turW_o (by omega)]
  simp [wst, w1]
theorem add_r {N : Nat} : ∀ o, 6 ≤ o → o ≤ 11 → addW N m s L d ov w o = turW N s L d ov w o := by
  intro o h1 h2
  unfold addW putF
  exact tur_c (fun o a b => by rw [wst_ne (by omega), wst_ne (by omega), wst_ne (by omega), wst_ne (by omega), wst_ne (by omega)]) o h1 h2
theorem add_f {N : Nat} : addW N m s L d ov w 12 = w1 (w 12) m s ∧ addW N m s L d ov w 13 = w1 (w 13) m L ∧ addW N m s L d ov w 14 = w1 (w 14) m d ∧ addW N m s L d ov w 15 = w1 (w 15) m ov := by
  unfold addW putF
  refine ⟨?_, ?_, ?_, ?_⟩ <;> rw [turW_o (by omega)] <;> simp [wst]
theorem on_side {x k d : Int} (hd : d = 0 ∨ d = 1) : isOn x k d ↔ (if d = 0 then x < k else k ≤ x) := by
  rcases hd with rfl | rfl <;> simp [isOn]
/-- the class's and the reference's word for a line that crosses -/
theorem crossed {N : Nat} {w : wd} {s L : Int} (h : 0 < sm (fun k => ib (pon s L 0 w k)) N ∧ sm (fun k => ib (pon s L 0 w k)) N < (N : Int)) : crS N (pP w 6) s L := by
  constructor
  · by_cases z : ∃ f, f < N ∧ stp s (pP w 6 f) < L
    · exact z
    · exfalso
      have := sm_none (P := fun k => pon s L 0 w k) N (fun k hk y => z ⟨k, hk, by have y2 : isOn (stp s (pP w 6 k)) L 0 := y; simp only [isOn] at y2; omega⟩)
      omega
  · by_cases z : ∃ f, f < N ∧ L ≤ stp s (pP w 6 f)
    · exact z
    · exfalso
      have e : sm (fun k => ib (pon s L 0 w k)) N = sm (fun _ => 1) N := sm_c (fun k hk => ib_t (by
        show isOn (stp s (pP w 6 k)) L 0
        by_cases y : L ≤ stp s (pP w 6 k)
        · exact absurd ⟨k, hk, y⟩ z
        · exact Or.inl ⟨rfl, by omega⟩))
      have e1 : ∀ M : Nat, sm (fun _ => (1 : Int)) M = (M : Int) := fun M => by
        induction M with
        | zero => rfl
        | succ M ih => rw [sm_s, ih]; omega
      rw [e, e1] at h
      omega
theorem sm_compl {P Q : Nat → Prop} [DecidablePred P] [DecidablePred Q] : ∀ N, (∀ k, k < N → (Q k ↔ ¬ P k)) → sm (fun k => ib (Q k)) N = (N : Int) - sm (fun k => ib (P k)) N
  | 0, _ => rfl
  | N + 1, h => by
    rw [sm_s, sm_s, sm_compl N (fun k hk => h k (by omega))]
    have := h N (by omega)
    by_cases z : P N
    · rw [ib_t z, ib_f (fun y => this.mp y z)]; omega
    · rw [ib_f z, ib_t (this.mpr z)]; omega
theorem crossed_ron {n m : Nat} {w : wd} {s L d : Int} (h2 : JP n m w) (hd : d = 0 ∨ d = 1) : (0 < sm (fun k => ib (ron s L d w k)) (4 * n * n) ∧ sm (fun k => ib (ron s L d w k)) (4 * n * n) < ((4 * n * n : Nat) : Int)) ↔ (0 < sm (fun k => ib (pon s L 0 w k)) (4 * n * n) ∧ sm (fun k => ib (pon s L 0 w k)) (4 * n * n) < ((4 * n * n : Nat) : Int)) := by
  have e0 : ∀ k, k < 4 * n * n → (ron s L d w k ↔ pon s L d w k) := fun k hk => by
    obtain ⟨e1, e2, e3, -⟩ := h2.xyz hk
    unfold pon pst ron rst
    rw [e1, e2, e3]
  rcases hd with rfl | rfl
  · rw [sm_c (fun k hk => ib_c (e0 k hk))]
  · have e9 := sm_compl (P := fun k => pon s L 0 w k) (Q := fun k => ron s L 1 w k) (4 * n * n) (fun k hk => by
      have p1 : pon s L 1 w k ↔ L ≤ pst s w k := ⟨fun h => h.elim (fun q => absurd q.1 (by decide)) (fun q => q.2), fun h => Or.inr ⟨by decide, h⟩⟩
      have p0 : pon s L 0 w k ↔ pst s w k < L := ⟨fun h => h.elim (fun q => q.2) (fun q => absurd rfl q.1), fun h => Or.inl ⟨rfl, h⟩⟩
      rw [e0 k hk, p1, p0]
      omega)
    rw [e9]
    omega
/-- redoing the kept folds over a world whose pile was turned once more -/
theorem redo_add (h3 : JR n m w) (i : Nat) (hi : i ≤ m) : ∀ o, 6 ≤ o → o ≤ 11 → redo (4 * n * n) (flatW n (addW (4 * n * n) m s L d ov w)) i o = redo (4 * n * n) (flatW n w) i o := by
  refine redo_c (M := m) ?_ ?_ i hi
  · refine flat_of (fun o k a b c => ?_) (fun t ht => ?_)
    · rw [add_r o a (by omega), tur_far (Or.inl ⟨by omega, c⟩)]
    · rw [add_r 11 (by omega) (by omega), tur_far (Or.inr ⟨rfl, ht⟩)]
  · intro o j a b c
    rw [flatW_o (by omega), flatW_o (by omega)]
    obtain ⟨f1, f2, f3, f4⟩ := add_f (m := m) (w := w) (s := s) (L := L) (d := d) (ov := ov) (N := 4 * n * n)
    have q : ∀ (f : Nat → Int) (x : Int), w1 f m x j = f j := fun f x => by unfold w1; rw [if_neg (by omega)]
    rcases (by omega : o = 12 ∨ o = 13 ∨ o = 14 ∨ o = 15) with rfl | rfl | rfl | rfl
    · rw [f1, q]
    · rw [f2, q]
    · rw [f3, q]
    · rw [f4, q]
set_option maxHeartbeats 1000000 in
/-- a fold that is made: the invariant behind it -/
theorem fold_ok (h1 : JS n m w) (h2 : JP n m w) (h3 : JR n m w) (h4 : JC n w) (h5 : JF n w) (hm : m < 8) (hl : isLine s L) (hd : d = 0 ∨ d = 1) (ho : ov = 0 ∨ ov = 1) (hcx : crS (4 * n * n) (pP w 6) s L) {u : wd} (hu : u = folM n m s L d ov (addW (4 * n * n) m s L d ov w)) : JS n (m + 1) u ∧ JP n (m + 1) u ∧ JR n (m + 1) u ∧ JC n u ∧ JF n u := by
  have hn := h1.nr
  have hN := nn_le hn.2
  have hs := hl.1
  obtain ⟨v, hv⟩ : ∃ v, v = addW (4 * n * n) m s L d ov w := ⟨_, rfl⟩
  rw [← hv] at hu
  have vo : ∀ o, (o < 5 ∨ 15 < o) → v o = w o := fun o h => by rw [hv]; exact add_o h
  have vr : ∀ o, 6 ≤ o → o ≤ 11 → v o = turW (4 * n * n) s L d ov w o := fun o a b => by rw [hv]; exact add_r o a b
  have uo : ∀ o, (o < 54 ∨ 67 < o) → u o = v o := fun o h => by rw [hu]; exact fol_o h
  have v55 : pP v 55 = pP w 55 := pP_c (vo 55 (by omega)) (vo 56 (by omega)) (vo 57 (by omega))
  have hq : ∀ j, j < 4 * n * n → 0 ≤ (pP v 55 j).2.2 ∧ (pP v 55 j).2.2 ≤ 3 := fun j hj => by
    rw [v55, (h2.2.2 j hj).1]; exact (h2.1.1.1 j hj).2.2
  have S55 : ∀ k, k < 4 * n * n → pP w 55 k = pP w 6 k := fun k hk => (h2.2.2 k hk).1
  have cn55 : ∀ p, cnS (4 * n * n) (pP w 55) p = cnS (4 * n * n) (pP w 6) p := fun p => sm_c (fun j hj => by rw [S55 j hj])
  -- the pile of the class
  have cS : ∀ k, k < 4 * n * n → pP u 6 k = trS (pP w 6) s L d k ∧ u 9 k = fdL (4 * n * n) (pP w 6) s L d ov (w 9) k ∧ u 10 k = fdU (pP w 6) s L d (w 10) k := fun k hk => by
    have e := tur_at (N := 4 * n * n) (s := s) (L := L) (d := d) (ov := ov) (w := w) hk
    have e6 : pP u 6 = pP (turW (4 * n * n) s L d ov w) 6 := pP_c ((uo 6 (by omega)).trans (vr 6 (by omega) (by omega))) ((uo 7 (by omega)).trans (vr 7 (by omega) (by omega))) ((uo 8 (by omega)).trans (vr 8 (by omega) (by omega)))
    rw [e6, uo 9 (by omega), vr 9 (by omega) (by omega), uo 10 (by omega), vr 10 (by omega) (by omega)]
    exact ⟨e.1, e.2.1.trans (lay_fd h2.1 h2.2.1 hs hcx hk), e.2.2⟩
  -- the reference's
  have rS9 : ∀ k, k < 4 * n * n → pP u 55 k = trS (pP w 6) s L d k ∧ u 58 k = fdL (4 * n * n) (pP w 6) s L d ov (w 9) k ∧ u 59 k = fdU (pP w 6) s L d (w 10) k := fun k hk => by
    obtain ⟨-, e2, e3⟩ := h2.2.2 k hk
    have hmv : mvS (pP w 55) s L d k ↔ mvS (pP w 6) s L d k := by unfold mvS; rw [S55 k hk]
    refine ⟨?_, ?_, ?_⟩
    · rw [hu, fol_p hk, v55]; unfold trS; rw [S55 k hk]
    · rw [hu, fol_l hq hs hd hk, v55, vo 58 (by omega)]
      unfold fdL
      by_cases z : mvS (pP w 6) s L d k
      · rw [if_pos (hmv.mpr z), if_pos z, cn55, cn55, S55 k hk, e2]
      · rw [if_neg (fun y => z (hmv.mp y)), if_neg z, cn55, S55 k hk, e2]
    · rw [hu, fol_u hk, v55, vo 59 (by omega)]
      unfold fdU
      by_cases z : mvS (pP w 6) s L d k
      · rw [if_pos (hmv.mpr z), if_pos z, e3]
      · rw [if_neg (fun y => z (hmv.mp y)), if_neg z, e3]
  have rv : ∀ k, k < 4 * n * n → (ron s L d v k ↔ mvS (pP w 6) s L d k) := fun k hk => by
    have : ron s L d v k ↔ mvS (pP v 55) s L d k := Iff.rfl
    rw [this, v55]; unfold mvS; rw [S55 k hk]
  have uc : ∀ k e, k < 4 * n * n → e < 3 → u 60 (3 * k + e) = crV n s L d ov v k e := fun k e hk he => by rw [hu]; exact fol_c hk he
  have geo := h2.1.fold (ov := ov) (cr2 := u 60) hs hd ho hcx (fun k e g hk he hg hnb => by
    rw [uc k e hk he]
    unfold crV
    have hc : crC n s L d v k e ↔ ib (mvS (pP w 6) s L d k) ≠ ib (mvS (pP w 6) s L d g) := by
      unfold crC
      rw [hnb, Int.toNat_natCast, ib_c (rv k hk), ib_c (rv g hg)]
      exact ⟨fun y => y.2, fun y => ⟨by omega, y⟩⟩
    rw [vo 59 (by omega), vo 60 (by omega), (h2.xyz hk).2.2.2.2]
    by_cases z : crC n s L d v k e
    · rw [if_pos z, if_pos (hc.mp z)]
    · rw [if_neg z, if_neg (fun y => z (hc.mpr y))])
  have u60 : ∀ i, i < 432 → 0 ≤ u 60 i ∧ u 60 i ≤ 2 := fun i hi => by
    by_cases z : i < 3 * (4 * n * n)
    · have e := uc (i / 3) (i % 3) (by omega) (by omega)
      rw [show 3 * (i / 3) + i % 3 = i by omega] at e
      rw [e]
      unfold crV
      split
      · split <;> omega
      · rw [show 3 * (i / 3) + i % 3 = i by omega, vo 60 (by omega)]
        exact h1.2.2.2.2.2.2.2.2.1 i hi
    · rw [hu, fol_cfar (by omega), vo 60 (by omega)]
      exact h1.2.2.2.2.2.2.2.2.1 i hi
  refine ⟨⟨h1.1.keep (fun o h => (uo o (by omega)).trans (vo o (by omega))), ?_, ?_, by omega, ?_, ?_, ?_, ?_, u60, ?_, ?_⟩, ⟨?_, ?_, fun k hk => ?_⟩, ⟨?_, ?_, ?_⟩, ?_, ?_⟩
  · rw [hu, fol_i (by decide), vo 54 (by omega)]; exact h1.2.1
  · rw [hu, fol_i (by decide), vo 54 (by omega)]; exact h1.2.2.1
  · rw [uo 5 (by omega), hv, add_5]; omega
  · rw [hu, fol_8]; omega
  · rw [uo 0 (by omega), vo 0 (by omega)]; exact h1.2.2.2.2.2.2.1
  · rw [uo 0 (by omega), vo 0 (by omega), hu, fol_i (by decide), vo 54 (by omega)]; exact h1.2.2.2.2.2.2.2.1
  · intro i hi
    by_cases z : 144 * m ≤ i ∧ i < 144 * m + 4 * n * n
    · have e := fol_was (n := n) (q := m) (s := s) (L := L) (d := d) (ov := ov) (w := v) (k := i - 144 * m) (o := 65) (by omega) (by omega)
      rw [show 144 * m + (i - 144 * m) = i by omega, ← hu] at e
      rw [e]
      show v 59 (i - 144 * m) = 0 ∨ v 59 (i - 144 * m) = 1
      rw [vo 59 (by omega), (h2.xyz (k := i - 144 * m) (by omega)).2.2.2.2]
      exact h2.1.2.2.2.1 _ (by omega)
    · rw [hu, fol_old (by omega) (Or.inl ⟨by omega, z⟩), vo 65 (by omega)]
      exact h1.2.2.2.2.2.2.2.2.2.1 i hi
  · intro i hi
    by_cases z : 432 * m ≤ i ∧ i < 432 * m + 3 * (4 * n * n)
    · have e := fol_66 (n := n) (q := m) (s := s) (L := L) (d := d) (ov := ov) (w := v) (c := i - 432 * m) (by omega)
      rw [show 432 * m + (i - 432 * m) = i by omega, ← hu] at e
      rw [e, vo 60 (by omega)]
      exact h1.2.2.2.2.2.2.2.2.1 _ (by omega)
    · rw [hu, fol_old (by omega) (Or.inr ⟨rfl, z⟩), vo 66 (by omega)]
      exact h1.2.2.2.2.2.2.2.2.2.2 i hi
  · exact geo.c (fun k hk => cS k hk) (fun _ _ _ _ => rfl)
  · have : HTW (4 * n * n) (turW (4 * n * n) s L d ov w) := mes_ht
    exact this.c (fun o h => (uo o (by omega)).trans (vr o h.1 h.2))
  · obtain ⟨a1, a2, a3⟩ := cS k hk
    obtain ⟨b1, b2, b3⟩ := rS9 k hk
    exact ⟨b1.trans a1.symm, b2.trans a2.symm, b3.trans a3.symm⟩
  · -- redone, all folds
    intro o a b
    have hc1 : ∀ i, i ≤ m + 1 → ∀ o, 6 ≤ o → o ≤ 11 → redo (4 * n * n) (flatW n u) i o = redo (4 * n * n) (flatW n v) i o := redo_c (flat_c (fun o a b => uo o (by omega))) (fun o i a b _ => by rw [flatW_o (by omega), flatW_o (by omega), uo o (by omega)])
    rw [hc1 (m + 1) (Nat.le_refl _) o a b, uo o (by omega), vr o a b]
    show turW (4 * n * n) (flatW n v 12 m) (flatW n v 13 m) (flatW n v 14 m) (flatW n v 15 m) (redo (4 * n * n) (flatW n v) m) o = _
    obtain ⟨f1, f2, f3, f4⟩ := add_f (m := m) (w := w) (s := s) (L := L) (d := d) (ov := ov) (N := 4 * n * n)
    rw [← hv] at f1 f2 f3 f4
    rw [flatW_o (by omega), flatW_o (by omega), flatW_o (by omega), flatW_o (by omega), f1, f2, f3, f4]
    have q : ∀ (f : Nat → Int) (x : Int), w1 f m x m = x := fun f x => by unfold w1; rw [if_pos rfl]
    rw [q, q, q, q]
    refine tur_c (fun o a b => ?_) o a b
    rw [hv, redo_add h3 m (Nat.le_refl m) o a b]
    exact h3.1 o a b
  · intro i hi
    obtain ⟨f1, f2, f3, f4⟩ := add_f (m := m) (w := w) (s := s) (L := L) (d := d) (ov := ov) (N := 4 * n * n)
    rw [← hv] at f1 f2 f3 f4
    rw [uo 12 (by omega), uo 13 (by omega), uo 14 (by omega), uo 15 (by omega), f1, f2, f3, f4]
    have h9 := h3.2.1 i hi
    unfold w1
    by_cases z : i = m
    · rw [if_pos z, if_pos z, if_pos z, if_pos z]
      exact ⟨by omega, by omega, by omega, ho⟩
    · rw [if_neg z, if_neg z, if_neg z, if_neg z]
      exact h9
  · -- kept states
    intro i hi
    have hc1 : ∀ i, i ≤ m → ∀ o, 6 ≤ o → o ≤ 11 → redo (4 * n * n) (flatW n u) i o = redo (4 * n * n) (flatW n w) i o := fun i hi o a b => by
      rw [redo_c (flat_c (fun o a b => uo o (by omega))) (fun o j a b _ => by rw [flatW_o (by omega), flatW_o (by omega), uo o (by omega)]) (M := m) i hi o a b, hv]
      exact redo_add h3 i hi o a b
    rcases Nat.lt_succ_iff_lt_or_eq.mp hi with z | z
    · refine (h3.2.2 i z).c (fun o j ho9 hj => ?_) (fun j hj => ?_) (hc1 i (by omega))
      · rw [hu, fol_old (by omega) (Or.inl ⟨by omega, by omega⟩), vo o (by omega)]
      · rw [hu, fol_old (by omega) (Or.inr ⟨rfl, by omega⟩), vo 66 (by omega)]
    · subst z
      have hw : JRi n i u w := by
        refine ⟨h2.1.c (fun k hk => ⟨rfl, rfl, rfl⟩) (fun k e hk he => ?_), h2.2.1, fun k hk => ?_⟩
        · show u 66 (432 * i + (3 * k + e)) = w 60 (3 * k + e)
          rw [hu, fol_66 (by omega), vo 60 (by omega)]
        · obtain ⟨x1, x2, x3, x4, x5⟩ := h2.xyz hk
          have e : ∀ o, 61 ≤ o → o ≤ 65 → u o (144 * i + k) = w (o - 6) k := fun o a b => by
            rw [hu, fol_was ⟨a, b⟩ hk, vo (o - 6) (by omega)]
          rw [e 61 (by omega) (by omega), e 62 (by omega) (by omega), e 63 (by omega) (by omega), e 64 (by omega) (by omega), e 65 (by omega) (by omega)]
          exact ⟨x1, x2, x3, x4, x5⟩
      exact hw.c (fun _ _ _ _ => rfl) (fun _ _ => rfl) (fun o a b => (hc1 i (Nat.le_refl i) o a b).trans (h3.1 o a b))
  · exact h4.c (fun o h => (uo o (by omega)).trans (vo o (by omega))) (by rw [hu, fol_i (by decide), vo 54 (by omega)])
  · exact h5.c (fun o h => (uo o (by omega)).trans (vo o (by omega)))
end FOLDS
