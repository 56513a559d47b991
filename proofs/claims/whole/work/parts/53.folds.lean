/-! ===== the calls that change the sheet ===== -/
theorem wst_at {w : wd} {k j i : Nat} {a : Int} (h : i ≠ j) : wst w k j a k i = w k i := by simp [wst, w1, h]
theorem geo_plo {n i : Nat} {R : wd} {l cr : Nat → Int} (h : GEO n i (pP R 6) l (R 10) cr) (hi : i ≤ 8) : PlO (4 * n * n) R := fun k hk => by
  obtain ⟨⟨a, b⟩, ⟨c, d⟩, ⟨e, f⟩⟩ := h.1.1 k hk
  have a : -(5 + 5 * (i : Int)) ≤ R 6 k := a
  have b : R 6 k ≤ 5 + 5 * (i : Int) := b
  have c : -(5 + 5 * (i : Int)) ≤ R 7 k := c
  have d : R 7 k ≤ 5 + 5 * (i : Int) := d
  have e : 0 ≤ R 8 k := e
  have f : R 8 k ≤ 3 := f
  have h2 := h.2.2.2.1 k hk
  unfold PlK
  omega
theorem JE.mk {n m : Nat} {w : wd} (h : JS n m w ∧ JP n m w ∧ JR n m w ∧ JC n w ∧ JF n w) : JE n w := ⟨m, h⟩
theorem sc3.je {n : Nat} {w u : wd} (h : JE n w) (s : sc3 w u) : JE n u := h.c (fun o ho => s.1 o (by omega)) (fun i hi => s.2 i (by omega))
section UNF
variable {n q : Nat} {w : wd}
theorem unf_r (hp : ∀ o, 6 ≤ o → o ≤ 11 → redo (4 * n * n) (flatW n w) (q + 1) o = w o) {x : Int} (i : Nat) : ∀ o, 6 ≤ o → o ≤ 11 → redo (4 * n * n) (flatW n (wst w 5 11 x)) i o = redo (4 * n * n) (flatW n w) i o := redo_c (M := i) (flat_c (fun o a b => wst_ne (by omega))) (fun o j a b _ => by rw [flatW_o (by omega), flatW_o (by omega), wst_ne (by omega)]) i (Nat.le_refl i)
theorem unf_ok (h1 : JS n (q + 1) w) (h2 : JP n (q + 1) w) (h3 : JR n (q + 1) w) (h4 : JC n w) (h5 : JF n w) {v u : wd} (hv : v = redo (4 * n * n) (flatW n (wst w 5 11 q)) q) (hu : u = unfM (wst v 54 8 q) q (4 * n * n) (3 * (4 * n * n))) : JS n q u ∧ JP n q u ∧ JR n q u ∧ JC n u ∧ JF n u := by
  have hn := h1.nr
  have hN := nn_le hn.2
  have hq8 := h1.2.2.2.1
  have vo : ∀ o, (o < 5 ∨ 11 < o) → v o = w o := fun o h => by rw [hv, redo_o (by omega), flatW_o (by omega), wst_ne (by omega)]
  have v5 : v 5 11 = (q : Int) := by rw [hv, redo_o (by omega), flatW_o (by omega)]; simp [wst, w1]
  have vr : ∀ o, 6 ≤ o → o ≤ 11 → v o = redo (4 * n * n) (flatW n w) q o := fun o a b => by rw [hv]; exact unf_r h3.1 q o a b
  have uo : ∀ o, (o < 54 ∨ 60 < o) → u o = v o := fun o h => by rw [hu, unfM_o (by omega), wst_ne (by omega)]
  have u54 : ∀ i, i ≠ 8 → u 54 i = v 54 i := fun i h => by rw [hu, unfM_o (by omega)]; simp [wst, w1, h]
  have u8 : u 54 8 = (q : Int) := by rw [hu, unfM_o (by omega)]; simp [wst, w1]
  have up : ∀ o k, 55 ≤ o → o ≤ 59 → k < 4 * n * n → u o k = w (o + 6) (144 * q + k) := fun o k a b c => by
    rw [hu]
    unfold unfM
    rw [if_pos ⟨⟨a, b⟩, c⟩, wst_ne (by omega), vo _ (by omega)]
  have u60 : ∀ c, c < 3 * (4 * n * n) → u 60 c = w 66 (432 * q + c) := fun c h => by
    rw [hu]
    unfold unfM
    rw [if_neg (by omega), if_pos ⟨rfl, h⟩, wst_ne (by omega), vo _ (by omega)]
  have u60f : ∀ c, 3 * (4 * n * n) ≤ c → u 60 c = w 60 c := fun c h => by
    rw [hu]
    unfold unfM
    rw [if_neg (by omega), if_neg (by omega), wst_ne (by omega), vo _ (by omega)]
  obtain ⟨g1, g2, g3⟩ := h3.2.2 q (by omega)
  have ur : ∀ o, 6 ≤ o → o ≤ 11 → u o = redo (4 * n * n) (flatW n w) q o := fun o a b => (uo o (by omega)).trans (vr o a b)
  have hfl : ∀ o, 6 ≤ o → o ≤ 11 → flatW n u o = flatW n w o := flat_of (fun o k a b c => by rw [ur o a (by omega), redo_far (Or.inl ⟨by omega, c⟩), flat_far (Or.inl ⟨by omega, c⟩)]) (fun t ht => by rw [ur 11 (by omega) (by omega), redo_far (Or.inr ⟨rfl, ht⟩), flat_far (Or.inr ⟨rfl, ht⟩)])
  have hrd : ∀ i, ∀ o, 6 ≤ o → o ≤ 11 → redo (4 * n * n) (flatW n u) i o = redo (4 * n * n) (flatW n w) i o := fun i => redo_c (M := i) hfl (fun o j a b _ => by rw [flatW_o (by omega), flatW_o (by omega), uo o (by omega), vo o (by omega)]) i (Nat.le_refl i)
  refine ⟨⟨h1.1.keep (fun o h => (uo o (by omega)).trans (vo o (by omega))), ?_, ?_, by omega, ?_, u8, ?_, ?_, ?_, ?_, ?_⟩, ⟨?_, ?_, fun k hk => ?_⟩, ⟨fun o a b => (hrd q o a b).trans (ur o a b).symm, ?_, fun i hi => (h3.2.2 i (by omega)).c (fun o j ho _ => by rw [uo o (by omega), vo o (by omega)]) (fun j _ => by rw [uo 66 (by omega), vo 66 (by omega)]) (hrd i)⟩, ?_, ?_⟩
  · rw [u54 1 (by decide), vo 54 (by omega)]; exact h1.2.1
  · rw [u54 0 (by decide), vo 54 (by omega)]; exact h1.2.2.1
  · rw [uo 5 (by omega)]; exact v5
  · rw [uo 0 (by omega), vo 0 (by omega)]; exact h1.2.2.2.2.2.2.1
  · rw [u54 16 (by decide), vo 54 (by omega), uo 0 (by omega), vo 0 (by omega)]; exact h1.2.2.2.2.2.2.2.1
  · intro i hi
    by_cases z : i < 3 * (4 * n * n)
    · rw [u60 i z]; exact h1.2.2.2.2.2.2.2.2.2.2 _ (by omega)
    · rw [u60f i (by omega)]; exact h1.2.2.2.2.2.2.2.2.1 i hi
  · rw [uo 65 (by omega), vo 65 (by omega)]; exact h1.2.2.2.2.2.2.2.2.2.1
  · rw [uo 66 (by omega), vo 66 (by omega)]; exact h1.2.2.2.2.2.2.2.2.2.2
  · rw [pP_c (ur 6 (by omega) (by omega)) (ur 7 (by omega) (by omega)) (ur 8 (by omega) (by omega)), ur 9 (by omega) (by omega), ur 10 (by omega) (by omega)]
    exact g1.c (fun _ _ => ⟨rfl, rfl, rfl⟩) (fun k e hk he => u60 _ (by omega))
  · exact g2.c (fun o h => ur o h.1 h.2)
  · obtain ⟨x1, x2, x3, x4, x5⟩ := g3 k hk
    have e6 := ur 6 (by omega) (by omega)
    have e7 := ur 7 (by omega) (by omega)
    have e8 := ur 8 (by omega) (by omega)
    refine ⟨?_, ?_, ?_⟩
    · unfold pP
      rw [e6, e7, e8, up 55 k (by omega) (by omega) hk, up 56 k (by omega) (by omega) hk, up 57 k (by omega) (by omega) hk, ← x1, ← x2, ← x3]
    · rw [up 58 k (by omega) (by omega) hk, ur 9 (by omega) (by omega), ← x4]
    · rw [up 59 k (by omega) (by omega) hk, ur 10 (by omega) (by omega), ← x5]
  · rw [uo 12 (by omega), vo 12 (by omega), uo 13 (by omega), vo 13 (by omega), uo 14 (by omega), vo 14 (by omega), uo 15 (by omega), vo 15 (by omega)]
    exact h3.2.1
  · exact h4.c (fun o h => (uo o (by omega)).trans (vo o (by omega))) (by rw [u54 17 (by decide), vo 54 (by omega)])
  · exact h5.c (fun o h => (uo o (by omega)).trans (vo o (by omega)))
end UNF
set_option maxHeartbeats 1000000 in
theorem jx_unfold {n : Nat} {B : Int} {w : wd} (h : JI n B w) : JX yX9_unfold cX9_unfold 1 7 yX10_unfold cX10_unfold 4 2 B w [] := by
  obtain ⟨m, h1, h2, h3, h4, h5⟩ := id h.1
  have hc := h.1.ci
  have hm := h.1.mi
  have hf9 := h3.2.1
  have hp9 : ∀ mm : Nat, w 5 11 = (mm : Int) + 1 → ∀ i, i < mm → PlO (4 * n * n) (redo (4 * n * n) (flatW n (wst w 5 11 mm)) i) := by
    intro mm e i hi
    have e2 := h1.2.2.2.2.1
    have em : m = mm + 1 := by omega
    subst em
    have r := unf_r h3.1 (x := (mm : Int)) i
    obtain ⟨g1, g2, g3⟩ := h3.2.2 i (by omega)
    have hp := geo_plo g1 (by have := h1.2.2.2.1; omega)
    intro k hk
    have := hp k hk
    unfold PlK at this ⊢
    rw [r 6 (by omega) (by omega), r 7 (by omega) (by omega), r 8 (by omega) (by omega), r 10 (by omega) (by omega)]
    exact this
  refine ⟨_, sp_X9_unfold hc hf9 hp9, fun a w1 hp => ?_⟩
  by_cases z : w 5 11 = 0
  · rw [if_pos z] at hp
    obtain ⟨ha, hw⟩ := hp
    subst w1
    refine ⟨_, sp_X10_unfold hm h1.2.2.2.2.2.2.2.2.2.1, fun b w2 hp2 => ?_⟩
    rw [if_pos (by rw [h1.2.2.2.2.2.1, ← h1.2.2.2.2.1]; exact z)] at hp2
    obtain ⟨hb9, hw2⟩ := hp2
    subst w2
    exact ⟨by rw [ha, hb9], h.up⟩
  · rw [if_neg z] at hp
    obtain ⟨hw, ha⟩ := hp
    obtain ⟨q, rfl⟩ : ∃ q, m = q + 1 := ⟨m - 1, by have := h1.2.2.2.2.1; omega⟩
    have e5 : w 5 11 - 1 = (q : Int) := by have := h1.2.2.2.2.1; omega
    rw [e5, Int.toNat_natCast] at hw
    rw [e5] at ha
    have vo : ∀ o, (o < 5 ∨ 11 < o) → w1 o = w o := fun o h => by rw [hw, redo_o (by omega), flatW_o (by omega), wst_ne (by omega)]
    have hm2 : MI n w1 := hm.c (fun o ho => vo o (by omega))
    refine ⟨_, sp_X10_unfold hm2 (by rw [vo 65 (by omega)]; exact h1.2.2.2.2.2.2.2.2.2.1), fun b w2 hp2 => ?_⟩
    have e8 : w1 54 8 = (q : Int) + 1 := by rw [vo 54 (by omega)]; have := h1.2.2.2.2.2.1; omega
    rw [if_neg (by omega)] at hp2
    obtain ⟨hw2, hb9⟩ := hp2
    have e9 : w1 54 8 - 1 = (q : Int) := by omega
    rw [e9, Int.toNat_natCast] at hw2
    rw [e9] at hb9
    have ok := unf_ok h1 h2 h3 h4 h5 hw hw2
    have uo : ∀ o, (o < 54 ∨ 60 < o) → w2 o = w1 o := fun o h => by rw [hw2, unfM_o (by omega), wst_ne (by omega)]
    have u25 : w2 54 25 = w1 54 25 := by rw [hw2, unfM_o (by omega)]; exact wst_at (by decide)
    refine ⟨by rw [ha, hb9], n, JE.mk ok, h.2.1.c (fun o ho => (uo o (by omega)).trans (vo o (by omega))), (h.2.2.c (u25.trans (congrFun (vo 54 (by omega)) 25)) ((uo 74 (by omega)).trans (vo 74 (by omega)))).mono (by omega)⟩
set_option maxHeartbeats 1000000 in
theorem jx_fold {n : Nat} {B : Int} {w : wd} (h : JI n B w) {s L d ov : Int} (hs : rg s) (hL : rg L) (hd : rg d) (ho : ov = 0 ∨ ov = 1) : JX yX9_fold cX9_fold 5 7 yX10_fold cX10_fold 12 3 B w [vI s, vI L, vI d, vI ov] := by
  obtain ⟨m, h1, h2, h3, h4, h5⟩ := id h.1
  have hc := h.1.ci
  have hm := h.1.mi
  have hA : ∀ m' : Nat, m' < 8 → w 5 11 = (m' : Int) → isLine s L → isSide d → w 17 4 = 0 → (0 < sm (fun k => ib (pon s L 0 w k)) (4 * n * n) ∧ sm (fun k => ib (pon s L 0 w k)) (4 * n * n) < ((4 * n * n : Nat) : Int)) → LyO (4 * n * n) (addW (4 * n * n) m' s L d ov w) := by
    intro m' hm8 e hl hsd _ hcx
    have em : m' = m := by have := h1.2.2.2.2.1; omega
    subst em
    obtain ⟨-, p2, -⟩ := fold_ok h1 h2 h3 h4 h5 hm8 hl hsd ho (crossed hcx) rfl
    intro k hk
    have h9 := p2.lay h1.nr.2 hk
    rw [fol_o (by omega)] at h9
    omega
  refine ⟨_, sp_X9_fold hc hs hL hd ho hA, fun a w1 hp => ?_⟩
  by_cases z1 : isLine s L ∧ isSide d
  · rw [if_pos z1] at hp
    have hcr := crossed_ron (s := s) (L := L) h2 z1.2
    have e17 := h4.2.2.2.1
    by_cases z2 : w 17 4 = 0 ∧ (0 < sm (fun k => ib (pon s L 0 w k)) (4 * n * n) ∧ sm (fun k => ib (pon s L 0 w k)) (4 * n * n) < ((4 * n * n : Nat) : Int))
    · rw [if_pos z2] at hp
      by_cases z3 : w 5 11 < 8
      · rw [if_pos z3] at hp
        obtain ⟨hw, ha⟩ := hp
        have em : (w 5 11).toNat = m := by have := h1.2.2.2.2.1; omega
        have hm8 : m < 8 := by have := h1.2.2.2.2.1; omega
        rw [em] at hw
        have vo : ∀ o, (o < 5 ∨ 15 < o) → w1 o = w o := fun o h => by rw [hw]; exact add_o h
        have hm2 : MI n w1 := hm.c (fun o ho => vo o (by omega))
        have ok := fold_ok h1 h2 h3 h4 h5 hm8 z1.1 z1.2 ho (crossed z2.2) rfl
        rw [← hw] at ok
        have er : ∀ k, ron s L d w1 k ↔ ron s L d w k := fun k => by unfold ron rst; rw [vo 55 (by omega), vo 56 (by omega), vo 57 (by omega)]
        have es : sm (fun k => ib (ron s L d w1 k)) (4 * n * n) = sm (fun k => ib (ron s L d w k)) (4 * n * n) := sm_c (fun k _ => ib_c (er k))
        have e8 : w1 54 8 = (m : Int) := by rw [vo 54 (by omega)]; exact h1.2.2.2.2.2.1
        have hA2 : ∀ q : Nat, q < 8 → w1 54 8 = (q : Int) → isLine s L → isSide d → w1 54 17 = 0 → (0 < sm (fun k => ib (ron s L d w1 k)) (4 * n * n) ∧ sm (fun k => ib (ron s L d w1 k)) (4 * n * n) < ((4 * n * n : Nat) : Int)) → ∀ k, k < 4 * n * n → PlM (folM n q s L d ov w1) k := by
          intro q _ e _ _ _ _ k hk
          have eq : q = m := by omega
          subst eq
          exact ok.2.1.plm ok.1.2.2.2.1 h1.nr.2 hk
        refine ⟨_, sp_X10_fold hm2 hs hL hd ho hA2, fun b w2 hp2 => ?_⟩
        rw [if_pos z1, if_pos ⟨by rw [vo 54 (by omega), e17]; exact z2.1, by rw [es]; exact hcr.mpr z2.2⟩, if_pos (by omega)] at hp2
        obtain ⟨hsc, hb9⟩ := hp2
        have e9 : (w1 54 8).toNat = m := by omega
        rw [e9] at hsc
        refine ⟨?_, n, hsc.je (JE.mk ok), h.2.1.c (fun o ho => ?_), (h.2.2.c ?_ ?_).mono (by omega)⟩
        · rw [ha, hb9]
          refine sm_c (fun k hk => ?_)
          rw [hsc.1 58 (by decide), (ok.2.1.xyz hk).2.2.2.1, fol_o (by omega)]
        · rw [hsc.1 o (by omega), fol_o (by omega), vo o (by omega)]
        · rw [hsc.2 25 (by decide), fol_i (by decide), vo 54 (by omega)]
        · rw [hsc.1 74 (by decide), fol_o (by omega), vo 74 (by omega)]
      · rw [if_neg z3] at hp
        obtain ⟨ha, hw⟩ := hp
        subst w1
        have hge : ¬ w 54 8 < 8 := by rw [h1.2.2.2.2.2.1, ← h1.2.2.2.2.1]; exact z3
        refine ⟨_, sp_X10_fold hm hs hL hd ho (fun q hq e => by omega), fun b w2 hp2 => ?_⟩
        rw [if_pos z1, if_pos ⟨by rw [e17]; exact z2.1, hcr.mpr z2.2⟩, if_neg hge] at hp2
        exact ⟨by rw [ha, hp2.1], h.c (fun o ho => hp2.2 o (by omega)) (fun i _ => congrFun (hp2.2 54 (by decide)) i)⟩
    · rw [if_neg z2] at hp
      obtain ⟨ha, hw⟩ := hp
      subst w1
      have nz : ¬ (w 54 17 = 0 ∧ (0 < sm (fun k => ib (ron s L d w k)) (4 * n * n) ∧ sm (fun k => ib (ron s L d w k)) (4 * n * n) < ((4 * n * n : Nat) : Int))) := fun y => z2 ⟨by rw [← e17]; exact y.1, hcr.mp y.2⟩
      refine ⟨_, sp_X10_fold hm hs hL hd ho (fun q _ _ _ _ y1 y2 => absurd ⟨y1, y2⟩ nz), fun b w2 hp2 => ?_⟩
      rw [if_pos z1, if_neg nz] at hp2
      exact ⟨by rw [ha, hp2.1], h.c (fun o ho => hp2.2 o (by omega)) (fun i _ => congrFun (hp2.2 54 (by decide)) i)⟩
  · rw [if_neg z1] at hp
    obtain ⟨ha, hw⟩ := hp
    subst w1
    refine ⟨_, sp_X10_fold hm hs hL hd ho (fun q _ _ y1 y2 => absurd ⟨y1, y2⟩ z1), fun b w2 hp2 => ?_⟩
    rw [if_neg z1] at hp2
    obtain ⟨hb9, hw2⟩ := hp2
    subst w2
    exact ⟨by rw [ha, hb9], h.up⟩
