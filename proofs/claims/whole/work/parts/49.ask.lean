/-! ===== what the joint invariant gives ===== -/
def JE (n : Nat) (w : wd) : Prop := ∃ m, JS n m w ∧ JP n m w ∧ JR n m w ∧ JC n w ∧ JF n w
def JI (n : Nat) (B : Int) (w : wd) : Prop := JE n w ∧ SrI n w ∧ stO w B
def JN (B : Int) (w : wd) : Prop := ∃ n, JI n (B + 3169056) w
theorem JE.c {n : Nat} {w u : wd} (h : JE n w) (e : ∀ o, (o ≤ 22 ∨ (55 ≤ o ∧ o ≤ 66) ∨ o = 68 ∨ o = 69) → u o = w o) (ei : ∀ i, (i = 0 ∨ i = 1 ∨ i = 8 ∨ i = 16 ∨ i = 17) → u 54 i = w 54 i) : JE n u := by
  obtain ⟨m, h1, h2, h3, h4, h5⟩ := h
  exact ⟨m, h1.c (fun o ho => e o (by omega)) (fun i hi => ei i (by omega)), h2.c (fun o ho => e o (by omega)), h3.c h1.2.2.2.1 (fun o ho => e o (by omega)), h4.c (fun o ho => e o (by omega)) (ei 17 (by omega)), h5.c (fun o ho => e o (by omega))⟩
theorem SrI.c {n : Nat} {w u : wd} (h : SrI n w) (e : ∀ o, (22 ≤ o ∧ o ≤ 53) → u o = w o) : SrI n u := by
  obtain ⟨⟨hq, hqs⟩, t, h11, ht, hrp, hs⟩ := h
  refine ⟨⟨hq.cong (e 24 (by omega)) (fun j hj => e _ (by omega)), hqs.cong (fun o ho => e o (by unfold ownC at ho; omega))⟩, t, by rw [e 23 (by omega)]; exact h11, ht, fun z => ?_, ?_⟩
  · rw [e 22 (by omega)]
    exact (hrp z).cong (e _ (by omega)) (fun j hj => e _ (by omega))
  · unfold SrS RcA at hs ⊢
    rw [e 22 (by omega), e 23 (by omega), e 53 (by omega)]
    exact hs
theorem JI.c {n : Nat} {B : Int} {w u : wd} (h : JI n B w) (e : ∀ o, (o ≤ 53 ∨ (55 ≤ o ∧ o ≤ 66) ∨ o = 68 ∨ o = 69 ∨ o = 74) → u o = w o) (ei : ∀ i, (i = 0 ∨ i = 1 ∨ i = 8 ∨ i = 16 ∨ i = 17 ∨ i = 25) → u 54 i = w 54 i) : JN B u := ⟨n, h.1.c (fun o ho => e o (by omega)) (fun i hi => ei i (by omega)), h.2.1.c (fun o ho => e o (by omega)), (h.2.2.c (ei 25 (by omega)) (e 74 (by omega))).mono (by omega)⟩
theorem JI.up {n : Nat} {B : Int} {w : wd} (h : JI n B w) : JN B w := h.c (fun _ _ => rfl) (fun _ _ => rfl)
section JEF
variable {n m : Nat} {w : wd}
theorem JP.okp (h : JP n m w) (hm : m ≤ 8) {k : Nat} (hk : k < 4 * n * n) : okp 45 (pP w 6 k) := by
  obtain ⟨⟨a, b⟩, ⟨c, d⟩, e⟩ := h.1.1.1 k hk
  exact ⟨⟨by omega, by omega⟩, ⟨by omega, by omega⟩, e⟩
theorem JP.plo (h : JP n m w) (hm : m ≤ 8) : PlO (4 * n * n) w := fun k hk => by
  have h1 : (-45 ≤ w 6 k ∧ w 6 k ≤ 45) ∧ (-45 ≤ w 7 k ∧ w 7 k ≤ 45) ∧ (0 ≤ w 8 k ∧ w 8 k ≤ 3) := h.okp hm hk
  have h2 := h.1.2.2.2.1 k hk
  unfold PlK
  omega
theorem JP.lay (h : JP n m w) (hn : n ≤ 6) {k : Nat} (hk : k < 4 * n * n) : 0 ≤ w 9 k ∧ w 9 k < 144 := by
  have h1 := h.1.2.1 k hk
  have h2 := cn_le (N := 4 * n * n) (S := pP w 6) (p := pP w 6 k)
  have := nn_le hn
  omega
theorem HTW.o {N : Nat} {w : wd} (h : HTW N w) (hN : N ≤ 144) : HtO w := fun s hs => by
  rw [h s hs]
  have := sm_b (f := fun k => ib (psp w k = (s : Int))) (fun _ => ib_01) N
  omega
theorem JS.nr (h : JS n m w) : 1 ≤ n ∧ n ≤ 6 := h.1.1
theorem JEci (h1 : JS n m w) (h2 : JP n m w) (h4 : JC n w) (h5 : JF n w) : CI n w := by
  have hn := h1.nr
  have hN := nn_le hn.2
  exact ⟨h1.1, h2.plo h1.2.2.2.1, fun k hk => by have := h2.lay hn.2 hk; omega, h2.2.1.o hN, h5.1, h4.1, h4.2.1, h4.2.2.1, ⟨m, h1.2.2.2.1, h1.2.2.2.2.1⟩, h1.2.2.2.2.2.2.1⟩
theorem JP.plm (h : JP n m w) (hm : m ≤ 8) (hn : n ≤ 6) {k : Nat} (hk : k < 4 * n * n) : PlM w k := by
  have h1 := h.okp hm hk
  have h2 := h.lay hn hk
  have h3 := h.1.2.2.2.1 k hk
  obtain ⟨e1, e2, e3⟩ := h.2.2 k hk
  rw [← e1] at h1
  have h1 : (-45 ≤ w 55 k ∧ w 55 k ≤ 45) ∧ (-45 ≤ w 56 k ∧ w 56 k ≤ 45) ∧ (0 ≤ w 57 k ∧ w 57 k ≤ 3) := h1
  unfold PlM
  omega
theorem JEmi (h1 : JS n m w) (h2 : JP n m w) (h4 : JC n w) (h5 : JF n w) : MI n w := by
  have hn := h1.nr
  have hN := nn_le hn.2
  refine ⟨⟨hn, h1.2.1⟩, h1.2.2.1, fun k hk => h2.plm h1.2.2.2.1 hn.2 hk, h1.2.2.2.2.2.2.2.2.1, h4.2.2.2.2.2.1, h5.2.1, ?_, ⟨m, h1.2.2.2.1, h1.2.2.2.2.2.1⟩, ?_⟩
  · rw [h4.2.2.2.1]; exact h4.2.2.1
  · rw [h1.2.2.2.2.2.2.2.1]; exact h1.2.2.2.2.2.2.1
theorem JE.ci (h : JE n w) : CI n w := by obtain ⟨m, h1, h2, h3, h4, h5⟩ := h; exact JEci h1 h2 h4 h5
theorem JE.mi (h : JE n w) : MI n w := by obtain ⟨m, h1, h2, h3, h4, h5⟩ := h; exact JEmi h1 h2 h4 h5
end JEF
/-! ===== the calls, one by one: the answers are the same, and the invariant stays ===== -/
def JX (y1 : MethodName) (c1 : ByteArray) (n1 d1 : Nat) (y2 : MethodName) (c2 : ByteArray) (n2 d2 : Nat) (B : Int) (w : wd) (as : List av) : Prop := ∃ P1, CalI y1 c1 n1 .int d1 LAY w (vR 0 :: as) P1 ∧ ∀ a w1, P1 a w1 → ∃ P2, CalI y2 c2 n2 .int d2 LAY w1 (vR 54 :: as) P2 ∧ ∀ b w2, P2 b w2 → a = b ∧ JN B w2
theorem mxf_le {f : Nat → Int} {B : Int} : ∀ n, (∀ k, k < n → f k ≤ B) → 0 ≤ B → mxf f n ≤ B := fun n h h0 => (mxf_b n h h0).2
theorem mxf_nn {f : Nat → Int} : ∀ n, 0 ≤ mxf f n
  | 0 => Int.le_refl _
  | n + 1 => by rw [mxf_s]; have := mxf_nn (f := f) n; omega
theorem le_mxf {f : Nat → Int} : ∀ n k, k < n → f k ≤ mxf f n
  | 0, k, h => absurd h (Nat.not_lt_zero _)
  | n + 1, k, h => by
    rw [mxf_s]
    rcases Nat.lt_succ_iff_lt_or_eq.mp h with q | q
    · have := le_mxf (f := f) n k q; omega
    · subst q; omega
theorem mnA_c {f g : Nat → Int} : ∀ n, (∀ k, k ≤ n → f k = g k) → mnA f n = mnA g n
  | 0, h => h 0 (Nat.le_refl 0)
  | n + 1, h => by
    have e := mnA_c n (fun k hk => h k (by omega))
    have e2 := h (n + 1) (Nat.le_refl _)
    show min (mnA f n) (f (n + 1)) = min (mnA g n) (g (n + 1))
    rw [e, e2]
theorem mxA_c {f g : Nat → Int} : ∀ n, (∀ k, k ≤ n → f k = g k) → mxA f n = mxA g n
  | 0, h => h 0 (Nat.le_refl 0)
  | n + 1, h => by
    have e := mxA_c n (fun k hk => h k (by omega))
    have e2 := h (n + 1) (Nat.le_refl _)
    show max (mxA f n) (f (n + 1)) = max (mxA g n) (g (n + 1))
    rw [e, e2]
/-- the most layers of a place, told by its topmost layer -/
theorem JP.mx {n m : Nat} {w : wd} (h : JP n m w) {T U : Nat → Prop} [DecidablePred T] [DecidablePred U] (hT : ∀ k, k < 4 * n * n → (T k ↔ U k)) (hS : ∀ j k, j < 4 * n * n → k < 4 * n * n → pP w 6 j = pP w 6 k → (T j ↔ T k)) : mxf (fun k => if T k then w 11 (psp w k).toNat else 0) (4 * n * n) = mxf (fun k => if U k then w 58 k + 1 else 0) (4 * n * n) := by
  obtain ⟨hg, hh, he⟩ := h
  refine Int.le_antisymm (mxf_le _ (fun k hk => ?_) (mxf_nn _)) (mxf_le _ (fun k hk => ?_) (mxf_nn _))
  · show (if T k then w 11 (psp w k).toNat else 0) ≤ _
    by_cases z : T k
    · rw [if_pos z, ht_cn hh hg.1 hk]
      obtain ⟨-, j, a, b, c⟩ := hg.2.2.1 k hk
      have h9 := le_mxf (f := fun k => if U k then w 58 k + 1 else 0) (4 * n * n) j a
      rw [if_pos ((hT j a).mp ((hS j k a hk b).mpr z)), (he j a).2.1, c] at h9
      omega
    · rw [if_neg z]; exact mxf_nn _
  · show (if U k then w 58 k + 1 else 0) ≤ _
    by_cases z : U k
    · rw [if_pos z, (he k hk).2.1]
      have h9 := le_mxf (f := fun k => if T k then w 11 (psp w k).toNat else 0) (4 * n * n) k hk
      rw [if_pos ((hT k hk).mpr z), ht_cn hh hg.1 hk] at h9
      have := (hg.2.1 k hk).2
      omega
    · rw [if_neg z]; exact mxf_nn _
theorem if_tt {f : Nat → Int} {n : Nat} : mxf f n = mxf (fun k => if True then f k else 0) n := by simp
theorem JP.xyz {n m : Nat} {w : wd} (h : JP n m w) {k : Nat} (hk : k < 4 * n * n) : w 55 k = w 6 k ∧ w 56 k = w 7 k ∧ w 57 k = w 8 k ∧ w 58 k = w 9 k ∧ w 59 k = w 10 k := by
  obtain ⟨e1, e2, e3⟩ := h.2.2 k hk
  have := pl3.mpr e1
  exact ⟨this.1, this.2.1, this.2.2, e2, e3⟩
set_option maxHeartbeats 1000000 in
theorem jx_places {n : Nat} {B : Int} {w : wd} (h : JI n B w) : JX yX9_places cX9_places 1 4 yX10_places cX10_places 1 3 B w [] := by
  obtain ⟨m, h1, h2, h3, h4, h5⟩ := id h.1
  have hc := h.1.ci
  have hm := h.1.mi
  refine ⟨_, sp_X9_places hc, fun a w1 hp => ?_⟩
  obtain ⟨ha, hw⟩ := hp
  subst w1
  refine ⟨_, sp_X10_places hm, fun b w2 hp2 => ?_⟩
  obtain ⟨hb9, hw2⟩ := hp2
  subst w2
  refine ⟨?_, h.up⟩
  rw [ha, hb9]
  exact sm_c (fun k hk => by rw [(h2.xyz hk).2.2.2.1])
set_option maxHeartbeats 1000000 in
theorem jx_deepest {n : Nat} {B : Int} {w : wd} (h : JI n B w) : JX yX9_deepest cX9_deepest 1 5 yX10_deepest cX10_deepest 3 2 B w [] := by
  obtain ⟨m, h1, h2, h3, h4, h5⟩ := id h.1
  have hc := h.1.ci
  have hm := h.1.mi
  refine ⟨_, sp_X9_deepest hc, fun a w1 hp => ?_⟩
  obtain ⟨ha, hw⟩ := hp
  subst w1
  refine ⟨_, sp_X10_deepest hm, fun b w2 hp2 => ?_⟩
  obtain ⟨hb9, hw2⟩ := hp2
  subst w2
  refine ⟨?_, h.up⟩
  rw [ha, hb9]
  rw [if_tt, if_tt (f := fun k => w 58 k + 1)]
  exact h2.mx (T := fun _ => True) (U := fun _ => True) (fun _ _ => Iff.rfl) (fun _ _ _ _ _ => Iff.rfl)
set_option maxHeartbeats 1000000 in
theorem jx_reach {n : Nat} {B : Int} {w : wd} (h : JI n B w) {t : Int} (ht : rg t) : JX yX9_reach cX9_reach 2 4 yX10_reach cX10_reach 5 2 B w [vI t] := by
  obtain ⟨m, h1, h2, h3, h4, h5⟩ := id h.1
  have hc := h.1.ci
  have hm := h.1.mi
  refine ⟨_, sp_X9_reach hc ht, fun a w1 hp => ?_⟩
  obtain ⟨ha, hw⟩ := hp
  subst w1
  refine ⟨_, sp_X10_reach hm ht, fun b w2 hp2 => ?_⟩
  obtain ⟨hb9, hw2⟩ := hp2
  subst w2
  refine ⟨?_, h.up⟩
  rw [ha, hb9]
  have hn1 := nn_pos h1.nr.1
  have e6 : ∀ k, k ≤ 4 * n * n - 1 → w 6 k = w 55 k := fun k hk => (h2.xyz (by omega)).1.symm
  have e7 : ∀ k, k ≤ 4 * n * n - 1 → w 7 k = w 56 k := fun k hk => (h2.xyz (by omega)).2.1.symm
  rw [mnA_c _ e6, mxA_c _ e6, mnA_c _ e7, mxA_c _ e7]
set_option maxHeartbeats 1000000 in
theorem jx_folds {n : Nat} {B : Int} {w : wd} (h : JI n B w) : JX yX9_folds cX9_folds 1 1 yX10_folds cX10_folds 1 1 B w [] := by
  obtain ⟨m, h1, h2, h3, h4, h5⟩ := id h.1
  have hc := h.1.ci
  have hm := h.1.mi
  refine ⟨_, sp_X9_folds, fun a w1 hp => ?_⟩
  obtain ⟨ha, hw⟩ := hp
  subst w1
  refine ⟨_, sp_X10_folds hm, fun b w2 hp2 => ?_⟩
  obtain ⟨hb9, hw2⟩ := hp2
  subst w2
  refine ⟨?_, h.up⟩
  rw [ha, hb9]
  rw [h1.2.2.2.2.1, h1.2.2.2.2.2.1]
set_option maxHeartbeats 1000000 in
theorem jx_neighbour {n : Nat} {B : Int} {w : wd} (h : JI n B w) {k t : Int} (hk : rg k) (ht : rg t) : JX yX9_neighbour cX9_neighbour 3 3 yX10_neighbour cX10_neighbour 3 3 B w [vI k, vI t] := by
  obtain ⟨m, h1, h2, h3, h4, h5⟩ := id h.1
  have hc := h.1.ci
  have hm := h.1.mi
  refine ⟨_, sp_X9_neighbour hc hk ht, fun a w1 hp => ?_⟩
  obtain ⟨ha, hw⟩ := hp
  subst w1
  refine ⟨_, sp_X10_neighbour hm hk ht, fun b w2 hp2 => ?_⟩
  obtain ⟨hb9, hw2⟩ := hp2
  subst w2
  refine ⟨?_, h.up⟩
  rw [ha, hb9]
set_option maxHeartbeats 1000000 in
theorem jx_thickness {n : Nat} {B : Int} {w : wd} (h : JI n B w) {s L : Int} (hs : rg s) (hL : rg L) : JX yX9_thickness cX9_thickness 3 5 yX10_thickness cX10_thickness 3 3 B w [vI s, vI L] := by
  obtain ⟨m, h1, h2, h3, h4, h5⟩ := id h.1
  have hc := h.1.ci
  have hm := h.1.mi
  refine ⟨_, sp_X9_thickness hc hs hL, fun a w1 hp => ?_⟩
  obtain ⟨ha, hw⟩ := hp
  subst w1
  refine ⟨_, sp_X10_thickness hm hs hL, fun b w2 hp2 => ?_⟩
  obtain ⟨hb9, hw2⟩ := hp2
  subst w2
  refine ⟨?_, h.up⟩
  rw [ha, hb9]
  split
  · rename_i z
    refine h2.mx (T := fun k => touch s L (w 6 k) (w 7 k) (w 8 k)) (U := fun k => rto s L w k) (fun k hk => ?_) (fun j k hj hk e => ?_)
    · obtain ⟨e1, e2, e3, -⟩ := h2.xyz hk
      unfold rto
      rw [e1, e2, e3]
    · obtain ⟨e1, e2, e3⟩ := pl3.mpr e
      simp only [pP] at e1 e2 e3
      rw [e1, e2, e3]
  · rfl
set_option maxHeartbeats 1000000 in
theorem jx_would {n : Nat} {B : Int} {w : wd} (h : JI n B w) {s L d : Int} (hs : rg s) (hL : rg L) (hd : rg d) : JX yX9_would cX9_would 4 5 yX10_would cX10_would 4 4 B w [vI s, vI L, vI d] := by
  obtain ⟨m, h1, h2, h3, h4, h5⟩ := id h.1
  have hc := h.1.ci
  have hm := h.1.mi
  refine ⟨_, sp_X9_would hc hs hL hd, fun a w1 hp => ?_⟩
  obtain ⟨ha, hw⟩ := hp
  subst w1
  refine ⟨_, sp_X10_would hm hs hL hd, fun b w2 hp2 => ?_⟩
  obtain ⟨hb9, hw2⟩ := hp2
  subst w2
  refine ⟨?_, h.up⟩
  rw [ha, hb9]
  split
  · refine sm_c (fun k hk => ?_)
    obtain ⟨e1, e2, e3, -⟩ := h2.xyz hk
    unfold pon pst ron rst
    rw [e1, e2, e3]
  · rfl
set_option maxHeartbeats 1000000 in
theorem jx_facet {n : Nat} {B : Int} {w : wd} (h : JI n B w) {k t : Int} (hk : rg k) (ht : rg t) : JX yX9_facet cX9_facet 3 4 yX10_facet cX10_facet 3 3 B w [vI k, vI t] := by
  obtain ⟨m, h1, h2, h3, h4, h5⟩ := id h.1
  have hc := h.1.ci
  have hm := h.1.mi
  refine ⟨_, sp_X9_facet hc hk ht, fun a w1 hp => ?_⟩
  obtain ⟨ha, hw⟩ := hp
  subst w1
  refine ⟨_, sp_X10_facet hm hk ht, fun b w2 hp2 => ?_⟩
  obtain ⟨hb9, hw2⟩ := hp2
  subst w2
  refine ⟨?_, h.up⟩
  rw [ha, hb9]
  by_cases z : 0 ≤ k ∧ k < ((4 * n * n : Nat) : Int)
  · obtain ⟨j, rfl⟩ := Int.eq_ofNat_of_zero_le z.1
    have hj : j < 4 * n * n := by omega
    have nz : ¬ ¬ (0 ≤ (j : Int) ∧ (j : Int) < ((4 * n * n : Nat) : Int)) := fun y => y z
    rw [if_neg nz, if_neg nz]
    obtain ⟨e1, e2, e3, e4, e5⟩ := h2.xyz hj
    show (if t = 0 then w 6 j else if t = 1 then w 7 j else if t = 2 then w 8 j else if t = 3 then w 9 j else if t = 4 then ib (w 10 j = 1) else if t = 5 then w 11 (psp w j).toNat else if t = 6 then ib (w 18 j = 1) else if t = 7 then ib (w 22 j = 1) else -2) = (if t = 0 then w 55 j else if t = 1 then w 56 j else if t = 2 then w 57 j else if t = 3 then w 58 j else if t = 4 then ib (w 59 j = 1) else if t = 5 then sm (fun i => ib (w 55 i = w 55 j ∧ w 56 i = w 56 j ∧ w 57 i = w 57 j)) (4 * n * n) else if t = 6 then ib (w 68 j = 1) else if t = 7 then ib (w 69 j = 1) else -2)
    have e6 : w 11 (psp w j).toNat = sm (fun i => ib (w 55 i = w 55 j ∧ w 56 i = w 56 j ∧ w 57 i = w 57 j)) (4 * n * n) := by
      rw [ht_cn h2.2.1 h2.1.1 hj]
      refine sm_c (fun i hi => ib_c ?_)
      obtain ⟨f1, f2, f3, -⟩ := h2.xyz hi
      rw [f1, f2, f3, e1, e2, e3]
      exact (pl3 (p := pP w 6 j)).symm
    rw [e6, e1, e2, e3, e4, e5, h4.2.2.2.2.1 j hj, h5.2.2.1 j hj]
  · rw [if_pos z, if_pos z]
set_option maxHeartbeats 1000000 in
theorem jx_same {n : Nat} {B : Int} {w : wd} (h : JI n B w) : JX yX9_same cX9_same 2 3 yX10_same cX10_same 3 2 B w [] := by
  obtain ⟨m, h1, h2, h3, h4, h5⟩ := id h.1
  have hc := h.1.ci
  have hm := h.1.mi
  refine ⟨_, sp_X9_same hc, fun a w1 hp => ?_⟩
  obtain ⟨ha, hw⟩ := hp
  subst w1
  refine ⟨_, sp_X10_same hm, fun b w2 hp2 => ?_⟩
  obtain ⟨hb9, hw2⟩ := hp2
  subst w2
  refine ⟨?_, h.up⟩
  rw [ha, hb9]
  have hN := nn_le h1.nr.2
  refine ib_c ⟨fun y k hk => ?_, fun y k hk => ?_⟩
  · have h9 := y k hk
    rw [h5.2.2.1 k hk, h4.2.2.2.2.1 k hk]
    rcases h5.1 k (by omega) with q1 | q1 <;> rcases h4.1 k (by omega) with q2 | q2 <;> rw [q1, q2] at h9 ⊢ <;> exact absurd h9 (by decide)
  · have h9 := y k hk
    rw [h5.2.2.1 k hk, h4.2.2.2.2.1 k hk] at h9
    rw [h9]
set_option maxHeartbeats 1000000 in
theorem jx_rims {n : Nat} {B : Int} {w : wd} (h : JI n B w) {b0 : Int} (hb : b0 = 0 ∨ b0 = 1) : JX yX9_rims cX9_rims 2 4 yX10_rims cX10_rims 6 3 B w [vI b0] := by
  obtain ⟨m, h1, h2, h3, h4, h5⟩ := id h.1
  have hc := h.1.ci
  have hm := h.1.mi
  refine ⟨_, sp_X9_rims hc hb, fun a w1 hp => ?_⟩
  obtain ⟨ha, hw⟩ := hp
  subst w1
  refine ⟨_, sp_X10_rims hm hb, fun b w2 hp2 => ?_⟩
  obtain ⟨hb9, hw2⟩ := hp2
  subst w2
  refine ⟨?_, h.up⟩
  rw [ha, hb9]
  have hN := nn_le h1.nr.2
  have hk1 : ∀ k, k < 4 * n * n → ∀ e, e < 3 → (nb n k e ≠ -99999 ∧ w 68 k = 1 ∧ ¬ w 68 (nb n k e).toNat = 1) = (nb n k e ≠ -99999 ∧ w 18 k = 1 ∧ ¬ w 18 (nb n k e).toNat = 1) := by
    intro k hk e he
    rcases nb_rg h1.nr hk he with z | ⟨j, z, hj⟩
    · rw [z]; simp
    · rw [z, h4.2.2.2.2.1 k hk, Int.toNat_natCast, h4.2.2.2.2.1 j hj]
  have hk2 : ∀ k, k < 4 * n * n → rbT n w b0 k = if b0 = 0 then ib (nb n k 0 ≠ -99999 ∧ w 18 k = 1 ∧ ¬ w 18 (nb n k 0).toNat = 1) else ib (nb n k 1 ≠ -99999 ∧ w 18 k = 1 ∧ ¬ w 18 (nb n k 1).toNat = 1) + ib (nb n k 2 ≠ -99999 ∧ w 18 k = 1 ∧ ¬ w 18 (nb n k 2).toNat = 1) := by
    intro k hk
    have f : ∀ e, e < 3 → ib (nb n k e ≠ -99999 ∧ w 68 k = 1 ∧ ¬ w 68 (nb n k e).toNat = 1 ∧ ib (0 < e) = b0) = if ib (0 < e) = b0 then ib (nb n k e ≠ -99999 ∧ w 18 k = 1 ∧ ¬ w 18 (nb n k e).toNat = 1) else 0 := by
      intro e he
      have g := hk1 k hk e he
      split
      · rename_i z
        refine ib_c ?_
        constructor
        · intro y; exact g.mp ⟨y.1, y.2.1, y.2.2.1⟩
        · intro y; have y2 := g.mpr y; exact ⟨y2.1, y2.2.1, y2.2.2, z⟩
      · rename_i z
        exact ib_f (fun y => z y.2.2.2)
    have s3 : ∀ g : Nat → Int, sm g 3 = 0 + g 0 + g 1 + g 2 := fun g => rfl
    unfold rbT
    rw [s3, f 0 (by decide), f 1 (by decide), f 2 (by decide)]
    rcases hb with rfl | rfl
    · simp [ib]
    · simp [ib]
  rw [sm_c hk2]
  rcases hb with rfl | rfl
  · rw [if_pos rfl]; unfold bdr; exact sm_c (fun k hk => by rw [if_pos rfl])
  · rw [if_neg (by decide)]
    unfold bdr
    have sa : ∀ (f g : Nat → Int) n, sm f n + sm g n = sm (fun k => f k + g k) n := fun f g n => by
      induction n with
      | zero => rfl
      | succ n ih => rw [sm_s, sm_s, sm_s, ← ih]; omega
    rw [sa]
    exact sm_c (fun k hk => by rw [if_neg (by decide)])
set_option maxHeartbeats 1000000 in
theorem jx_count {n : Nat} {B : Int} {w : wd} (h : JI n B w) {t : Int} (ht : rg t) : JX yX9_count cX9_count 2 4 yX10_count cX10_count 5 3 B w [vI t] := by
  obtain ⟨m, h1, h2, h3, h4, h5⟩ := id h.1
  have hc := h.1.ci
  have hm := h.1.mi
  refine ⟨_, sp_X9_count hc ht, fun a w1 hp => ?_⟩
  obtain ⟨ha, hw⟩ := hp
  subst w1
  refine ⟨_, sp_X10_count hm ht, fun b w2 hp2 => ?_⟩
  obtain ⟨hb9, hw2⟩ := hp2
  subst w2
  refine ⟨?_, h.up⟩
  rw [ha, hb9]
  have hN := nn_le h1.nr.2
  rw [h1.1.2.2.1, h1.1.2.1, h4.2.2.2.2.2.2.1, h5.2.2.2]
  have e1 : sm (w 18) (4 * n * n) = sm (fun k => ib (w 68 k = 1)) (4 * n * n) := sm_c (fun k hk => by
    rw [h4.2.2.2.2.1 k hk]
    rcases h4.1 k (by omega) with q | q <;> rw [q] <;> rfl)
  have e2 : sm (w 22) (4 * n * n) = sm (fun k => ib (w 69 k = 1)) (4 * n * n) := sm_c (fun k hk => by
    rw [h5.2.2.1 k hk]
    rcases h5.1 k (by omega) with q | q <;> rw [q] <;> rfl)
  have e3 : sm (fun k => ib (¬ w 10 k = 1)) (4 * n * n) = sm (fun k => ib (¬ w 59 k = 1)) (4 * n * n) := sm_c (fun k hk => by rw [(h2.xyz hk).2.2.2.2])
  rw [e1, e2, e3]
set_option maxHeartbeats 1000000 in
theorem jx_at {n : Nat} {B : Int} {w : wd} (h : JI n B w) {x y q l : Int} (hx : rg x) (hy : rg y) (hq : rg q) (hl : rg l) : JX yX9_at cX9_at 5 4 yX10_at cX10_at 6 2 B w [vI x, vI y, vI q, vI l] := by
  obtain ⟨m, h1, h2, h3, h4, h5⟩ := id h.1
  have hc := h.1.ci
  have hm := h.1.mi
  refine ⟨_, sp_X9_at hc hx hy hq hl, fun a w1 hp => ?_⟩
  obtain ⟨ha, hw⟩ := hp
  subst w1
  refine ⟨_, sp_X10_at hm hx hy hq hl, fun b w2 hp2 => ?_⟩
  obtain ⟨hb9, hw2⟩ := hp2
  subst w2
  refine ⟨?_, h.up⟩
  by_cases z : q < 0 ∨ 3 < q
  · rw [if_pos z] at ha hb9
    rw [ha, hb9]
  · rw [if_neg z] at ha hb9
    have ee : ∀ k, k < 4 * n * n → ((w 55 k = x ∧ w 56 k = y ∧ w 57 k = q ∧ w 58 k = l) ↔ (w 6 k = x ∧ w 7 k = y ∧ w 8 k = q ∧ w 9 k = l)) := fun k hk => by
      obtain ⟨e1, e2, e3, e4, -⟩ := h2.xyz hk
      rw [e1, e2, e3, e4]
    rcases ha with ⟨k, hk, ak, pk, nk⟩ | ⟨ak, nk⟩ <;> rcases hb9 with ⟨j, hj, bj, pj, nj⟩ | ⟨bj, nj⟩
    · have : k = j := by
        rcases Nat.lt_trichotomy k j with t | t | t
        · exact absurd ((ee k hk).mpr pk) (nj k t)
        · exact t
        · exact absurd ((ee j hj).mp pj) (nk j t)
      rw [ak, bj, this]
    · exact absurd ((ee k hk).mpr pk) (nj k hk)
    · exact absurd ((ee j hj).mp pj) (nk j hj)
    · rw [ak, bj]
