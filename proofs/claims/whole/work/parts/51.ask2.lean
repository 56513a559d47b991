/-! ===== asks, second part: creases, pieces, mirrors ===== -/
theorem nb_symE0 : ∀ n, n < 7 → ∀ k, k < 4 * n * n → ∀ e, e < 3 → nb n k e ≠ -99999 → nb n (nb n k e).toNat (pE e) = (k : Int) := by decide +kernel
theorem nb_symE {n k e g : Nat} (hn : 1 ≤ n ∧ n ≤ 6) (hk : k < 4 * n * n) (he : e < 3) (h : nb n k e = (g : Int)) : nb n g (pE e) = (k : Int) := by
  have h9 := nb_symE0 n (by omega) k hk e he (by omega)
  rw [h, Int.toNat_natCast] at h9
  exact h9
theorem pE_lt {e : Nat} (h : e < 3) : pE e < 3 := by unfold pE; split <;> omega
section KD
variable {n m : Nat} {w : wd}
theorem JP.kdw (h : JP n m w) {k e g : Nat} (hk : k < 4 * n * n) (he : e < 3) (hg : g < 4 * n * n) (hnb : nb n k e = (g : Int)) : kd n w k e = w 60 (3 * k + e) := by
  have hu := h.1.2.2.2.1
  unfold kd
  rw [hnb, if_neg (by omega), Int.toNat_natCast]
  rcases h.1.2.2.2.2 k e g hk he hg hnb with ⟨e1, e2, -⟩ | ⟨e1, -, -, e4⟩
  · rw [e1, if_pos rfl, e2]
  · rw [if_neg (fun y => ?_), e4]
    · rfl
    · rcases hu k hk with q | q <;> rcases hu g hg with q2 | q2 <;> rw [q, q2] at e1 y <;> first | exact absurd rfl e1 | exact absurd y (by decide)
theorem JP.sym (h : JP n m w) (hn : 1 ≤ n ∧ n ≤ 6) {k e g : Nat} (hk : k < 4 * n * n) (he : e < 3) (hg : g < 4 * n * n) (hnb : nb n k e = (g : Int)) : w 60 (3 * k + e) = w 60 (3 * g + pE e) := by
  have hu := h.1.2.2.2.1
  have hb2 := nb_symE hn hk he hnb
  rcases h.1.2.2.2.2 k e g hk he hg hnb with ⟨e1, e2, -⟩ | ⟨e1, -, e3, e4⟩ <;> rcases h.1.2.2.2.2 g (pE e) k hg (pE_lt he) hk hb2 with ⟨f1, f2, -⟩ | ⟨f1, -, f3, f4⟩
  · rw [e2, f2]
  · exact absurd e1.symm f1
  · exact absurd f1.symm e1
  · rw [e4, f4]
    unfold knd
    rcases Nat.lt_or_ge 0 1 with _ | _
    · by_cases y : w 9 k < w 9 g
      · rw [if_pos y, if_neg (show ¬ w 9 g < w 9 k by omega)]
      · rw [if_neg y, if_pos (show w 9 g < w 9 k by omega)]
    · omega
theorem JP.kd99 {k e : Nat} (hnb : nb n k e = -99999) : kd n w k e = -99999 := by
  unfold kd
  rw [if_pos hnb]
end KD
theorem Lab.F {n : Nat} {F G L : Nat → Int} (h : Lab n F L) (e : ∀ a, a < 4 * n * n → F a = G a) : Lab n G L := by
  intro a ha
  obtain ⟨⟨r, h1, h2, h3⟩, h4⟩ := h a ha
  refine ⟨⟨r, h1, h2, fun g hg => h3 g (fun x y e9 hx hy he hnb hF => hg x y e9 hx hy he hnb (by rw [← e x hx, ← e y hy]; exact hF))⟩, fun e9 b he hb hnb hG => h4 e9 b he hb hnb (by rw [e a ha, e b hb]; exact hG)⟩
theorem JC.lab {n : Nat} {w : wd} (h : JC n w) (hn : n ≤ 6) {L : Nat → Int} (hL : Lab n (w 68) L) {k : Nat} (hk : k < 4 * n * n) : L k = w 19 k := by
  have hN := nn_le hn
  refine Lab.one (hL.F (G := fun k => ib (w 18 k = 1)) (fun a ha => ?_)) h.2.2.2.2.2.2.2 hk
  rw [h.2.2.2.2.1 a ha]
  rcases h.1 a (by omega) with q | q <;> rw [q] <;> rfl
theorem MI.c {n : Nat} {w u : wd} (h : MI n w) (e : ∀ o, 54 ≤ o → u o = w o) : MI n u := by
  obtain ⟨⟨h0, h00⟩, h1, h2, h3, h4, h5, h6, h7, h8⟩ := h
  refine ⟨⟨h0, ?_⟩, ?_, fun k hk => ?_, ?_, ?_, ?_, ?_, ?_, ?_⟩
  · rw [e 54 (by omega)]; exact h00
  · rw [e 54 (by omega)]; exact h1
  · have := h2 k hk
    unfold PlM at this ⊢
    rw [e 55 (by omega), e 56 (by omega), e 57 (by omega), e 58 (by omega), e 59 (by omega)]
    exact this
  · rw [e 60 (by omega)]; exact h3
  · rw [e 68 (by omega)]; exact h4
  · rw [e 69 (by omega)]; exact h5
  · rw [e 54 (by omega)]; exact h6
  · rw [e 54 (by omega)]; exact h7
  · rw [e 54 (by omega)]; exact h8
theorem JS.c2 {n m : Nat} {w u : wd} (h : JS n m w) (e : ∀ o, ((1 ≤ o ∧ o ≤ 5) ∨ o = 60 ∨ o = 65 ∨ o = 66) → u o = w o) (ei : ∀ i, (i = 0 ∨ i = 1 ∨ i = 8) → u 54 i = w 54 i) (hk : 1 ≤ u 0 6 ∧ u 0 6 ≤ 144) (hk2 : u 54 16 = u 0 6) : JS n m u := by
  obtain ⟨h1, h2, h3, h4, h5, h6, h7, h8, h9, h10, h11⟩ := h
  obtain ⟨a1, a2, a3, a4, a5⟩ := h1
  refine ⟨⟨a1, ?_, ?_, ?_, ?_⟩, ?_, ?_, h4, ?_, ?_, hk, hk2, ?_, ?_, ?_⟩
  · rw [e 1 (by omega)]; exact a2
  · rw [e 1 (by omega)]; exact a3
  · rw [e 2 (by omega), e 3 (by omega)]; exact a4
  · rw [e 4 (by omega)]; exact a5
  · rw [ei 1 (by omega)]; exact h2
  · rw [ei 0 (by omega)]; exact h3
  · rw [e 5 (by omega)]; exact h5
  · rw [ei 8 (by omega)]; exact h6
  · rw [e 60 (by omega)]; exact h9
  · rw [e 65 (by omega)]; exact h10
  · rw [e 66 (by omega)]; exact h11
theorem mir_same {n : Nat} {w : wd} {s L : Int} (hn : n ≤ 6) (h5 : JF n w) : (∀ k, k < 4 * n * n → mirOk n w s L k) ↔ (∀ k, k < 4 * n * n → mrOk n w s L k) := by
  have hN := nn_le hn
  have key : ∀ k, k < 4 * n * n → (mirOk n w s L k ↔ mrOk n w s L k) := by
    intro k hk
    by_cases z : 0 ≤ mirX s L (lx n k) (ly n k) ∧ mirX s L (lx n k) (ly n k) < n ∧ 0 ≤ mirY s L (lx n k) (ly n k) ∧ mirY s L (lx n k) (ly n k) < n
    · have hq : 0 ≤ mirQ s (lq k) ∧ mirQ s (lq k) < 4 := mirQ_rg (by unfold lq; omega)
      obtain ⟨j, hj, hj2⟩ := mir_nat (n := n) ⟨z.1, z.2.1⟩ ⟨z.2.2.1, z.2.2.2⟩ hq
      unfold mirOk mrOk
      rw [hj, Int.toNat_natCast, h5.2.2.1 j hj2, h5.2.2.1 k hk]
      constructor
      · rintro ⟨a, b⟩
        refine ⟨a, ?_⟩
        rcases h5.1 k (by omega) with q1 | q1 <;> rcases h5.1 j (by omega) with q2 | q2 <;> rw [q1, q2] at b ⊢ <;> exact absurd b (by decide)
      · rintro ⟨a, b⟩
        exact ⟨a, by rw [b]⟩
    · exact ⟨fun y => absurd y.1 z, fun y => absurd y.1 z⟩
  exact ⟨fun y k hk => (key k hk).mp (y k hk), fun y k hk => (key k hk).mpr (y k hk)⟩
theorem sc3.jn {n : Nat} {B : Int} {w u : wd} (h : JI n B w) (s : sc3 w u) : JN B u := h.c (fun o ho => s.1 o (by omega)) (fun i hi => s.2 i (by omega))
theorem ptW.jn {n : Nat} {B : Int} {w : wd} {L : Nat → Int} (h : JI n B w) : JN B (ptW w L) := h.c (fun o ho => ptW_o (by omega)) (fun i hi => congrFun (ptW_o (by decide)) i)
set_option maxHeartbeats 1000000 in
theorem jx_crease {n : Nat} {B : Int} {w : wd} (h : JI n B w) {k t : Int} (hk : rg k) (ht : rg t) : JX yX9_crease cX9_crease 3 4 yX10_crease cX10_crease 3 3 B w [vI k, vI t] := by
  obtain ⟨m, h1, h2, h3, h4, h5⟩ := id h.1
  have hc := h.1.ci
  have hm := h.1.mi
  refine ⟨_, sp_X9_crease hc hk ht, fun a w1 hp => ?_⟩
  obtain ⟨ha, hw⟩ := hp
  subst w1
  refine ⟨_, sp_X10_crease hm hk ht, fun b w2 hp2 => ?_⟩
  obtain ⟨hb9, hw2⟩ := hp2
  subst w2
  refine ⟨?_, h.up⟩
  rw [ha, hb9]
  by_cases z : 0 ≤ k ∧ k < ((4 * n * n : Nat) : Int)
  · have nz : ¬ ¬ (0 ≤ k ∧ k < ((4 * n * n : Nat) : Int)) := fun y => y z
    rw [if_neg nz, if_neg nz]
    split
    · have hj : k.toNat < 4 * n * n := by omega
      have he : t.toNat < 3 := by omega
      rcases nb_rg h1.nr hj he with y | ⟨g, y, hg⟩
      · rw [if_pos y, JP.kd99 y]
      · rw [if_neg (by omega), h2.kdw hj he hg y]
    · rfl
  · rw [if_pos z, if_pos z]
set_option maxHeartbeats 1000000 in
theorem jx_creases {n : Nat} {B : Int} {w : wd} (h : JI n B w) {b0 : Int} (hb : b0 = 0 ∨ b0 = 1) : JX yX9_creases cX9_creases 2 5 yX10_creases cX10_creases 6 3 B w [vI b0] := by
  obtain ⟨m, h1, h2, h3, h4, h5⟩ := id h.1
  have hc := h.1.ci
  have hm := h.1.mi
  refine ⟨_, sp_X9_creases hc hb, fun a w1 hp => ?_⟩
  obtain ⟨ha, hw⟩ := hp
  subst w1
  refine ⟨_, sp_X10_creases hm hb, fun b w2 hp2 => ?_⟩
  obtain ⟨hb9, hw2⟩ := hp2
  subst w2
  refine ⟨?_, h.up⟩
  rw [ha, hb9]
  refine sm_c (fun k hk => sm_c (fun e he => ib_c ?_))
  rcases nb_rg h1.nr hk he with y | ⟨g, y, hg⟩
  · constructor
    · intro z; omega
    · intro z; omega
  · rw [h2.kdw hk he hg y]
set_option maxHeartbeats 1000000 in
theorem jx_balance {n : Nat} {B : Int} {w : wd} (h : JI n B w) {x y b0 : Int} (hx : rg x) (hy : rg y) (hb : b0 = 0 ∨ b0 = 1) : JX yX9_balance cX9_balance 4 5 yX10_balance cX10_balance 7 5 B w [vI x, vI y, vI b0] := by
  obtain ⟨m, h1, h2, h3, h4, h5⟩ := id h.1
  have hc := h.1.ci
  have hm := h.1.mi
  refine ⟨_, sp_X9_balance hc hx hy hb, fun a w1 hp => ?_⟩
  obtain ⟨ha, hw⟩ := hp
  subst w1
  refine ⟨_, sp_X10_balance hm hx hy hb, fun b w2 hp2 => ?_⟩
  obtain ⟨hb9, hw2⟩ := hp2
  subst w2
  refine ⟨?_, h.up⟩
  rw [ha, hb9]
  by_cases z : 0 ≤ x ∧ 0 ≤ y ∧ ((b0 = 1 ∧ x < n ∧ y < n) ∨ (b0 = 0 ∧ x ≤ n ∧ y ≤ n))
  · rw [if_pos z, if_pos z]
    obtain ⟨X, rfl⟩ := Int.eq_ofNat_of_zero_le z.1
    obtain ⟨Y, rfl⟩ := Int.eq_ofNat_of_zero_le z.2.1
    obtain ⟨c, hc9⟩ : ∃ c : Nat, b0 = (c : Int) := by rcases hb with q | q; exact ⟨0, q⟩; exact ⟨1, q⟩
    subst hc9
    have hpt : (c = 0 ∧ X ≤ n ∧ Y ≤ n) ∨ (c = 1 ∧ X < n ∧ Y < n) := by omega
    have key : ∀ K : Int, K ≠ 0 → sm (crE n w K (2 * (X : Int) + (c : Int)) (2 * (Y : Int) + (c : Int))) (4 * n * n) = sm (fun i => ib (gE w (enI n X Y c i) = K)) 8 := by
      intro K hK
      rw [← en_sum hK, ← ends_sum h1.nr hpt (fun k e g hk he hg hnb => h2.sym h1.nr hk he hg hnb)]
      have t1 : 2 * (X : Int) + (c : Int) = ((2 * X + c : Nat) : Int) := by omega
      have t2 : 2 * (Y : Int) + (c : Int) = ((2 * Y + c : Nat) : Int) := by omega
      rw [t1, t2]
      refine sm_c (fun k hk => sm_c (fun e he => ib_c ?_))
      rcases nb_rg h1.nr hk he with y | ⟨g, y, hg⟩
      · constructor
        · intro z; omega
        · intro z; omega
      · rw [h2.kdw hk he hg y]
    rw [key 2 (by decide), key 1 (by decide)]
  · rw [if_neg z, if_neg z]
set_option maxHeartbeats 1000000 in
theorem jx_degree {n : Nat} {B : Int} {w : wd} (h : JI n B w) {x y b0 : Int} (hx : rg x) (hy : rg y) (hb : b0 = 0 ∨ b0 = 1) : JX yX9_degree cX9_degree 4 5 yX10_degree cX10_degree 6 5 B w [vI x, vI y, vI b0] := by
  obtain ⟨m, h1, h2, h3, h4, h5⟩ := id h.1
  have hc := h.1.ci
  have hm := h.1.mi
  refine ⟨_, sp_X9_degree hc hx hy hb, fun a w1 hp => ?_⟩
  obtain ⟨ha, hw⟩ := hp
  subst w1
  refine ⟨_, sp_X10_degree hm hx hy hb, fun b w2 hp2 => ?_⟩
  obtain ⟨hb9, hw2⟩ := hp2
  subst w2
  refine ⟨?_, h.up⟩
  rw [ha, hb9]
  by_cases z : 0 ≤ x ∧ 0 ≤ y ∧ ((b0 = 1 ∧ x < n ∧ y < n) ∨ (b0 = 0 ∧ x ≤ n ∧ y ≤ n))
  · rw [if_pos z, if_pos z]
    obtain ⟨X, rfl⟩ := Int.eq_ofNat_of_zero_le z.1
    obtain ⟨Y, rfl⟩ := Int.eq_ofNat_of_zero_le z.2.1
    obtain ⟨c, hc9⟩ : ∃ c : Nat, b0 = (c : Int) := by rcases hb with q | q; exact ⟨0, q⟩; exact ⟨1, q⟩
    subst hc9
    have hpt : (c = 0 ∧ X ≤ n ∧ Y ≤ n) ∨ (c = 1 ∧ X < n ∧ Y < n) := by omega
    have key : ∀ K : Int, K ≠ 0 → sm (crE n w K (2 * (X : Int) + (c : Int)) (2 * (Y : Int) + (c : Int))) (4 * n * n) = sm (fun i => ib (gE w (enI n X Y c i) = K)) 8 := by
      intro K hK
      rw [← en_sum hK, ← ends_sum h1.nr hpt (fun k e g hk he hg hnb => h2.sym h1.nr hk he hg hnb)]
      have t1 : 2 * (X : Int) + (c : Int) = ((2 * X + c : Nat) : Int) := by omega
      have t2 : 2 * (Y : Int) + (c : Int) = ((2 * Y + c : Nat) : Int) := by omega
      rw [t1, t2]
      refine sm_c (fun k hk => sm_c (fun e he => ib_c ?_))
      rcases nb_rg h1.nr hk he with y | ⟨g, y, hg⟩
      · constructor
        · intro z; omega
        · intro z; omega
      · rw [h2.kdw hk he hg y]
    rw [key 2 (by decide), key 1 (by decide)]
  · rw [if_neg z, if_neg z]
set_option maxHeartbeats 1000000 in
theorem jx_pieces {n : Nat} {B : Int} {w : wd} (h : JI n B w) {b0 : Int} (hb : b0 = 0 ∨ b0 = 1) : JX yX9_pieces cX9_pieces 2 4 yX10_pieces cX10_pieces 4 4 B w [vI b0] := by
  obtain ⟨m, h1, h2, h3, h4, h5⟩ := id h.1
  have hc := h.1.ci
  have hm := h.1.mi
  refine ⟨_, sp_X9_pieces hc hb, fun a w1 hp => ?_⟩
  obtain ⟨ha, hw⟩ := hp
  subst w1
  refine ⟨_, sp_X10_pieces hm hb, fun b w2 hp2 => ?_⟩
  obtain ⟨L, hw2, hL, hb9⟩ := hp2
  subst w2
  refine ⟨?_, ptW.jn h⟩
  have hN := nn_le h1.nr.2
  rw [ha, hb9]
  refine sm_c (fun k hk => ib_c ?_)
  rw [h4.lab h1.nr.2 hL hk, h4.2.2.2.2.1 k hk]
  rcases h4.1 k (by omega) with q | q <;> rcases hb with r | r <;> rw [q, r] <;> simp [ib]
set_option maxHeartbeats 1000000 in
theorem jx_holes {n : Nat} {B : Int} {w : wd} (h : JI n B w) : JX yX9_holes cX9_holes 1 5 yX10_holes cX10_holes 5 4 B w [] := by
  obtain ⟨m, h1, h2, h3, h4, h5⟩ := id h.1
  have hc := h.1.ci
  have hm := h.1.mi
  refine ⟨_, sp_X9_holes hc, fun a w1 hp => ?_⟩
  obtain ⟨ha, hw⟩ := hp
  subst w1
  refine ⟨_, sp_X10_holes hm, fun b w2 hp2 => ?_⟩
  obtain ⟨L, hw2, hL, hb9⟩ := hp2
  subst w2
  refine ⟨?_, ptW.jn h⟩
  rw [ha, hb9]
  refine sm_c (fun k hk => ib_c ?_)
  rw [h4.lab h1.nr.2 hL hk, h4.2.2.2.2.1 k hk]
  constructor
  · rintro ⟨y1, y2, y3⟩
    exact ⟨⟨y1, y2⟩, fun j hj z => y3 ⟨j, hj, by rw [← h4.lab h1.nr.2 hL hj]; exact z.1, z.2⟩⟩
  · rintro ⟨⟨y1, y2⟩, y3⟩
    exact ⟨y1, y2, fun ⟨j, hj, z⟩ => y3 j hj ⟨by rw [h4.lab h1.nr.2 hL hj]; exact z.1, z.2⟩⟩
set_option maxHeartbeats 1000000 in
theorem jx_piece {n : Nat} {B : Int} {w : wd} (h : JI n B w) {k : Int} (hk : rg k) : JX yX9_piece cX9_piece 2 3 yX10_piece cX10_piece 2 4 B w [vI k] := by
  obtain ⟨m, h1, h2, h3, h4, h5⟩ := id h.1
  have hc := h.1.ci
  have hm := h.1.mi
  refine ⟨_, sp_X9_piece hc hk, fun a w1 hp => ?_⟩
  obtain ⟨ha, hw⟩ := hp
  subst w1
  refine ⟨_, sp_X10_piece hm hk, fun b w2 hp2 => ?_⟩
  by_cases z : 0 ≤ k ∧ k < ((4 * n * n : Nat) : Int)
  · rw [if_pos z] at ha hp2
    obtain ⟨L, hw2, hL, hb9⟩ := hp2
    subst w2
    refine ⟨?_, ptW.jn h⟩
    rw [ha, hb9, h4.lab h1.nr.2 hL (by omega)]
  · rw [if_neg z] at ha hp2
    obtain ⟨hb9, hw2⟩ := hp2
    subst w2
    exact ⟨by rw [ha, hb9], h.up⟩
set_option maxHeartbeats 1000000 in
theorem jx_mirror {n : Nat} {B : Int} {w : wd} (h : JI n B w) {s L : Int} (hs : rg s) (hL : rg L) : JX yX9_mirror cX9_mirror 3 4 yX10_mirror cX10_mirror 3 3 B w [vI s, vI L] := by
  obtain ⟨m, h1, h2, h3, h4, h5⟩ := id h.1
  have hc := h.1.ci
  have hm := h.1.mi
  refine ⟨_, sp_X9_mirror hc hs hL, fun a w1 hp => ?_⟩
  obtain ⟨ha, hw⟩ := hp
  subst w1
  refine ⟨_, sp_X10_mirror hm hs hL, fun b w2 hp2 => ?_⟩
  obtain ⟨hb9, hsc⟩ := hp2
  refine ⟨?_, hsc.jn h⟩
  rw [ha, hb9]
  split
  · exact ib_c (mir_same h1.nr.2 h5)
  · rfl
set_option maxHeartbeats 1000000 in
theorem jx_mirrors {n : Nat} {B : Int} {w : wd} (h : JI n B w) : JX yX9_mirrors cX9_mirrors 4 4 yX10_mirrors cX10_mirrors 4 3 B w [] := by
  obtain ⟨m, h1, h2, h3, h4, h5⟩ := id h.1
  have hc := h.1.ci
  have hm := h.1.mi
  refine ⟨_, sp_X9_mirrors hc, fun a w1 hp => ?_⟩
  obtain ⟨ha, hw⟩ := hp
  subst w1
  refine ⟨_, sp_X10_mirrors hm, fun b w2 hp2 => ?_⟩
  obtain ⟨hb9, hsc⟩ := hp2
  refine ⟨?_, hsc.jn h⟩
  rw [ha, hb9]
  exact sm_c (fun s _ => sm_c (fun kk _ => ib_c (mir_same h1.nr.2 h5)))
set_option maxHeartbeats 1000000 in
theorem jx_knife {n : Nat} {B : Int} {w : wd} (h : JI n B w) {t : Int} (ht : rg t) : JX yX9_knife cX9_knife 3 1 yX10_knife cX10_knife 3 2 B w [vI t] := by
  obtain ⟨m, h1, h2, h3, h4, h5⟩ := id h.1
  have hc := h.1.ci
  have hm := h.1.mi
  refine ⟨_, sp_X9_knife hc ht, fun a w1 hp => ?_⟩
  by_cases z : 1 ≤ t ∧ t ≤ 144
  · rw [if_pos z] at hp
    obtain ⟨ha, hw⟩ := hp
    subst w1
    have hm2 : MI n (wst w 0 6 t) := hm.c (fun o ho => wst_ne (by omega))
    refine ⟨_, sp_X10_knife hm2 ht, fun b w2 hp2 => ?_⟩
    rw [if_pos z] at hp2
    obtain ⟨hb9, hw2⟩ := hp2
    subst w2
    have e : ∀ o, o ≠ 0 → o ≠ 54 → wst (wst w 0 6 t) 54 16 t o = w o := fun o a b => (wst_ne b).trans (wst_ne a)
    have ei : ∀ i, i ≠ 16 → wst (wst w 0 6 t) 54 16 t 54 i = w 54 i := fun i hi => by simp [wst, w1, hi]
    refine ⟨?_, n, ⟨m, h1.c2 (fun o ho => e o (by omega) (by omega)) (fun i hi => ei i (by omega)) (by simp [wst, w1]; exact z) (by simp [wst, w1]), h2.c (fun o ho => e o (by omega) (by omega)), h3.c h1.2.2.2.1 (fun o ho => e o (by omega) (by omega)), h4.c (fun o ho => e o (by omega) (by omega)) (ei 17 (by decide)), h5.c (fun o ho => e o (by omega) (by omega))⟩, h.2.1.c (fun o ho => e o (by omega) (by omega)), (h.2.2.c (ei 25 (by decide)) (e 74 (by decide) (by decide))).mono (by omega)⟩
    rw [ha, hb9, wst_ne (by decide)]
    exact h1.2.2.2.2.2.2.2.1.symm
  · rw [if_neg z] at hp
    obtain ⟨ha, hw⟩ := hp
    subst w1
    refine ⟨_, sp_X10_knife hm ht, fun b w2 hp2 => ?_⟩
    rw [if_neg z] at hp2
    obtain ⟨hb9, hw2⟩ := hp2
    subst w2
    exact ⟨by rw [ha, hb9], h.up⟩
