/-! ===== figures and ways ===== -/
theorem wst_69 {w : wd} {k i : Nat} {b : Int} : wst w 69 k b 69 i = if i = k then b else w 69 i := by simp [wst, w1]
theorem sm_01 {f : Nat → Int} : ∀ N, (∀ k, k < N → f k = 0 ∨ f k = 1) → 0 ≤ sm f N ∧ sm f N ≤ N
  | 0, _ => ⟨Int.le_refl _, Int.le_refl _⟩
  | N + 1, h => by
    have h1 := sm_01 N (fun k hk => h k (by omega))
    have h2 := h N (by omega)
    rw [sm_s]
    omega
def DR (n : Nat) (w : wd) : Prop := FgO w ∧ w 21 2 = sm (w 22) (4 * n * n) ∧ SrI n w
theorem srI_0 {n : Nat} {w : wd} (hq : LQA w) (h1 : w 23 11 = 0) (h2 : w 23 9 = -99999) (h3 : w 23 10 = -99999) (h4 : w 23 7 = 0) (h5 : w 23 8 = 0) : SrI n w := by
  refine ⟨hq, 0, by rw [h1]; rfl, by omega, fun z => absurd z (by decide), Or.inl ⟨⟨?_, fun j hj => absurd hj (Nat.not_lt_zero _)⟩, h2, h3, ?_, h5⟩⟩
  · show (0 : Int) ≤ 3000; decide
  · rw [h4]; rfl
theorem LQA.c {w u : wd} (h : LQA w) (e : ∀ o, (24 ≤ o ∧ o ≤ 51) → u o = w o) : LQA u := ⟨h.1.cong (e 24 (by omega)) (fun j hj => e _ (by omega)), h.2.cong (fun o ho => e o (by unfold ownC at ho; omega))⟩
theorem for_o {w : wd} {o : Nat} (h : o ≠ 23) : forW w o = w o := by
  unfold forW
  rw [wst_ne h, wst_ne h, wst_ne h, wst_ne h, wst_ne h]
theorem for_v {w : wd} : forW w 23 11 = 0 ∧ forW w 23 9 = -99999 ∧ forW w 23 10 = -99999 ∧ forW w 23 7 = 0 ∧ forW w 23 8 = 0 := by
  unfold forW
  simp [wst, w1]
theorem fig_22 {w : wd} {k : Nat} {b : Int} : figW w k b 22 = w1 (w 22) k b := by
  unfold figW
  simp [wst]
theorem dr_ok {n : Nat} {w : wd} (h : DR n w) {k : Nat} (hk : k < 4 * n * n) (hN : 4 * n * n ≤ 144) {b : Int} (hb : b = 0 ∨ b = 1) : DR n (drwW w k b) ∧ drwW w k b 22 = w1 (w 22) k b := by
  obtain ⟨h1, h2, h3⟩ := h
  have hw := h1 k (by omega)
  unfold drwW
  split
  · rename_i z
    refine ⟨⟨h1, h2, h3⟩, ?_⟩
    funext i
    unfold w1
    split
    · rename_i y
      subst y
      rw [← z]
      rcases hw with q | q <;> rw [q] <;> rfl
    · rfl
  · rename_i z
    have e22 : forW (figW w k b) 22 = w1 (w 22) k b := (for_o (by decide)).trans fig_22
    have e21 : forW (figW w k b) 21 2 = w 21 2 + (b - w 22 k) := by
      rw [for_o (by decide)]
      unfold figW
      simp [wst, w1]
    refine ⟨⟨fun i hi => ?_, ?_, ?_⟩, e22⟩
    · rw [e22]
      unfold w1
      split
      · exact hb
      · exact h1 i hi
    · rw [e22, e21, sm_w1 _ hk, h2]
      omega
    · obtain ⟨v1, v2, v3, v4, v5⟩ := for_v (w := figW w k b)
      refine srI_0 (h3.1.c (fun o ho => (for_o (by omega)).trans ?_)) v1 v2 v3 v4 v5
      unfold figW
      rw [wst_ne (by omega), wst_ne (by omega)]
theorem drn_ok {n : Nat} {w : wd} (h : DR n w) (hN : 4 * n * n ≤ 144) {f : Nat → Nat} {b : Nat → Int} (hb : ∀ i, b i = 0 ∨ b i = 1) : ∀ M, (∀ j, j < M → f j < 4 * n * n) → DR n (drwN w f b M) ∧ (∀ i, (∀ j, j < M → f j ≠ i) → drwN w f b M 22 i = w 22 i) ∧ ((∀ i j, i < M → j < M → f i = f j → i = j) → ∀ j, j < M → drwN w f b M 22 (f j) = b j)
  | 0, _ => ⟨h, fun _ _ => rfl, fun _ j hj => absurd hj (Nat.not_lt_zero _)⟩
  | M + 1, hf => by
    obtain ⟨a1, a2, a3⟩ := drn_ok h hN hb M (fun j hj => hf j (by omega))
    obtain ⟨b1, b2⟩ := dr_ok a1 (hf M (by omega)) hN (hb M)
    have e : drwN w f b (M + 1) = drwW (drwN w f b M) (f M) (b M) := rfl
    refine ⟨by rw [e]; exact b1, fun i hi => ?_, fun hinj j hj => ?_⟩
    · rw [e, b2]
      unfold w1
      rw [if_neg (fun y => hi M (by omega) y.symm)]
      exact a2 i (fun j hj => hi j (by omega))
    · rw [e, b2]
      unfold w1
      split
      · rename_i y
        rw [hinj j M hj (by omega) y]
      · rename_i y
        have hj2 : j < M := by
          rcases Nat.lt_succ_iff_lt_or_eq.mp hj with z | z
          · exact z
          · exact absurd (by rw [z]) y
        exact a3 (fun i j hi hj => hinj i j (by omega) (by omega)) j hj2
theorem fig_jn {n m : Nat} {B : Int} {w v u : wd} (h1 : JS n m w) (h2 : JP n m w) (h3 : JR n m w) (h4 : JC n w) (hst : stO w B) (hv : ∀ o, o ≠ 21 → o ≠ 22 → o ≠ 23 → v o = w o) (hd : DR n v) (hu : ∀ o, o ≠ 69 → u o = v o) (h69 : ∀ k, k < 144 → u 69 k = 0 ∨ u 69 k = 1) (h69b : ∀ k, k < 4 * n * n → u 69 k = v 22 k) : JN B u := by
  have e : ∀ o, (o ≠ 21 ∧ o ≠ 22 ∧ o ≠ 23 ∧ o ≠ 69) → u o = w o := fun o h => (hu o h.2.2.2).trans (hv o h.1 h.2.1 h.2.2.1)
  refine ⟨n, ⟨m, h1.c (fun o ho => e o (by omega)) (fun i _ => congrFun (e 54 (by omega)) i), h2.c (fun o ho => e o (by omega)), h3.c h1.2.2.2.1 (fun o ho => e o (by omega)), h4.c (fun o ho => e o (by omega)) (congrFun (e 54 (by omega)) 17), ?_, h69, ?_, ?_⟩, hd.2.2.c (fun o ho => hu o (by omega)), (hst.c (congrFun (e 54 (by omega)) 25) (e 74 (by omega))).mono (by omega)⟩
  · unfold FgO
    rw [hu 22 (by decide)]
    exact hd.1
  · rw [hu 22 (by decide)]
    exact h69b
  · rw [hu 21 (by decide), hu 22 (by decide)]
    exact hd.2.1
theorem JF.dr {n : Nat} {w : wd} (h : JF n w) (hs : SrI n w) : DR n w := ⟨h.1, h.2.2.2, hs⟩
theorem mxS_F {N : Nat} {F G : Nat → Int} (e : ∀ f, f < N → F f = G f) (S : lys) (K s : Int) : ∀ n, n ≤ N → mxS F S K s n = mxS G S K s n
  | 0, _ => rfl
  | n + 1, h => by
    have ih := mxS_F e S K s n (by omega)
    simp only [mxS]
    rw [ih, e n (by omega)]
theorem mnS_F {N : Nat} {F G : Nat → Int} (e : ∀ f, f < N → F f = G f) (S : lys) (K s : Int) : ∀ n, n ≤ N → mnS F S K s n = mnS G S K s n
  | 0, _ => rfl
  | n + 1, h => by
    have ih := mnS_F e S K s n (by omega)
    simp only [mnS]
    rw [ih, e n (by omega)]
section FCONG
variable {N : Nat} {F G : Nat → Int}
theorem fcS_F (e : ∀ f, f < N → F f = G f) (S : lys) (s d : Nat) : fcS N F S s d = fcS N G S s d := by unfold fcS; rw [mxS_F e S _ _ N (Nat.le_refl N)]
theorem lcS_F (e : ∀ f, f < N → F f = G f) (S : lys) (s d : Nat) : lcS N F S s d = lcS N G S s d := by unfold lcS; rw [mnS_F e S _ _ N (Nat.le_refl N)]
theorem cutN_F (e : ∀ f, f < N → F f = G f) (S : lys) : cutN N F S = cutN N G S := by
  unfold cutN
  exact sm_c (fun s _ => sm_c (fun d _ => by rw [fcS_F e, lcS_F e]))
theorem lstT_F {P Q : Nat → Prop} [DecidablePred P] [DecidablePred Q] (h : ∀ t, P t ↔ Q t) : ∀ n, lstT P n = lstT Q n
  | 0 => rfl
  | n + 1 => by
    simp only [lstT]
    rw [lstT_F h n]
    by_cases z : ∃ t, t < n ∧ P t
    · have z2 : ∃ t, t < n ∧ Q t := by obtain ⟨t, a, b⟩ := z; exact ⟨t, a, (h t).mp b⟩
      rw [if_pos z, if_pos z2]
    · have z2 : ¬ ∃ t, t < n ∧ Q t := fun ⟨t, a, b⟩ => z ⟨t, a, (h t).mpr b⟩
      rw [if_neg z, if_neg z2]
theorem goS_F (e : ∀ f, f < N → F f = G f) (S : lys) (t : Nat) : goS N F S t ↔ goS N G S t := by
  constructor
  · rintro ⟨a, b⟩
    exact ⟨a, fun f hf g hg m => by rw [← e f hf, ← e g hg]; exact b f hf g hg m⟩
  · rintro ⟨a, b⟩
    exact ⟨a, fun f hf g hg m => by rw [e f hf, e g hg]; exact b f hf g hg m⟩
theorem cnt_F (e : ∀ f, f < N → F f = G f) : ∀ d S, cnt N F d S = cnt N G d S
  | 0, _ => rfl
  | d + 1, S => by
    simp only [cnt]
    refine sm_c (fun t _ => ?_)
    have h := goS_F e S t
    by_cases z : goS N F S t
    · rw [if_pos z, if_pos (h.mp z), cnt_F e d]
    · rw [if_neg z, if_neg (fun y => z (h.mpr y))]
theorem weiS_F (e : ∀ f, f < N → F f = G f) (g : Nat) (S : lys) (r : Nat → Int) (a : acT) : weiS N F g S r a = weiS N G g S r a := by
  unfold weiS
  have h : lstT (cutOk N F S) 584 = lstT (cutOk N G S) 584 := lstT_F (fun t => by unfold cutOk; rw [fcS_F e, lcS_F e]) 584
  rw [cutN_F e, h]
theorem accD_F (e : ∀ f, f < N → F f = G f) (g : Nat) : ∀ d S r (a : acT), accD N F g d S r a = accD N G g d S r a
  | 0, S, r, a => weiS_F e g S r a
  | d + 1, S, r, a => by
    simp only [accD]
    have key : ∀ M, loopT (fun t a => if goS N F S t then accD N F g d (nxS S t) (w1 r (g - (d + 1)) t) a else a) M a = loopT (fun t a => if goS N G S t then accD N G g d (nxS S t) (w1 r (g - (d + 1)) t) a else a) M a := by
      intro M
      induction M with
      | zero => rfl
      | succ M ih =>
        simp only [loopT]
        rw [ih]
        have h := goS_F e S M
        by_cases z : goS N F S M
        · rw [if_pos z, if_pos (h.mp z), accD_F e g d]
        · rw [if_neg z, if_neg (fun y => z (h.mpr y))]
    exact key 584
end FCONG
section FCONG2
variable {n : Nat} {F G : Nat → Int}
theorem rwS_F (e : ∀ f, f < 4 * n * n → F f = G f) (t : Nat) : rwS n F t = rwS n G t := by
  unfold rwS
  exact sm_c (fun j _ => by rw [cnt_F e])
theorem acS_F (e : ∀ f, f < 4 * n * n → F f = G f) (j : Nat) : acS n F j = acS n G j := by unfold acS; rw [accD_F e]
theorem lkS_F (e : ∀ f, f < 4 * n * n → F f = G f) : ∀ m, lkS n F m = lkS n G m
  | 0 => rfl
  | m + 1 => by
    simp only [lkS]
    rw [lkS_F e m, rwS_F e, acS_F e]
theorem fewF_F (e : ∀ f, f < 4 * n * n → F f = G f) (t : Int) : fewF n F t = fewF n G t := by unfold fewF; rw [lkS_F e]
theorem wayF_F (e : ∀ f, f < 4 * n * n → F f = G f) (t i : Int) : wayF n F t i = wayF n G t i := by unfold wayF; rw [lkS_F e, acS_F e]
theorem wysF_F (e : ∀ f, f < 4 * n * n → F f = G f) (t : Int) : wysF n F t = wysF n G t := by unfold wysF; rw [lkS_F e, acS_F e]
end FCONG2
set_option maxHeartbeats 1000000 in
theorem jx_fewest {n : Nat} {B : Int} {w : wd} (h : JI n B w) (hB : B + 3169056 ≤ 2000000000) {t : Int} (ht : rg t) : JX yX9_fewest cX9_fewest 2 12 yX10_fewest cX10_fewest 2 6 B w [vI t] := by
  obtain ⟨m, h1, h2, h3, h4, h5⟩ := id h.1
  have hc := h.1.ci
  have hm := h.1.mi
  have hN := nn_le h1.nr.2
  have hr : -1000 ≤ w 21 2 ∧ w 21 2 ≤ 1000 := by
    rw [h5.2.2.2]
    have := sm_01 (f := w 22) (4 * n * n) (fun k hk => h5.1 k (by omega))
    omega
  refine ⟨_, sp_X9_fewest hc hr h.2.1 ht, fun a w1 hp => ?_⟩
  obtain ⟨ha, hw, hs⟩ := hp
  have vo : ∀ o, (o ≤ 22 ∨ 54 ≤ o) → w1 o = w o := fun o ho => hw o (by unfold srC; omega)
  have hm2 : MI n w1 := hm.c (fun o ho => vo o (by omega))
  refine ⟨_, sp_X10_fewest (Bx := B) hm2 (h.2.2.c (congrFun (vo 54 (by omega)) 25) (vo 74 (by omega))) hB ht, fun b w2 hp2 => ?_⟩
  obtain ⟨hb9, hf, hst⟩ := hp2
  refine ⟨?_, n, (h.1.c (fun o ho => vo o (by omega)) (fun i _ => congrFun (vo 54 (by omega)) i)).c (fun o ho => hf.1 o (by omega) (by omega)) (fun i hi => hf.2 i (by omega) (by omega) (by omega) (by omega) (by omega) (by omega)), hs.c (fun o ho => hf.1 o (by omega) (by omega)), hst⟩
  rw [ha, hb9, vo 69 (by omega)]
  exact fewF_F (fun f hf => by unfold flF; rw [if_pos hf, h5.2.2.1 f hf]) _
set_option maxHeartbeats 1000000 in
theorem jx_way {n : Nat} {B : Int} {w : wd} (h : JI n B w) (hB : B + 3169056 ≤ 2000000000) {t i : Int} (ht : rg t) (hi : rg i) : JX yX9_way cX9_way 4 12 yX10_way cX10_way 5 6 B w [vI t, vI i] := by
  obtain ⟨m, h1, h2, h3, h4, h5⟩ := id h.1
  have hc := h.1.ci
  have hm := h.1.mi
  have hN := nn_le h1.nr.2
  have hr : -1000 ≤ w 21 2 ∧ w 21 2 ≤ 1000 := by
    rw [h5.2.2.2]
    have := sm_01 (f := w 22) (4 * n * n) (fun k hk => h5.1 k (by omega))
    omega
  refine ⟨_, sp_X9_way hc hr h.2.1 ht hi, fun a w1 hp => ?_⟩
  obtain ⟨ha, hw, hs⟩ := hp
  have vo : ∀ o, (o ≤ 22 ∨ 54 ≤ o) → w1 o = w o := fun o ho => hw o (by unfold srC; omega)
  have hm2 : MI n w1 := hm.c (fun o ho => vo o (by omega))
  refine ⟨_, sp_X10_way (Bx := B) hm2 (h.2.2.c (congrFun (vo 54 (by omega)) 25) (vo 74 (by omega))) hB ht hi, fun b w2 hp2 => ?_⟩
  obtain ⟨hb9, hf, hst⟩ := hp2
  refine ⟨?_, n, (h.1.c (fun o ho => vo o (by omega)) (fun i _ => congrFun (vo 54 (by omega)) i)).c (fun o ho => hf.1 o (by omega) (by omega)) (fun i hi => hf.2 i (by omega) (by omega) (by omega) (by omega) (by omega) (by omega)), hs.c (fun o ho => hf.1 o (by omega) (by omega)), hst⟩
  rw [ha, hb9, vo 69 (by omega)]
  exact wayF_F (fun f hf => by unfold flF; rw [if_pos hf, h5.2.2.1 f hf]) _ _
set_option maxHeartbeats 1000000 in
theorem jx_ways {n : Nat} {B : Int} {w : wd} (h : JI n B w) (hB : B + 3169056 ≤ 2000000000) {t : Int} (ht : rg t) : JX yX9_ways cX9_ways 3 12 yX10_ways cX10_ways 2 6 B w [vI t] := by
  obtain ⟨m, h1, h2, h3, h4, h5⟩ := id h.1
  have hc := h.1.ci
  have hm := h.1.mi
  have hN := nn_le h1.nr.2
  have hr : -1000 ≤ w 21 2 ∧ w 21 2 ≤ 1000 := by
    rw [h5.2.2.2]
    have := sm_01 (f := w 22) (4 * n * n) (fun k hk => h5.1 k (by omega))
    omega
  refine ⟨_, sp_X9_ways hc hr h.2.1 ht, fun a w1 hp => ?_⟩
  obtain ⟨ha, hw, hs⟩ := hp
  have vo : ∀ o, (o ≤ 22 ∨ 54 ≤ o) → w1 o = w o := fun o ho => hw o (by unfold srC; omega)
  have hm2 : MI n w1 := hm.c (fun o ho => vo o (by omega))
  refine ⟨_, sp_X10_ways (Bx := B) hm2 (h.2.2.c (congrFun (vo 54 (by omega)) 25) (vo 74 (by omega))) hB ht, fun b w2 hp2 => ?_⟩
  obtain ⟨hb9, hf, hst⟩ := hp2
  refine ⟨?_, n, (h.1.c (fun o ho => vo o (by omega)) (fun i _ => congrFun (vo 54 (by omega)) i)).c (fun o ho => hf.1 o (by omega) (by omega)) (fun i hi => hf.2 i (by omega) (by omega) (by omega) (by omega) (by omega) (by omega)), hs.c (fun o ho => hf.1 o (by omega) (by omega)), hst⟩
  rw [ha, hb9, vo 69 (by omega)]
  exact wysF_F (fun f hf => by unfold flF; rw [if_pos hf, h5.2.2.1 f hf]) _
set_option maxHeartbeats 1000000 in
theorem jx_mark {n : Nat} {B : Int} {w : wd} (h : JI n B w) {k b0 : Int} (hk : rg k) (hb : b0 = 0 ∨ b0 = 1) : JX yX9_mark cX9_mark 4 4 yX10_mark cX10_mark 4 3 B w [vI k, vI b0] := by
  obtain ⟨m, h1, h2, h3, h4, h5⟩ := id h.1
  have hc := h.1.ci
  have hm := h.1.mi
  have hN := nn_le h1.nr.2
  refine ⟨_, sp_X9_mark hc hk hb, fun a w1 hp => ?_⟩
  by_cases z : 0 ≤ k ∧ k < ((4 * n * n : Nat) : Int)
  · rw [if_pos z] at hp
    obtain ⟨ha, hw⟩ := hp
    have hj : k.toNat < 4 * n * n := by omega
    obtain ⟨d1, d2⟩ := dr_ok (h5.dr h.2.1) hj hN hb
    rw [← hw] at d1 d2
    have vo : ∀ o, (o ≠ 21 ∧ o ≠ 22 ∧ o ≠ 23) → w1 o = w o := fun o ho => by rw [hw]; exact drwW_o ho
    have hm2 : MI n w1 := hm.c (fun o ho => vo o (by omega))
    refine ⟨_, sp_X10_mark hm2 hk hb, fun b w2 hp2 => ?_⟩
    rw [if_pos z] at hp2
    obtain ⟨hb9, hw2⟩ := hp2
    have e69 : ∀ i, w2 69 i = if i = k.toNat then b0 else w 69 i := fun i => by rw [hw2, ← vo 69 (by omega)]; exact wst_69
    refine ⟨?_, fig_jn h1 h2 h3 h4 h.2.2 (fun o a b c => vo o ⟨a, b, c⟩) d1 (fun o ho => by rw [hw2]; exact wst_ne ho) (fun i hi => ?_) (fun i hi => ?_)⟩
    · rw [ha, hb9, vo 69 (by omega), h5.2.2.1 _ hj]
    · rw [e69]; split
      · exact hb
      · exact h5.2.1 i hi
    · rw [e69, d2, h5.2.2.1 i hi]; rfl
  · rw [if_neg z] at hp
    obtain ⟨ha, hw⟩ := hp
    subst w1
    refine ⟨_, sp_X10_mark hm hk hb, fun b w2 hp2 => ?_⟩
    rw [if_neg z] at hp2
    obtain ⟨hb9, hw2⟩ := hp2
    subst w2
    exact ⟨by rw [ha, hb9], h.up⟩
set_option maxHeartbeats 1000000 in
theorem jx_markCell {n : Nat} {B : Int} {w : wd} (h : JI n B w) {x y b0 : Int} (hx : rg x) (hy : rg y) (hb : b0 = 0 ∨ b0 = 1) : JX yX9_markCell cX9_markCell 5 4 yX10_markCell cX10_markCell 5 3 B w [vI x, vI y, vI b0] := by
  obtain ⟨m, h1, h2, h3, h4, h5⟩ := id h.1
  have hc := h.1.ci
  have hm := h.1.mi
  have hN := nn_le h1.nr.2
  refine ⟨_, sp_X9_markCell hc hx hy hb, fun a w1 hp => ?_⟩
  by_cases z : 0 ≤ x ∧ x < n ∧ 0 ≤ y ∧ y < n
  · rw [if_pos z] at hp
    obtain ⟨hw, ha⟩ := hp
    have hj : ∀ j, j < 4 → 4 * (y.toNat * n + x.toNat) + j < 4 * n * n := fun j hj => idx_lt (by omega) (by omega) hj
    obtain ⟨d1, d2, d3⟩ := drn_ok (h5.dr h.2.1) hN (f := fun q => 4 * (y.toNat * n + x.toNat) + q) (b := fun _ => b0) (fun _ => hb) 4 hj
    rw [← hw] at d1 d2 d3
    have d4 := d3 (fun i j _ _ e => by omega)
    have vo : ∀ o, (o ≠ 21 ∧ o ≠ 22 ∧ o ≠ 23) → w1 o = w o := fun o ho => by rw [hw]; exact drwN_o ho 4
    have hm2 : MI n w1 := hm.c (fun o ho => vo o (by omega))
    refine ⟨_, sp_X10_markCell hm2 hx hy hb, fun b w2 hp2 => ?_⟩
    rw [if_pos z] at hp2
    obtain ⟨hw2, hb9⟩ := hp2
    have e69 : ∀ i, w2 69 i = if 4 * (y.toNat * n + x.toNat) ≤ i ∧ i < 4 * (y.toNat * n + x.toNat) + 4 then b0 else w 69 i := fun i => by
      rw [hw2]
      unfold mkC
      rw [vo 69 (by omega)]
      simp
    have e22 : ∀ i, i < 4 * n * n → w2 69 i = w1 22 i := fun i hi => by
      rw [e69]
      by_cases q : 4 * (y.toNat * n + x.toNat) ≤ i ∧ i < 4 * (y.toNat * n + x.toNat) + 4
      · rw [if_pos q]
        have := d4 (i - 4 * (y.toNat * n + x.toNat)) (by omega)
        rw [show 4 * (y.toNat * n + x.toNat) + (i - 4 * (y.toNat * n + x.toNat)) = i by omega] at this
        exact this.symm
      · rw [if_neg q, d2 i (fun j hj e => q (by omega)), h5.2.2.1 i hi]
    have e69r : ∀ i, i < 144 → w2 69 i = 0 ∨ w2 69 i = 1 := fun i hi => by
      rw [e69]; split
      · exact hb
      · exact h5.2.1 i hi
    refine ⟨?_, fig_jn h1 h2 h3 h4 h.2.2 (fun o a b c => vo o ⟨a, b, c⟩) d1 (fun o ho => by rw [hw2]; unfold mkC; funext i; rw [if_neg (fun q => ho q.1)]) e69r e22⟩
    rw [ha, hb9, d1.2.1]
    refine sm_c (fun k hk => ?_)
    rw [e22 k hk]
    rcases d1.1 k (by omega) with q | q <;> rw [q] <;> rfl
  · rw [if_neg z] at hp
    obtain ⟨ha, hw⟩ := hp
    subst w1
    refine ⟨_, sp_X10_markCell hm hx hy hb, fun b w2 hp2 => ?_⟩
    rw [if_neg z] at hp2
    obtain ⟨hb9, hw2⟩ := hp2
    subst w2
    exact ⟨by rw [ha, hb9], h.up⟩
set_option maxHeartbeats 1000000 in
theorem jx_take {n : Nat} {B : Int} {w : wd} (h : JI n B w) : JX yX9_take cX9_take 2 4 yX10_take cX10_take 2 3 B w [] := by
  obtain ⟨m, h1, h2, h3, h4, h5⟩ := id h.1
  have hc := h.1.ci
  have hm := h.1.mi
  have hN := nn_le h1.nr.2
  refine ⟨_, sp_X9_take hc, fun a w1 hp => ?_⟩
  by_cases z : w 17 4 = 0
  · rw [if_pos z] at hp
    obtain ⟨ha, hw⟩ := hp
    subst w1
    refine ⟨_, sp_X10_take hm, fun b w2 hp2 => ?_⟩
    rw [if_pos (by rw [h4.2.2.2.1]; exact z)] at hp2
    obtain ⟨hb9, hw2⟩ := hp2
    subst w2
    exact ⟨by rw [ha, hb9], h.up⟩
  · rw [if_neg z] at hp
    obtain ⟨hw, ha⟩ := hp
    obtain ⟨d1, d2, d3⟩ := drn_ok (h5.dr h.2.1) hN (f := fun k => k) (b := fun k => ib (w 18 k = 1)) (fun _ => ib_01) (4 * n * n) (fun j hj => hj)
    rw [← hw] at d1 d2 d3
    have d4 := d3 (fun i j _ _ e => e)
    have vo : ∀ o, (o ≠ 21 ∧ o ≠ 22 ∧ o ≠ 23) → w1 o = w o := fun o ho => by rw [hw]; exact drwN_o ho _
    have hm2 : MI n w1 := hm.c (fun o ho => vo o (by omega))
    refine ⟨_, sp_X10_take hm2, fun b w2 hp2 => ?_⟩
    rw [if_neg (by rw [vo 54 (by omega), h4.2.2.2.1]; exact z)] at hp2
    obtain ⟨hw2, hb9⟩ := hp2
    have e69 : ∀ i, w2 69 i = if i < 4 * n * n then w 68 i else w 69 i := fun i => by
      rw [hw2]
      unfold tkF
      rw [vo 69 (by omega), vo 68 (by omega)]
      simp
    have e22 : ∀ i, i < 4 * n * n → w2 69 i = w1 22 i := fun i hi => by
      have := d4 i hi
      rw [e69, if_pos hi, this, h4.2.2.2.2.1 i hi]
      rcases h4.1 i (by omega) with q | q <;> rw [q] <;> rfl
    have e69r : ∀ i, i < 144 → w2 69 i = 0 ∨ w2 69 i = 1 := fun i hi => by
      rw [e69]; split
      · exact h4.2.2.2.2.2.1 i hi
      · exact h5.2.1 i hi
    refine ⟨?_, fig_jn h1 h2 h3 h4 h.2.2 (fun o a b c => vo o ⟨a, b, c⟩) d1 (fun o ho => by rw [hw2]; unfold tkF; funext i; rw [if_neg (fun q => ho q.1)]) e69r e22⟩
    rw [ha, hb9, d1.2.1]
    refine sm_c (fun k hk => ?_)
    rw [e22 k hk]
    rcases d1.1 k (by omega) with q | q <;> rw [q] <;> rfl
