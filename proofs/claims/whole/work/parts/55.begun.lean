/-! ===== a new sheet; the cut ===== -/
def BEG (n : Nat) (w : wd) : Prop := ShO n w ∧ w 5 11 = 0 ∧ (∃ X : wd, ∀ o, 6 ≤ o → o ≤ 11 → w o = flatW n X o) ∧ w 17 4 = 0 ∧ w 17 5 = 0 ∧ (∀ i, i < 144 → w 18 i = 0) ∧ LsO w ∧ Lab n (fun k => ib (w 18 k = 1)) (w 19) ∧ (∀ i, i < 144 → w 22 i = 0) ∧ w 21 2 = 0 ∧ (w 23 11 = 0 ∧ w 23 9 = -99999 ∧ w 23 10 = -99999 ∧ w 23 7 = 0 ∧ w 23 8 = 0)
def JB (w : wd) : Prop := (∀ k, k < 144 → w 68 k = 0 ∨ w 68 k = 1) ∧ (∀ k, k < 144 → w 69 k = 0 ∨ w 69 k = 1) ∧ (∀ i, i < 432 → 0 ≤ w 60 i ∧ w 60 i ≤ 2) ∧ (∀ i, i < 1152 → w 65 i = 0 ∨ w 65 i = 1) ∧ (∀ i, i < 3456 → 0 ≤ w 66 i ∧ w 66 i ≤ 2) ∧ (∀ i, i < 8 → rg (w 12 i) ∧ rg (w 13 i) ∧ rg (w 14 i) ∧ (w 15 i = 0 ∨ w 15 i = 1)) ∧ (1 ≤ w 0 6 ∧ w 0 6 ≤ 144) ∧ w 54 16 = w 0 6 ∧ w 54 0 = 0 ∧ LQA w
theorem beg_o {n : Nat} {w : wd} {L Q : Nat → Int} {o : Nat} (h : o = 0 ∨ (12 ≤ o ∧ o ≤ 16) ∨ 24 ≤ o) : forW (wst (wfl (wLQ (begW n w) L Q) 22 144 0) 21 2 0) o = w o := by
  rw [for_o (by omega), wst_ne (by omega)]
  funext i
  unfold wfl wLQ begW mndW
  rw [if_neg (by omega), if_neg (by omega), if_neg (by omega)]
  unfold wfl
  rw [if_neg (by omega), wst_ne (by omega), wst_ne (by omega), flatW_o (by omega), wst_ne (by omega), resW_o (by omega)]
theorem beg_is {n : Nat} {w u : wd} {L Q : Nat → Int} (hn : 1 ≤ n ∧ n ≤ 6) (hu : u = forW (wst (wfl (wLQ (begW n w) L Q) 22 144 0) 21 2 0)) (hL : Lab n (fun k => ib (begW n w 18 k = 1)) L) (hr : ∀ a, a < 144 → -99999 ≤ L a ∧ L a ≤ 144) : BEG n u := by
  have e1 : ∀ o, o ≠ 17 → o ≠ 18 → o ≠ 19 → o ≠ 20 → o ≠ 21 → o ≠ 22 → o ≠ 23 → u o = flatW n (wst (resW w n) 5 11 0) o := fun o a b c d e f g => by
    rw [hu, for_o g, wst_ne e]
    funext i
    unfold wfl wLQ begW mndW
    rw [if_neg (fun q => f q.1), if_neg c, if_neg d]
    unfold wfl
    rw [if_neg (fun q => b q.1), wst_ne a, wst_ne a]
  have e18 : u 18 = begW n w 18 := by
    rw [hu, for_o (by decide), wst_ne (by decide)]
    funext i
    unfold wfl wLQ
    rw [if_neg (by omega), if_neg (by omega), if_neg (by omega)]
  have e19 : u 19 = L := by
    rw [hu, for_o (by decide), wst_ne (by decide)]
    funext i
    unfold wfl wLQ
    rw [if_neg (by omega), if_pos rfl]
  have e17 : u 17 = begW n w 17 := by
    rw [hu, for_o (by decide), wst_ne (by decide)]
    funext i
    unfold wfl wLQ
    rw [if_neg (by omega), if_neg (by omega), if_neg (by omega)]
  have b17 : begW n w 17 4 = 0 ∧ begW n w 17 5 = 0 := by
    unfold begW mndW
    simp [wfl, wst, w1]
  have b18 : ∀ i, i < 144 → begW n w 18 i = 0 := fun i hi => by
    unfold begW mndW wfl
    rw [if_pos ⟨rfl, hi⟩]
  refine ⟨(resW_ok (w := w) hn).keep (fun o ho => ?_), ?_, ⟨wst (resW w n) 5 11 0, fun o a b => e1 o (by omega) (by omega) (by omega) (by omega) (by omega) (by omega) (by omega)⟩, by rw [e17]; exact b17.1, by rw [e17]; exact b17.2, fun i hi => by rw [e18]; exact b18 i hi, ?_, by rw [e18, e19]; exact hL, fun i hi => ?_, ?_, ?_⟩
  · rw [e1 o (by omega) (by omega) (by omega) (by omega) (by omega) (by omega) (by omega), flatW_o (by omega), wst_ne (by omega)]
  · rw [e1 5 (by omega) (by omega) (by omega) (by omega) (by omega) (by omega) (by omega), flatW_o (by omega)]
    simp [wst, w1]
  · unfold LsO
    rw [e19]
    exact hr
  · rw [hu, for_o (by decide), wst_ne (by decide)]
    unfold wfl
    rw [if_pos ⟨rfl, hi⟩]
  · rw [hu, for_o (by decide)]
    simp [wst, w1]
  · rw [hu]
    exact for_v
theorem BEG.c {n : Nat} {w u : wd} (h : BEG n w) (e : ∀ o, (o < 54 ∧ o ≠ 0) → u o = w o) : BEG n u := by
  obtain ⟨⟨s1, s2, s3, s4, s5⟩, a2, ⟨X, a3⟩, a4, a5, a6, a7, a8, a9, a10, a11⟩ := h
  refine ⟨⟨s1, ?_, ?_, ?_, ?_⟩, ?_, ⟨X, fun o a b => (e o (by omega)).trans (a3 o a b)⟩, ?_, ?_, ?_, ?_, ?_, ?_, ?_, ?_⟩
  · rw [e 1 (by omega)]; exact s2
  · rw [e 1 (by omega)]; exact s3
  · rw [e 2 (by omega), e 3 (by omega)]; exact s4
  · rw [e 4 (by omega)]; exact s5
  · rw [e 5 (by omega)]; exact a2
  · rw [e 17 (by omega)]; exact a4
  · rw [e 17 (by omega)]; exact a5
  · rw [e 18 (by omega)]; exact a6
  · unfold LsO; rw [e 19 (by omega)]; exact a7
  · rw [e 18 (by omega), e 19 (by omega)]; exact a8
  · rw [e 22 (by omega)]; exact a9
  · rw [e 21 (by omega)]; exact a10
  · rw [e 23 (by omega)]; exact a11
theorem sm_zero {f : Nat → Int} : ∀ N, (∀ k, k < N → f k = 0) → sm f N = 0
  | 0, _ => rfl
  | N + 1, h => by rw [sm_s, sm_zero N (fun k hk => h k (by omega)), h N (by omega)]; rfl
theorem sm_onek {N k : Nat} : k < N → sm (fun j => ib (j = k)) N = 1 := by
  induction N with
  | zero => intro h; omega
  | succ N ih =>
    intro h
    rw [sm_s]
    by_cases z : N = k
    · rw [ib_t z, sm_none N (fun j hj => by omega)]; rfl
    · rw [ib_f z, ih (by omega)]; rfl
theorem geo0 {n : Nat} (hn : 1 ≤ n ∧ n ≤ 6) : GEO n 0 (S0 n) (fun _ => 0) (fun _ => 1) (fun _ => 0) := by
  have hc : ∀ k, k < 4 * n * n → cnS (4 * n * n) (S0 n) (S0 n k) = 1 := fun k hk => by
    unfold cnS
    rw [sm_c (g := fun j => ib (j = k)) (fun j _ => ib_c ⟨fun e => S0_inj e, fun e => by rw [e]⟩)]
    exact sm_onek hk
  refine ⟨S0_box hn, fun k hk => by rw [hc k hk]; exact ⟨Int.le_refl 0, (by decide : (0 : Int) < 1)⟩, fun k hk => ⟨⟨k, hk, rfl, rfl⟩, ⟨k, hk, rfl, by rw [hc k hk]; rfl⟩⟩, fun _ _ => Or.inr rfl, fun k e g hk he hg hnb => Or.inl ⟨rfl, rfl, ?_⟩⟩
  have eq : lq k = ((k % 4 : Nat) : Int) := rfl
  have eqg : lq g = ((g % 4 : Nat) : Int) := rfl
  rcases (by omega : e = 0 ∨ e = 1 ∨ e = 2) with rfl | rfl | rfl
  · have hp : nb n k 0 = acr n (lx n k) (ly n k) (lq k) := rfl
    rw [hp] at hnb
    by_cases z : 0 ≤ ax (lx n k) (lq k) ∧ ax (lx n k) (lq k) < n ∧ 0 ≤ ay (ly n k) (lq k) ∧ ay (ly n k) (lq k) < n
    · have hnb : 4 * (ay (ly n k) (lq k) * n + ax (lx n k) (lq k)) + (lq k + 2) % 4 = (g : Int) := by rw [← hnb]; exact (if_pos z).symm
      obtain ⟨X, hX⟩ := Int.eq_ofNat_of_zero_le z.1
      obtain ⟨Y, hY⟩ := Int.eq_ofNat_of_zero_le z.2.2.1
      obtain ⟨q, hq⟩ := Int.eq_ofNat_of_zero_le (show 0 ≤ (lq k + 2) % 4 by omega)
      rw [hX, hY, hq] at hnb
      have hg2 : g = 4 * (Y * n + X) + q := by
        have h2 : ((4 * (Y * n + X) + q : Nat) : Int) = (g : Int) := by rw [← hnb]; simp only [Int.natCast_add, Int.natCast_mul]; rfl
        omega
      obtain ⟨f1, f2, f3⟩ := lf_div (n := n) (x := X) (y := Y) (q := q) (by omega) (by omega)
      rw [← hg2] at f1 f2 f3
      show (lx n g, ly n g, lq g) = (ax (lx n k) (lq k), ay (ly n k) (lq k), (lq k + 2) % 4)
      rw [f1, f2, f3, hX, hY, hq]
    · exfalso
      have : acr n (lx n k) (ly n k) (lq k) = -99999 := if_neg z
      omega
  · have hp : nb n k 1 = (k : Int) - lq k + (lq k + 1) % 4 := rfl
    rw [hp, eq] at hnb
    have h4 : g / 4 = k / 4 := by omega
    show (lx n g, ly n g, lq g) = (lx n k, ly n k, (lq k + 1) % 4)
    unfold lx ly
    rw [h4, eq, eqg]
    have : ((g % 4 : Nat) : Int) = (((k % 4 : Nat) : Int) + 1) % 4 := by omega
    rw [this]
  · have hp : nb n k 2 = (k : Int) - lq k + (lq k + 3) % 4 := rfl
    rw [hp, eq] at hnb
    have h4 : g / 4 = k / 4 := by omega
    show (lx n g, ly n g, lq g) = (lx n k, ly n k, (lq k + 3) % 4)
    unfold lx ly
    rw [h4, eq, eqg]
    have : ((g % 4 : Nat) : Int) = (((k % 4 : Nat) : Int) + 3) % 4 := by omega
    rw [this]
theorem flat_at {n : Nat} {X : wd} {k : Nat} (hk : k < 4 * n * n) : pP (flatW n X) 6 k = S0 n k ∧ flatW n X 9 k = 0 ∧ flatW n X 10 k = 1 := by
  unfold pP
  simp [flatW, mesP, sprP, hk, S0]
/-- both begun anew -/
theorem begun {n : Nat} {v u : wd} (hb : BEG n v) (hj : JB v) (hu : u = begR n v) : JE n u ∧ SrI n u := by
  obtain ⟨a1, a2, ⟨X, a3⟩, a4, a5, a6, a7, a8, a9, a10, a11⟩ := hb
  obtain ⟨b1, b2, b3, b4, b5, b6, b7, b8, b9, b10⟩ := hj
  have hn := a1.1
  have hN := nn_le hn.2
  have uo : ∀ o, (o < 54 ∨ (60 < o ∧ o < 68) ∨ 69 < o) → u o = v o := fun o h => by
    rw [hu]; unfold begR
    rw [wst_ne (by omega), wst_ne (by omega), begM_o (by omega), wst_ne (by omega)]
  have u54 : ∀ i, u 54 i = if i = 17 then 0 else if i = 8 then 0 else if i = 1 then (n : Int) else v 54 i := fun i => by
    rw [hu]; unfold begR
    simp only [wst, w1, begM_o (show 54 < 55 ∨ _ from Or.inl (by decide))]
    simp
    rfl
  have um : ∀ o, (55 ≤ o ∧ o ≤ 69) → ∀ i, u o i = begM n (wst v 54 1 n) (4 * n * n) (3 * (4 * n * n)) o i := fun o h i => by
    rw [hu]; unfold begR
    rw [wst_ne (by omega), wst_ne (by omega)]
  have ul : ∀ o k, ((55 ≤ o ∧ o ≤ 59) ∨ o = 68 ∨ o = 69) → k < 4 * n * n → u o k = if o = 55 then lx n k else if o = 56 then ly n k else if o = 57 then lq k else if o = 59 then 1 else 0 := fun o k h hk => by
    rw [um o (by omega)]
    unfold begM
    rw [if_pos ⟨h, hk⟩]
  have ulf : ∀ o k, (o = 68 ∨ o = 69) → ¬ k < 4 * n * n → u o k = v o k := fun o k h hk => by
    rw [um o (by omega)]
    unfold begM
    rw [if_neg (fun q => hk q.2), if_neg (by omega), wst_ne (by omega)]
  have u60 : ∀ c, u 60 c = if c < 3 * (4 * n * n) then 0 else v 60 c := fun c => by
    rw [um 60 (by omega)]
    unfold begM
    rw [if_neg (by omega)]
    split
    · rename_i z; rw [if_pos z.2]
    · rename_i z; rw [if_neg (fun y => z ⟨rfl, y⟩), wst_ne (by omega)]
  have uf : ∀ o, 6 ≤ o → o ≤ 11 → u o = flatW n X o := fun o a b => (uo o (by omega)).trans (a3 o a b)
  have sat : ∀ k, k < 4 * n * n → pP u 6 k = S0 n k ∧ u 9 k = 0 ∧ u 10 k = 1 := fun k hk => by
    rw [pP_c (uf 6 (by omega) (by omega)) (uf 7 (by omega) (by omega)) (uf 8 (by omega) (by omega)), uf 9 (by omega) (by omega), uf 10 (by omega) (by omega)]
    exact flat_at hk
  have u18 : ∀ i, i < 144 → u 18 i = 0 := fun i hi => by rw [uo 18 (by omega)]; exact a6 i hi
  have u22 : ∀ i, i < 144 → u 22 i = 0 := fun i hi => by rw [uo 22 (by omega)]; exact a9 i hi
  have h68 : ∀ k, k < 4 * n * n → u 68 k = 0 := fun k hk => by rw [ul 68 k (by omega) hk]; simp
  have h69 : ∀ k, k < 4 * n * n → u 69 k = 0 := fun k hk => by rw [ul 69 k (by omega) hk]; simp
  refine ⟨⟨0, ⟨a1.keep (fun o ho => uo o (by omega)), by rw [u54]; rfl, by rw [u54]; exact b9, by omega, by rw [uo 5 (by omega)]; exact a2, by rw [u54]; rfl, by rw [uo 0 (by omega)]; exact b7, by rw [u54, uo 0 (by omega)]; exact b8, fun i hi => ?_, by rw [uo 65 (by omega)]; exact b4, by rw [uo 66 (by omega)]; exact b5⟩, ⟨?_, ?_, fun k hk => ?_⟩, ⟨fun o a b => ?_, ?_, fun i hi => absurd hi (Nat.not_lt_zero _)⟩, ⟨fun k hk => Or.inl (u18 k hk), ?_, ?_, ?_, fun k hk => ?_, fun k hk => ?_, ?_, ?_⟩, ⟨fun k hk => Or.inl (u22 k hk), fun k hk => ?_, fun k hk => ?_, ?_⟩⟩, ?_⟩
  · rw [u60]
    split
    · exact ⟨by decide, by decide⟩
    · exact b3 i hi
  · exact (geo0 hn).c (fun k hk => sat k hk) (fun k e hk he => by rw [u60, if_pos (by omega)])
  · have : HTW (4 * n * n) (flatW n X) := mes_ht
    exact this.c (fun o h => uf o h.1 h.2)
  · obtain ⟨s1, s2, s3⟩ := sat k hk
    refine ⟨?_, ?_, ?_⟩
    · rw [s1]; unfold pP
      rw [ul 55 k (by omega) hk, ul 56 k (by omega) hk, ul 57 k (by omega) hk]
      rfl
    · rw [s2, ul 58 k (by omega) hk]; rfl
    · rw [s3, ul 59 k (by omega) hk]; rfl
  · show flatW n u o = u o
    rw [uf o a b]
    exact flat_of (fun o k a b c => by rw [uf o a (by omega), flat_far (Or.inl ⟨by omega, c⟩)]) (fun t ht => by rw [uf 11 (by omega) (by omega), flat_far (Or.inr ⟨rfl, ht⟩)]) o a b
  · rw [uo 12 (by omega), uo 13 (by omega), uo 14 (by omega), uo 15 (by omega)]; exact b6
  · unfold LsO; rw [uo 19 (by omega)]; exact a7
  · rw [uo 17 (by omega)]; exact Or.inl a4
  · rw [u54, uo 17 (by omega), a4]; rfl
  · rw [h68 k hk, u18 k (by omega)]
  · by_cases z : k < 4 * n * n
    · exact Or.inl (h68 k z)
    · rw [ulf 68 k (by omega) z]; exact b1 k hk
  · rw [uo 17 (by omega), a5, sm_zero _ (fun k hk => u18 k (by omega))]
  · rw [uo 18 (by omega), uo 19 (by omega)]; exact a8
  · by_cases z : k < 4 * n * n
    · exact Or.inl (h69 k z)
    · rw [ulf 69 k (by omega) z]; exact b2 k hk
  · rw [h69 k hk, u22 k (by omega)]
  · rw [uo 21 (by omega), a10, sm_zero _ (fun k hk => u22 k (by omega))]
  · rw [← uo 23 (by omega)] at a11
    obtain ⟨v1, v2, v3, v4, v5⟩ := a11
    exact srI_0 (b10.c (fun o ho => uo o (by omega))) v1 v2 v3 v4 v5
theorem jb_of {n m : Nat} {w : wd} (h1 : JS n m w) (h3 : JR n m w) (h4 : JC n w) (h5 : JF n w) (hs : SrI n w) : JB w := ⟨h4.2.2.2.2.2.1, h5.2.1, h1.2.2.2.2.2.2.2.2.1, h1.2.2.2.2.2.2.2.2.2.1, h1.2.2.2.2.2.2.2.2.2.2, h3.2.1, h1.2.2.2.2.2.2.1, h1.2.2.2.2.2.2.2.1, h1.2.2.1, hs.1⟩
theorem JB.c {w u : wd} (h : JB w) (e : ∀ o, (o = 0 ∨ (12 ≤ o ∧ o ≤ 16) ∨ 24 ≤ o) → u o = w o) : JB u := by
  obtain ⟨b1, b2, b3, b4, b5, b6, b7, b8, b9, b10⟩ := h
  unfold JB
  rw [e 68 (by omega), e 69 (by omega), e 60 (by omega), e 65 (by omega), e 66 (by omega), e 12 (by omega), e 13 (by omega), e 14 (by omega), e 15 (by omega), e 0 (by omega), e 54 (by omega)]
  exact ⟨b1, b2, b3, b4, b5, b6, b7, b8, b9, b10.c (fun o ho => e o (by omega))⟩
set_option maxHeartbeats 1000000 in
theorem jx_sheet {n : Nat} {B : Int} {w : wd} (h : JI n B w) {t : Int} (ht : rg t) : JX yX9_sheet cX9_sheet 3 7 yX10_sheet cX10_sheet 3 3 B w [vI t] := by
  obtain ⟨m, h1, h2, h3, h4, h5⟩ := id h.1
  have hc := h.1.ci
  have hm := h.1.mi
  refine ⟨_, sp_X9_sheet hc ht, fun a w1 hp => ?_⟩
  by_cases z : 1 ≤ t ∧ t ≤ 6
  · rw [if_pos z] at hp
    obtain ⟨ha, L, Q, hw, hL, hr⟩ := hp
    have vo : ∀ o, (o = 0 ∨ (12 ≤ o ∧ o ≤ 16) ∨ 24 ≤ o) → w1 o = w o := fun o ho => by rw [hw]; exact beg_o ho
    have hm2 : MI n w1 := hm.c (fun o ho => vo o (by omega))
    refine ⟨_, sp_X10_sheet hm2 ht, fun b w2 hp2 => ?_⟩
    rw [if_pos z] at hp2
    obtain ⟨hb9, hw2⟩ := hp2
    obtain ⟨je, sr⟩ := begun (beg_is (by omega) hw hL hr) ((jb_of h1 h3 h4 h5 h.2.1).c vo) hw2
    refine ⟨by rw [ha, hb9], _, je, sr, (h.2.2.c ?_ ?_).mono (by omega)⟩
    · rw [hw2]; unfold begR
      rw [wst_at (by decide), wst_at (by decide), begM_o (by decide), wst_at (by decide), vo 54 (by omega)]
    · rw [hw2]; unfold begR
      rw [wst_ne (by decide), wst_ne (by decide), begM_o (by decide), wst_ne (by decide), vo 74 (by omega)]
  · rw [if_neg z] at hp
    obtain ⟨ha, hw⟩ := hp
    subst w1
    refine ⟨_, sp_X10_sheet hm ht, fun b w2 hp2 => ?_⟩
    rw [if_neg z] at hp2
    obtain ⟨hb9, hw2⟩ := hp2
    subst w2
    exact ⟨by rw [ha, hb9], h.up⟩
set_option maxHeartbeats 1000000 in
theorem jx_cut {n : Nat} {B : Int} {w : wd} (h : JI n B w) {s L d : Int} (hs : rg s) (hL : rg L) (hd : rg d) : JX yX9_cut cX9_cut 4 6 yX10_cut cX10_cut 5 4 B w [vI s, vI L, vI d] := by
  obtain ⟨m, h1, h2, h3, h4, h5⟩ := id h.1
  have hc := h.1.ci
  have hm := h.1.mi
  have hN := nn_le h1.nr.2
  have hT : mxf (fun k => if touch s L (w 6 k) (w 7 k) (w 8 k) then w 11 (psp w k).toNat else 0) (4 * n * n) = mxf (fun k => if rto s L w k then w 58 k + 1 else 0) (4 * n * n) := by
    refine h2.mx (T := fun k => touch s L (w 6 k) (w 7 k) (w 8 k)) (U := fun k => rto s L w k) (fun k hk => ?_) (fun j k hj hk e => ?_)
    · obtain ⟨e1, e2, e3, -⟩ := h2.xyz hk
      unfold rto
      rw [e1, e2, e3]
    · obtain ⟨e1, e2, e3⟩ := pl3.mpr e
      simp only [pP] at e1 e2 e3
      rw [e1, e2, e3]
  have hkn : w 54 16 = w 0 6 := h1.2.2.2.2.2.2.2.1
  have e17 := h4.2.2.2.1
  refine ⟨_, sp_X9_cut hc hs hL hd, fun a w1 hp => ?_⟩
  by_cases z1 : isLine s L ∧ isSide d
  · rw [if_pos z1] at hp
    by_cases z2 : w 17 4 = 0
    · rw [if_pos z2] at hp
      by_cases z3 : mxf (fun k => if touch s L (w 6 k) (w 7 k) (w 8 k) then w 11 (psp w k).toNat else 0) (4 * n * n) ≤ w 0 6
      · rw [if_pos z3] at hp
        obtain ⟨⟨L2, Q2, hw, hLb, hr⟩, ha⟩ := hp
        have vo : ∀ o, (o < 17 ∨ 20 < o) → w1 o = w o := fun o ho => by
          rw [hw]
          funext i
          unfold wLQ drpP
          rw [if_neg (by omega), if_neg (by omega), if_neg (by omega), if_neg (by omega), if_neg (by omega)]
        have v18 : w1 18 = drpP s L d w (4 * n * n) 18 := by rw [hw]; funext i; unfold wLQ; rw [if_neg (by omega), if_neg (by omega)]
        have v17 : w1 17 = drpP s L d w (4 * n * n) 17 := by rw [hw]; funext i; unfold wLQ; rw [if_neg (by omega), if_neg (by omega)]
        have v19 : w1 19 = L2 := by rw [hw]; funext i; unfold wLQ; rw [if_pos rfl]
        have d17 : drpP s L d w (4 * n * n) 17 4 = 1 ∧ drpP s L d w (4 * n * n) 17 5 = sm (fun k => ib (pon s L d w k)) (4 * n * n) := by unfold drpP; simp
        have d18 : ∀ k, drpP s L d w (4 * n * n) 18 k = if k < 4 * n * n then ib (pon s L d w k) else w 18 k := fun k => by unfold drpP; simp
        have hm2 : MI n w1 := hm.c (fun o ho => vo o (by omega))
        have hT2 : mxf (fun k => if rto s L w1 k then w1 58 k + 1 else 0) (4 * n * n) = mxf (fun k => if rto s L w k then w 58 k + 1 else 0) (4 * n * n) := by
          unfold rto
          rw [vo 55 (by omega), vo 56 (by omega), vo 57 (by omega), vo 58 (by omega)]
        have er : ∀ k, k < 4 * n * n → (ron s L d w1 k ↔ pon s L d w k) := fun k hk => by
          obtain ⟨e1, e2, e3, -⟩ := h2.xyz hk
          unfold ron rst pon pst
          rw [vo 55 (by omega), vo 56 (by omega), vo 57 (by omega), e1, e2, e3]
        refine ⟨_, sp_X10_cut hm2 hs hL hd, fun b w2 hp2 => ?_⟩
        rw [if_pos z1, if_pos (by rw [vo 54 (by omega), e17]; exact z2), if_pos (by rw [hT2, ← hT, vo 54 (by omega), hkn]; exact z3)] at hp2
        obtain ⟨hw2, hb9⟩ := hp2
        have uo : ∀ o, (o ≠ 54 ∧ o ≠ 68) → w2 o = w1 o := fun o ho => by rw [hw2]; exact ctM_o ho.1 ho.2
        have ui : ∀ i, i ≠ 17 → w2 54 i = w 54 i := fun i hi => by rw [hw2, ctM_i hi, vo 54 (by omega)]
        have u17 : w2 54 17 = 1 := by rw [hw2]; unfold ctM; simp
        have u68 : ∀ k, w2 68 k = if k < 4 * n * n then ib (ron s L d w1 k) else w 68 k := fun k => by rw [hw2, ← vo 68 (by omega)]; unfold ctM; simp
        refine ⟨?_, n, ⟨m, h1.c (fun o ho => (uo o (by omega)).trans (vo o (by omega))) (fun i hi => ui i (by omega)), h2.c (fun o ho => (uo o (by omega)).trans (vo o (by omega))), h3.c h1.2.2.2.1 (fun o ho => (uo o (by omega)).trans (vo o (by omega))), ⟨fun k hk => ?_, ?_, ?_, ?_, fun k hk => ?_, fun k hk => ?_, ?_, ?_⟩, h5.c (fun o ho => (uo o (by omega)).trans (vo o (by omega)))⟩, h.2.1.c (fun o ho => (uo o (by omega)).trans (vo o (by omega))), (h.2.2.c (ui 25 (by decide)) ((uo 74 (by decide)).trans (vo 74 (by omega)))).mono (by omega)⟩
        · rw [ha, hb9, v17, d17.2]
          exact (sm_c (fun k hk => ib_c (er k hk))).symm
        · rw [uo 18 (by decide), v18, d18]
          split
          · exact ib_01
          · exact h4.1 k hk
        · unfold LsO; rw [uo 19 (by decide), v19]; exact hr
        · rw [uo 17 (by decide), v17, d17.1]; exact Or.inr rfl
        · rw [u17, uo 17 (by decide), v17, d17.1]
        · rw [u68, if_pos hk, uo 18 (by decide), v18, d18, if_pos hk]
          exact ib_c (er k hk)
        · rw [u68]
          split
          · exact ib_01
          · exact h4.2.2.2.2.2.1 k hk
        · rw [uo 17 (by decide), v17, d17.2, uo 18 (by decide), v18]
          exact sm_c (fun k hk => by rw [d18, if_pos hk])
        · rw [uo 18 (by decide), uo 19 (by decide), v18, v19]
          exact hLb
      · rw [if_neg z3] at hp
        obtain ⟨ha, hw⟩ := hp
        subst w1
        refine ⟨_, sp_X10_cut hm hs hL hd, fun b w2 hp2 => ?_⟩
        rw [if_pos z1, if_pos (by rw [e17]; exact z2), if_neg (by rw [← hT, hkn]; exact z3)] at hp2
        obtain ⟨hb9, hw2⟩ := hp2
        subst w2
        exact ⟨by rw [ha, hb9], h.up⟩
    · rw [if_neg z2] at hp
      obtain ⟨ha, hw⟩ := hp
      subst w1
      refine ⟨_, sp_X10_cut hm hs hL hd, fun b w2 hp2 => ?_⟩
      rw [if_pos z1, if_neg (by rw [e17]; exact z2)] at hp2
      obtain ⟨hb9, hw2⟩ := hp2
      subst w2
      exact ⟨by rw [ha, hb9], h.up⟩
  · rw [if_neg z1] at hp
    obtain ⟨ha, hw⟩ := hp
    subst w1
    refine ⟨_, sp_X10_cut hm hs hL hd, fun b w2 hp2 => ?_⟩
    rw [if_neg z1] at hp2
    obtain ⟨hb9, hw2⟩ := hp2
    subst w2
    exact ⟨by rw [ha, hb9], h.up⟩
