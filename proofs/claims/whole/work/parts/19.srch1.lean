/-! ===== a layout's entries and the leaves ===== -/
def enw (w : wd) (a i : Nat) : pl := (w a i, w (a + 1) i, w (a + 2) i)
def EA (w : wd) (b a us sp N : Nat) (F : Nat → Int) (S : lys) : Prop := ∀ i, i < us → ∃ f, f < N ∧ enw w a i = S f ∧ tk w b sp i = 2 - F f
def EB (w : wd) (b a us sp N : Nat) (F : Nat → Int) (S : lys) : Prop := ∀ f, f < N → ∃ i, i < us ∧ enw w a i = S f ∧ tk w b sp i = 2 - F f
theorem mnE_is (w : wd) (b a sp c s : Nat) : ∀ n, mnE w b a sp c s n = mnS (tk w b sp) (enw w a) c s n ∧ mxE w b a sp c s n = mxS (tk w b sp) (enw w a) c s n
  | 0 => ⟨rfl, rfl⟩
  | n + 1 => by
    obtain ⟨h1, h2⟩ := mnE_is w b a sp c s n
    simp only [mnE, mxE, mnS, mxS, h1, h2]
    exact ⟨rfl, rfl⟩
theorem mnS_cmp {F F' : Nat → Int} {S S' : lys} {K K' s : Int} {n m : Nat} (h : ∀ i, i < m → F' i = K' → ∃ f, f < n ∧ F f = K ∧ S f = S' i) : mnS F S K s n ≤ mnS F' S' K' s m ∧ mxS F' S' K' s m ≤ mxS F S K s n := by
  obtain ⟨a1, a2, _⟩ := mnS_le (F := F) (S := S) (K := K) (s := s) n
  obtain ⟨b1, b2, _⟩ := mxS_le (F := F) (S := S) (K := K) (s := s) n
  obtain ⟨_, _, a3⟩ := mnS_le (F := F') (S := S') (K := K') (s := s) m
  obtain ⟨_, _, b3⟩ := mxS_le (F := F') (S := S') (K := K') (s := s) m
  constructor
  · rcases a3 with q | ⟨i, h1, h2, h3⟩
    · omega
    · obtain ⟨f, g1, g2, g3⟩ := h i h1 h2
      rw [h3, ← g3]
      exact a2 f g1 g2
  · rcases b3 with q | ⟨i, h1, h2, h3⟩
    · omega
    · obtain ⟨f, g1, g2, g3⟩ := h i h1 h2
      rw [h3, ← g3]
      exact b2 f g1 g2
theorem EA.le {w : wd} {b a us sp N : Nat} {F : Nat → Int} {S : lys} (h : LR w b a us sp) (hA : EA w b a us sp N F S) {c s : Nat} {K : Int} (hc : c = 1 ∨ c = 2) (hK : K = 2 - (c : Int)) (hs : s < 4) : mnS F S K s N ≤ w (a + 4) (4 * c + s) ∧ w (a + 5) (4 * c + s) ≤ mxS F S K s N := by
  obtain ⟨e1, e2⟩ := h.2.2.2.2 c s hc hs
  obtain ⟨m1, m2⟩ := mnE_is w b a sp c s us
  rw [e1, e2, m1, m2]
  refine mnS_cmp (fun i hi hk => ?_)
  obtain ⟨f, hf, h1, h2⟩ := hA i hi
  exact ⟨f, hf, by omega, h1.symm⟩
theorem EB.le {w : wd} {b a us sp N : Nat} {F : Nat → Int} {S : lys} (h : LR w b a us sp) (hB : EB w b a us sp N F S) {c s : Nat} {K : Int} (hc : c = 1 ∨ c = 2) (hK : K = 2 - (c : Int)) (hs : s < 4) : w (a + 4) (4 * c + s) ≤ mnS F S K s N ∧ mxS F S K s N ≤ w (a + 5) (4 * c + s) := by
  obtain ⟨e1, e2⟩ := h.2.2.2.2 c s hc hs
  obtain ⟨m1, m2⟩ := mnE_is w b a sp c s us
  rw [e1, e2, m1, m2]
  refine mnS_cmp (fun f hf hk => ?_)
  obtain ⟨i, hi, h1, h2⟩ := hB f hf
  exact ⟨i, hi, by omega, h1⟩
theorem lay_eq {w : wd} {b a us sp N : Nat} {F : Nat → Int} {S : lys} (h : LR w b a us sp) (hA : EA w b a us sp N F S) (hB : EB w b a us sp N F S) {s d : Nat} (hs : s < 4) : fcF w a s d = fcS N F S s d ∧ lcF w a s d = lcS N F S s d := by
  have a1 := hA.le h (c := 1) (K := 1) (Or.inl rfl) (by omega) hs
  have a2 := hA.le h (c := 2) (K := 0) (Or.inr rfl) (by omega) hs
  have b1 := hB.le h (c := 1) (K := 1) (Or.inl rfl) (by omega) hs
  have b2 := hB.le h (c := 2) (K := 0) (Or.inr rfl) (by omega) hs
  simp only [Nat.mul_one, show 4 * 2 = 8 from rfl] at a1 a2 b1 b2
  unfold fcF fcS lcF lcS
  by_cases z : d = 0
  · simp only [z, if_true]; omega
  · simp only [z, if_false]; omega
theorem lay_le {w : wd} {b a us sp N : Nat} {F : Nat → Int} {S : lys} (h : LR w b a us sp) (hA : EA w b a us sp N F S) {s d : Nat} (hs : s < 4) : fcF w a s d ≤ fcS N F S s d ∧ lcS N F S s d ≤ lcF w a s d := by
  have a1 := hA.le h (c := 1) (K := 1) (Or.inl rfl) (by omega) hs
  have a2 := hA.le h (c := 2) (K := 0) (Or.inr rfl) (by omega) hs
  simp only [Nat.mul_one, show 4 * 2 = 8 from rfl] at a1 a2
  unfold fcF fcS lcF lcS
  by_cases z : d = 0
  · simp only [z, if_true]; omega
  · simp only [z, if_false]; omega
def cutL (w : wd) (a : Nat) : Int := sm (fun s => sm (fun d => max 0 (lcF w a s d - fcF w a s d + 1)) 2) 4
theorem cut_eq {w : wd} {b a us sp N : Nat} {F : Nat → Int} {S : lys} (h : LR w b a us sp) (hA : EA w b a us sp N F S) (hB : EB w b a us sp N F S) : cutL w a = cutN N F S := by
  unfold cutL cutN
  refine sm_c (fun s hs => sm_c (fun d _ => ?_))
  obtain ⟨e1, e2⟩ := lay_eq h hA hB hs (d := d)
  rw [e1, e2]
theorem cut_0 {f l : Nat → Nat → Int} (h : ∀ s, s < 4 → ∀ d, d < 2 → l s d < f s d) : sm (fun s => sm (fun d => max 0 (l s d - f s d + 1)) 2) 4 = 0 := by
  have e : ∀ s, s < 4 → sm (fun d => max 0 (l s d - f s d + 1)) 2 = 0 := fun s hs => by
    have h0 := h s hs 0 (by decide)
    have h1 := h s hs 1 (by decide)
    simp only [sm_s, sm_0]
    omega
  have e0 := e 0 (by decide)
  have e1 := e 1 (by decide)
  have e2 := e 2 (by decide)
  have e3 := e 3 (by decide)
  rw [sm_s, sm_s, sm_s, sm_s, sm_0]
  omega
theorem cut_en {w : wd} {b a us sp N : Nat} {F : Nat → Int} {S : lys} (h : LR w b a us sp) (hA : EA w b a us sp N F S) (he : enA w a) : cutL w a = 0 ∧ cutN N F S = 0 := by
  have hd : ∀ s, s < 4 → ∀ d, d < 2 → lcF w a s d < fcF w a s d := fun s hs d hd => by
    obtain ⟨h1, h2⟩ := enA_all he s hs
    rcases (by omega : d = 0 ∨ d = 1) with rfl | rfl
    · exact h1
    · exact h2
  constructor
  · exact cut_0 hd
  · refine cut_0 (fun s hs d hd2 => ?_)
    have h1 := hd s hs d hd2
    have h2 := lay_le h hA hs (d := d)
    omega
/-- the first cut -/
theorem tcI_le {w : wd} {a s : Nat} {c : Int} : ∀ m, tcI w a s c m ≤ c ∧ (∀ d, d < m → fcF w a s d ≤ lcF w a s d → tcI w a s c m ≤ tellF s (fcF w a s d) d) ∧ (tcI w a s c m = c ∨ ∃ d, d < m ∧ fcF w a s d ≤ lcF w a s d ∧ tcI w a s c m = tellF s (fcF w a s d) d)
  | 0 => ⟨Int.le_refl _, fun d h => absurd h (Nat.not_lt_zero _), Or.inl rfl⟩
  | m + 1 => by
    obtain ⟨h1, h2, h3⟩ := tcI_le (w := w) (a := a) (s := s) (c := c) m
    simp only [tcI]
    by_cases z : fcF w a s m ≤ lcF w a s m
    · rw [if_pos z]
      refine ⟨by omega, fun d hd hk => ?_, ?_⟩
      · rcases Nat.lt_succ_iff_lt_or_eq.mp hd with q | q
        · have := h2 d q hk; omega
        · subst q; omega
      · by_cases z2 : tcI w a s c m ≤ tellF s (fcF w a s m) m
        · rw [Int.min_eq_left z2]
          rcases h3 with q | ⟨d, q1, q2, q3⟩
          · exact Or.inl q
          · exact Or.inr ⟨d, by omega, q2, q3⟩
        · rw [Int.min_eq_right (by omega)]
          exact Or.inr ⟨m, by omega, z, rfl⟩
    · rw [if_neg z]
      refine ⟨h1, fun d hd hk => ?_, ?_⟩
      · rcases Nat.lt_succ_iff_lt_or_eq.mp hd with q | q
        · exact h2 d q hk
        · subst q; exact absurd hk z
      · rcases h3 with q | ⟨d, q1, q2, q3⟩
        · exact Or.inl q
        · exact Or.inr ⟨d, by omega, q2, q3⟩
theorem tcP_le {w : wd} {a : Nat} : ∀ m, tcP w a m ≤ 10000 ∧ (∀ s, s < m → ∀ d, d < 2 → fcF w a s d ≤ lcF w a s d → tcP w a m ≤ tellF s (fcF w a s d) d) ∧ (tcP w a m = 10000 ∨ ∃ s, s < m ∧ ∃ d, d < 2 ∧ fcF w a s d ≤ lcF w a s d ∧ tcP w a m = tellF s (fcF w a s d) d)
  | 0 => ⟨Int.le_refl _, fun d h => absurd h (Nat.not_lt_zero _), Or.inl rfl⟩
  | m + 1 => by
    obtain ⟨h1, h2, h3⟩ := tcP_le (w := w) (a := a) m
    obtain ⟨i1, i2, i3⟩ := tcI_le (w := w) (a := a) (s := m) (c := tcP w a m) 2
    simp only [tcP]
    refine ⟨by omega, fun s hs d hd hk => ?_, ?_⟩
    · rcases Nat.lt_succ_iff_lt_or_eq.mp hs with q | q
      · have := h2 s q d hd hk; omega
      · subst q; exact i2 d hd hk
    · rcases i3 with q | ⟨d, q1, q2, q3⟩
      · rw [q]
        rcases h3 with q | ⟨s, p1, p2⟩
        · exact Or.inl q
        · exact Or.inr ⟨s, by omega, p2⟩
      · exact Or.inr ⟨m, by omega, d, q1, q2, q3⟩
theorem sm_pos {f : Nat → Int} : ∀ n, 0 < sm f n → ∃ k, k < n ∧ 0 < f k
  | 0, h => absurd h (by rw [sm_0]; omega)
  | n + 1, h => by
    rw [sm_s] at h
    by_cases z : 0 < f n
    · exact ⟨n, by omega, z⟩
    · obtain ⟨k, h1, h2⟩ := sm_pos (f := f) n (by omega)
      exact ⟨k, by omega, h2⟩
theorem tel_of (s d : Nat) (k : Int) (hs : s < 4) (hd : d < 2) (hk : -24 ≤ k) : ∃ t : Nat, tK t = k ∧ tS t = s ∧ tD t = d ∧ (t : Int) = 8 * (k + 24) + 2 * s + d := by
  refine ⟨(8 * (k + 24) + 2 * s + d).toNat, ?_, ?_, ?_, by omega⟩ <;> simp only [tK, tS, tD] <;> omega
/-- the layout's first cut is the least telling of a cut -/
theorem fct_is {w : wd} {b a us sp N : Nat} {F : Nat → Int} {S : lys} (h : LR w b a us sp) (hA : EA w b a us sp N F S) (hB : EB w b a us sp N F S) (hp : 0 < cutN N F S) : tcP w a 4 = tl ((lstT (cutOk N F S) 584 : Nat) : Int) := by
  obtain ⟨h1, h2, h3⟩ := tcP_le (w := w) (a := a) 4
  have hc : ∀ t, cutOk N F S t → tcP w a 4 ≤ tl t := fun t ht => by
    have hs := tS_rg t
    have hd := tD_rg t
    obtain ⟨e1, e2⟩ := lay_eq h hA hB hs (d := tD t)
    have := h2 (tS t) hs (tD t) hd (by rw [e1, e2]; omega)
    rw [e1] at this
    rw [tl_tell]
    simp only [tellF] at this
    omega
  rcases h3 with q | ⟨s, hs, d, hd, q2, q3⟩
  · exfalso
    obtain ⟨s, hs, hs2⟩ := sm_pos 4 hp
    obtain ⟨d, hd, hd2⟩ := sm_pos 2 hs2
    have hf : -24 ≤ fcS N F S s d := by unfold fcS; omega
    have hl : lcS N F S s d ≤ 48 := by unfold lcS; omega
    obtain ⟨t, t1, t2, t3, t4⟩ := tel_of s d (fcS N F S s d) hs hd hf
    have := hc t (by rw [cutOk, t1, t2, t3]; omega)
    rw [tl_tell, t1, t2, t3] at this
    omega
  · have hf : -24 ≤ fcF w a s d := by unfold fcF; omega
    have hl : lcF w a s d ≤ 48 := by unfold lcF; omega
    obtain ⟨e1, e2⟩ := lay_eq h hA hB hs (d := d)
    obtain ⟨t, t1, t2, t3, t4⟩ := tel_of s d (fcF w a s d) hs hd hf
    have e3 : tcP w a 4 = tl t := by
      rw [q3, tl_tell, t1, t2, t3]
      rfl
    rw [e3]
    have : lstT (cutOk N F S) 584 = t := by
      refine lstT_is (by rw [cutOk, t1, t2, t3, ← e1, ← e2]; omega) (fun j hj hj2 => ?_) 584 (by omega)
      have := hc j hj2
      rw [e3, tl_tell, tl_tell, t1, t2, t3] at this
      have j1 := tS_rg j
      have j2 := tD_rg j
      have j3 : (j : Int) = 8 * (tK j + 24) + 2 * (tS j : Int) + (tD j : Int) := by simp only [tK, tS, tD]; omega
      omega
    rw [this]
/-- crossed, read off the rows -/
theorem crs_is {w : wd} {b a us sp N : Nat} {F : Nat → Int} {S : lys} (hF : ∀ f, f < N → F f = 0 ∨ F f = 1) (h : LR w b a us sp) (hA : EA w b a us sp N F S) (hB : EB w b a us sp N F S) {s : Nat} {k : Int} (hs : s < 4) (hk : -900 ≤ k ∧ k ≤ 900) : (lsF w a s < k ∧ k ≤ grF w a s) ↔ crS N S s k := by
  have a1 := hA.le h (c := 1) (K := 1) (Or.inl rfl) (by omega) hs
  have a2 := hA.le h (c := 2) (K := 0) (Or.inr rfl) (by omega) hs
  have b1 := hB.le h (c := 1) (K := 1) (Or.inl rfl) (by omega) hs
  have b2 := hB.le h (c := 2) (K := 0) (Or.inr rfl) (by omega) hs
  simp only [Nat.mul_one, show 4 * 2 = 8 from rfl] at a1 a2 b1 b2
  obtain ⟨p1, p2, p3⟩ := mnS_le (F := F) (S := S) (K := 1) (s := s) N
  obtain ⟨p4, p5, p6⟩ := mnS_le (F := F) (S := S) (K := 0) (s := s) N
  obtain ⟨q1, q2, q3⟩ := mxS_le (F := F) (S := S) (K := 1) (s := s) N
  obtain ⟨q4, q5, q6⟩ := mxS_le (F := F) (S := S) (K := 0) (s := s) N
  have e1 : lsF w a s = min (mnS F S 1 s N) (mnS F S 0 s N) := by unfold lsF; omega
  have e2 : grF w a s = max (mxS F S 1 s N) (mxS F S 0 s N) := by unfold grF; omega
  rw [e1, e2]
  clear a1 a2 b1 b2 e1 e2
  constructor
  · rintro ⟨h1, h2⟩
    constructor
    · by_cases z : mnS F S 1 s N < k
      · rcases p3 with r | ⟨f, r1, r2, r3⟩
        · omega
        · exact ⟨f, r1, by omega⟩
      · rcases p6 with r | ⟨f, r1, r2, r3⟩
        · omega
        · exact ⟨f, r1, by omega⟩
    · by_cases z : k ≤ mxS F S 1 s N
      · rcases q3 with r | ⟨f, r1, r2, r3⟩
        · omega
        · exact ⟨f, r1, by omega⟩
      · rcases q6 with r | ⟨f, r1, r2, r3⟩
        · omega
        · exact ⟨f, r1, by omega⟩
  · rintro ⟨⟨f, f1, f2⟩, ⟨g, g1, g2⟩⟩
    constructor
    · rcases hF f f1 with r | r
      · have := p5 f f1 r; omega
      · have := p2 f f1 r; omega
    · rcases hF g g1 with r | r
      · have := q5 g g1 r; omega
      · have := q2 g g1 r; omega
theorem fl_all {w : wd} {a : Nat} {s : Nat} (hs : s < 4) : fstP w a 4 ≤ lsF w a s ∧ grF w a s ≤ lstP w a 4 := by
  simp only [fstP, lstP]
  rcases (by omega : s = 0 ∨ s = 1 ∨ s = 2 ∨ s = 3) with rfl | rfl | rfl | rfl <;> omega
/-- what fits, read off the table of kinds -/
theorem fit_is {w : wd} {b a us sp N : Nat} {F : Nat → Int} {S : lys} {R : Int} (hF : ∀ f, f < N → F f = 0 ∨ F f = 1) (hbx : BOX R N S) (h : LR w b a us sp) (hA : EA w b a us sp N F S) (hB : EB w b a us sp N F S) {s : Nat} {k : Int} (hs : s < 4) (hc : crS N S s k) : fitL w b a sp us s k ↔ fitS N F S s k := by
  obtain ⟨⟨a1, a2, a3, a4, a5⟩, ⟨k1, k2, k3, k4⟩, _⟩ := h
  have hs2 : (0 : Int) ≤ (s : Int) ∧ (s : Int) ≤ 3 := by omega
  have hmz : ∀ i, mspL w a s k i = spt (mir s k (enw w a i)) := fun i => rfl
  -- an entry whose mirrored place is an entry's
  have hL : ∀ i u, i < us → (w (a + 3) (mspL w a s k i).toNat = u ↔ (u = 0 ∧ w (a + 3) (mspL w a s k i).toNat = 0) ∨ ∃ j, j < us ∧ enw w a j = mir s k (enw w a i) ∧ tk w b sp j = u) := fun i u hi => by
    have hr := spt_rg (mir s k (enw w a i))
    rw [← hmz i] at hr
    obtain ⟨f, hf, hf2, hf3⟩ := hA i hi
    constructor
    · intro hu
      by_cases z : w (a + 3) (mspL w a s k i).toNat = 0
      · exact Or.inl ⟨by omega, z⟩
      · obtain ⟨j, hj, hj2⟩ := k3 _ (by omega) z
        have hj3 := k2 j hj
        have e : esp w a j = mspL w a s k i := by omega
        refine Or.inr ⟨j, hj, ?_, by rw [← hj3, e]; exact hu⟩
        obtain ⟨g, hg, hg2, hg3⟩ := hA j hj
        have hn := hbx.nrm hs2 hc hf hg
        have e2 : spt (mir s k (S f)) = spt (S g) := by rw [← hf2, ← hg2]; exact e.symm
        rw [hf2, hg2]
        exact (spt_inj (mir_q (hbx.1 f hf).2.2) (hbx.1 g hg).2.2 hn e2).symm
    · rintro (⟨z1, z2⟩ | ⟨j, hj, hj2, hj3⟩)
      · omega
      · have e : esp w a j = mspL w a s k i := by rw [hmz, ← hj2]; rfl
        rw [← e, k2 j hj, hj3]
  have hk2 : ∀ i, tk w b sp i = if i < sp then w b 7 else 3 - w b 7 := fun i => rfl
  have hsk : skF w b = 3 - w b 7 := by unfold skF; rcases a5 with z | z <;> rw [z] <;> rfl
  constructor
  · intro hf f hfN g hgN e
    obtain ⟨i, hi, hi2, hi3⟩ := hB f hfN
    obtain ⟨j, hj, hj2, hj3⟩ := hB g hgN
    by_cases z : tk w b sp i = tk w b sp j
    · omega
    · exfalso
      have e1 : enw w a j = mir s k (enw w a i) := by rw [hi2, hj2, e]
      have e2 : enw w a i = mir s k (enw w a j) := by rw [e1, mir_mir hs2 (by rw [hi2]; exact (hbx.1 f hfN).2.2)]
      have c1 := (hL i (tk w b sp j) hi).mpr (Or.inr ⟨j, hj, e1, rfl⟩)
      have c2 := (hL j (tk w b sp i) hj).mpr (Or.inr ⟨i, hi, e2, rfl⟩)
      rw [hk2 i, hk2 j] at z
      rw [hk2 j] at c1
      rw [hk2 i] at c2
      rcases hf with ⟨_, hf⟩ | ⟨_, hf⟩
      · by_cases z1 : i < sp
        · have := hf i z1
          rw [if_pos z1] at z
          by_cases z2 : j < sp
          · rw [if_pos z2] at z; omega
          · rw [if_neg z2] at c1; omega
        · rw [if_neg z1] at z
          by_cases z2 : j < sp
          · have := hf j z2
            rw [if_neg z1] at c2; omega
          · rw [if_neg z2] at z; omega
      · by_cases z1 : i < sp
        · rw [if_pos z1] at z
          by_cases z2 : j < sp
          · rw [if_pos z2] at z; omega
          · have := hf j hj (by omega)
            rw [if_pos z1] at c2; omega
        · have := hf i hi (by omega)
          rw [if_neg z1] at z
          by_cases z2 : j < sp
          · rw [if_pos z2] at c1; omega
          · rw [if_neg z2] at z; omega
  · intro hf
    have key : ∀ i j, i < us → j < us → enw w a j = mir s k (enw w a i) → tk w b sp j = tk w b sp i := fun i j hi hj e => by
      obtain ⟨f, hf1, hf2, hf3⟩ := hA i hi
      obtain ⟨g, hg1, hg2, hg3⟩ := hA j hj
      have := hf f hf1 g hg1 (by rw [← hf2, ← hg2, e])
      omega
    by_cases z : 2 * sp ≤ us
    · refine Or.inl ⟨z, fun i hi => ?_⟩
      intro hc2
      rcases (hL i _ (by omega)).mp hc2 with ⟨q, _⟩ | ⟨j, hj, hj2, hj3⟩
      · rw [hsk] at q; omega
      · have := key i j (by omega) hj hj2
        rw [hj3, hsk, hk2 i, if_pos hi] at this
        omega
    · refine Or.inr ⟨z, fun i hi hi2 => ?_⟩
      intro hc2
      rcases (hL i _ hi).mp hc2 with ⟨q, _⟩ | ⟨j, hj, hj2, hj3⟩
      · omega
      · have := key i j hi hj hj2
        rw [hj3, hk2 i, if_neg (by omega)] at this
        omega
/-- a put, whether its place is new or not -/
theorem put_step {w : wd} {b a us sp kd9 : Nat} {p : pl} (hba : b < a) (h : LR w b a us sp) (hus : us < 144 ∨ w (a + 3) (spt p).toNat ≠ 0) (hkd : kd9 = 1 ∨ kd9 = 2) (hord : (kd9 : Int) = w b 7 → sp = us) (hp : okp 300 p) (hn : ∀ i, i < us → nrp 15 (enw w a i) p) (hq : ∀ i, i < us → enw w a i = p → tk w b sp i = (kd9 : Int)) :
    ∃ us' sp', LR (putW w b a us sp p.1 p.2.1 p.2.2 kd9) b a us' sp' ∧ (us ≤ us' ∧ us' ≤ us + 1) ∧ (∀ i, i < us → enw (putW w b a us sp p.1 p.2.1 p.2.2 kd9) a i = enw w a i ∧ tk (putW w b a us sp p.1 p.2.1 p.2.2 kd9) b sp' i = tk w b sp i) ∧ (∀ i, us ≤ i → i < us' → enw (putW w b a us sp p.1 p.2.1 p.2.2 kd9) a i = p ∧ tk (putW w b a us sp p.1 p.2.1 p.2.2 kd9) b sp' i = (kd9 : Int)) ∧ (∃ i, i < us' ∧ enw (putW w b a us sp p.1 p.2.1 p.2.2 kd9) a i = p ∧ tk (putW w b a us sp p.1 p.2.1 p.2.2 kd9) b sp' i = (kd9 : Int)) ∧ putW w b a us sp p.1 p.2.1 p.2.2 kd9 b 7 = w b 7 ∧ ((kd9 : Int) = w b 7 → sp' = us') ∧ ((kd9 : Int) ≠ w b 7 → sp' = sp) := by
  by_cases z : w (a + 3) (spot p.1 p.2.1 p.2.2).toNat = 0
  · have hus2 : us < 144 := by
      rcases hus with q | q
      · exact q
      · exact absurd z q
    have hL := put_LR hba h hus2 hkd hord hp.1 hp.2.1 hp.2.2 z
    obtain ⟨v9, v8, v7, vx, vy, vq, vk, ve, vg⟩ := putW_v (us := us) (kd9 := kd9) (sp := sp) hba z
    have e1 : ∀ i, i < us → enw (putW w b a us sp p.1 p.2.1 p.2.2 kd9) a i = enw w a i := fun i hi => by
      unfold enw
      rw [vx, vy, vq, if_neg (by omega), if_neg (by omega), if_neg (by omega)]
    have e2 : enw (putW w b a us sp p.1 p.2.1 p.2.2 kd9) a us = p := by
      unfold enw
      rw [vx, vy, vq, if_pos rfl, if_pos rfl, if_pos rfl]
    have t1 : ∀ i, i < us → tk (putW w b a us sp p.1 p.2.1 p.2.2 kd9) b (if (kd9 : Int) = w b 7 then sp + 1 else sp) i = tk w b sp i := fun i hi => by
      unfold tk
      rw [v7]
      by_cases z2 : (kd9 : Int) = w b 7
      · have := hord z2
        rw [if_pos z2, if_pos (by omega), if_pos (by omega)]
      · rw [if_neg z2]
    have hsu := h.1.2.2.1
    have h7 := h.1.2.2.2.2
    have t2 : tk (putW w b a us sp p.1 p.2.1 p.2.2 kd9) b (if (kd9 : Int) = w b 7 then sp + 1 else sp) us = (kd9 : Int) := by
      unfold tk
      rw [v7]
      by_cases z2 : (kd9 : Int) = w b 7
      · have := hord z2
        rw [if_pos z2, if_pos (by omega)]; exact z2.symm
      · rw [if_neg z2, if_neg (by omega)]; omega
    refine ⟨us + 1, _, hL, ⟨by omega, Nat.le_refl _⟩, fun i hi => ⟨e1 i hi, t1 i hi⟩, fun i h1 h2 => ?_, ⟨us, by omega, e2, t2⟩, v7, fun z2 => ?_, fun z2 => if_neg z2⟩
    · have e : i = us := by omega
      subst e
      exact ⟨e2, t2⟩
    · have := hord z2
      rw [if_pos z2]; omega
  · obtain ⟨e, i, hi, hi2, hi3⟩ := put_old (kd9 := kd9) (sp9 := (sp : Int)) h z
    rw [e]
    have hc := h.2.2.1 i hi
    have e2 : enw w a i = p := spt_inj (p := enw w a i) hc.2.2 hp.2.2 (hn i hi) hi2
    exact ⟨us, sp, h, ⟨Nat.le_refl _, by omega⟩, fun i _ => ⟨rfl, rfl⟩, fun i h1 h2 => absurd h2 (by omega), ⟨i, hi, e2, hq i hi e2⟩, rfl, hord, fun _ => rfl⟩
