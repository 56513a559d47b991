theorem fb_holes : ∀ (m n : Nat) (f : Nat → Nat), (∀ i, i < n → f i < m) → (∀ i j, i < j → j < n → f i ≠ f j) → n ≤ m := by
  intro m
  induction m with
  | zero =>
    intro n f h1 _
    rcases Nat.eq_zero_or_pos n with h | h
    · omega
    · exact absurd (h1 0 h) (Nat.not_lt_zero _)
  | succ m ih =>
    intro n f h1 h2
    by_cases hx : ∃ i, i < n ∧ f i = m
    · obtain ⟨a, ha, hfa⟩ := hx
      have hg := ih (n - 1) (fun i => if i < a then f i else f (i + 1)) (by
        intro i hi
        by_cases q : i < a
        · simp only [if_pos q]
          have b1 := h1 i (by omega)
          have b2 := h2 i a q ha
          omega
        · simp only [if_neg q]
          have b1 := h1 (i + 1) (by omega)
          have b2 := h2 a (i + 1) (by omega) (by omega)
          omega) (by
        intro i j hij hj
        by_cases q : i < a
        · by_cases r : j < a
          · simp only [if_pos q, if_pos r]
            exact h2 i j hij (by omega)
          · simp only [if_pos q, if_neg r]
            exact h2 i (j + 1) (by omega) (by omega)
        · have r : ¬ j < a := by omega
          simp only [if_neg q, if_neg r]
          exact h2 (i + 1) (j + 1) (by omega) (by omega))
      omega
    · have hg := ih n f (fun i hi => by
        have b1 := h1 i hi
        have b2 : f i ≠ m := fun e => hx ⟨i, hi, e⟩
        omega) h2
      omega
/-! ===== pieces: a search through neighbours labels each leaf by the least one of its piece ===== -/
theorem nb_sym0 : ∀ n, n < 7 → ∀ k, k < 4 * n * n → ∀ e, e < 3 → nb n k e ≠ -99999 → ∃ e', e' < 3 ∧ nb n (nb n k e).toNat e' = (k : Int) := by decide +kernel
theorem nb_sym {n k e j : Nat} (hn : n ≤ 6) (hk : k < 4 * n * n) (he : e < 3) (h : nb n k e = (j : Int)) : ∃ e', e' < 3 ∧ nb n j e' = (k : Int) := by
  have h1 := nb_sym0 n (by omega) k hk e he (by omega)
  rw [h] at h1
  exact h1
/-- a function that does not tell leaves of one piece apart -/
def gInv (n : Nat) (F g : Nat → Int) : Prop := ∀ a b e, a < 4 * n * n → b < 4 * n * n → e < 3 → nb n a e = (b : Int) → F a = F b → g a = g b
def lbOk (n : Nat) (F L : Nat → Int) (a : Nat) : Prop := ∃ r : Nat, L a = (r : Int) ∧ r ≤ a ∧ ∀ g, gInv n F g → g r = g a
def lClo (n : Nat) (F L : Nat → Int) : Prop := ∀ a, a < 4 * n * n → L a ≠ -99999 → lbOk n F L a ∧ ∀ e b, e < 3 → b < 4 * n * n → nb n a e = (b : Int) → F a = F b → L b = L a
/-- every leaf bears the least leaf of its piece -/
def Lab (n : Nat) (F L : Nat → Int) : Prop := ∀ a, a < 4 * n * n → lbOk n F L a ∧ ∀ e b, e < 3 → b < 4 * n * n → nb n a e = (b : Int) → F a = F b → L b = L a
theorem Lab.one {n : Nat} {F L M : Nat → Int} (hL : Lab n F L) (hM : Lab n F M) {a : Nat} (ha : a < 4 * n * n) : L a = M a := by
  have key : ∀ {L M : Nat → Int}, Lab n F L → Lab n F M → L a ≤ M a := by
    intro L M hL hM
    obtain ⟨r, e1, h1, h2⟩ := (hM a ha).1
    have h3 : L r = L a := h2 L (fun x y e hx hy he hn hF => ((hL x hx).2 e y he hy hn hF).symm)
    obtain ⟨q, e2, h4, -⟩ := (hL r (by omega)).1
    omega
  have := key hL hM
  have := key hM hL
  omega
def wLQ (w : wd) (L Q : Nat → Int) : wd := fun o i => if o = 19 then L i else if o = 20 then Q i else w o i
theorem wLQ_id (w : wd) : wLQ w (w 19) (w 20) = w := by
  funext o i
  simp only [wLQ]
  split
  · rename_i h; rw [h]
  · split
    · rename_i h; rw [h]
    · rfl
theorem wLQ_L (w : wd) (L Q : Nat → Int) (k : Nat) (a : Int) : wst (wLQ w L Q) 19 k a = wLQ w (w1 L k a) Q := by
  funext o i
  by_cases h : o = 19
  · subst h; simp [wst, w1, wLQ]
  · simp [wst, wLQ, h]
theorem wLQ_Q (w : wd) (L Q : Nat → Int) (k : Nat) (a : Int) : wst (wLQ w L Q) 20 k a = wLQ w L (w1 Q k a) := by
  funext o i
  by_cases h : o = 20
  · subst h; simp [wst, w1, wLQ]
  · by_cases h2 : o = 19
    · subst h2; simp [wst, wLQ]
    · simp [wst, wLQ, h, h2]
/-- the search's state: Q holds t leaves, i of them gone through, and of the next one the edges below e -/
def gatO (n f : Nat) (F L0 L : Nat → Int) (Q : Nat → Int) (t i e : Nat) : Prop :=
  (∀ j, j < t → ∃ x : Nat, Q j = (x : Int) ∧ x < 4 * n * n ∧ L x = (f : Int) ∧ L0 x = -99999 ∧ f ≤ x ∧ ∀ g, gInv n F g → g f = g x) ∧
  (∀ a, a < 4 * n * n → L a ≠ -99999 → L0 a = -99999 → ∃ j, j < t ∧ Q j = (a : Int)) ∧
  (∀ a, a < 4 * n * n → L0 a ≠ -99999 → L a = L0 a) ∧
  (∀ a, a < 4 * n * n → L0 a = -99999 → L a = -99999 ∨ L a = (f : Int)) ∧
  (∀ j k, j < k → k < t → Q j ≠ Q k) ∧
  (∀ j x e' b, j < t → Q j = ((x : Nat) : Int) → (j < i ∨ (j = i ∧ e' < e)) → e' < 3 → b < 4 * n * n → nb n x e' = ((b : Nat) : Int) → F x = F b → L b = (f : Int))
theorem gatO_t {n f t i e : Nat} {F L0 L Q : Nat → Int} (h : gatO n f F L0 L Q t i e) : t ≤ 4 * n * n := by
  refine fb_holes (4 * n * n) t (fun j => (Q j).toNat) (fun j hj => ?_) (fun j k hjk hk => ?_)
  · obtain ⟨x, e1, h1, -⟩ := h.1 j hj
    show (Q j).toNat < _
    rw [e1]; exact h1
  · obtain ⟨x, e1, h1, -⟩ := h.1 j (by omega)
    obtain ⟨y, e2, h2, -⟩ := h.1 k hk
    show (Q j).toNat ≠ (Q k).toNat
    have := h.2.2.2.2.1 j k hjk hk
    rw [e1, e2] at this ⊢
    omega
theorem gatO_t1 {n f t i e b : Nat} {F L0 L Q : Nat → Int} (h : gatO n f F L0 L Q t i e) (hb : b < 4 * n * n) (hbn : L b = -99999) : t < 4 * n * n := by
  have := fb_holes (4 * n * n) (t + 1) (fun j => if j = t then b else (Q j).toNat) (fun j hj => ?_) (fun j k hjk hk => ?_)
  · omega
  · by_cases hq : j = t
    · simp only [hq, if_true]; exact hb
    · simp only [hq, if_false]
      obtain ⟨x, e1, h1, -⟩ := h.1 j (by omega)
      rw [e1]; exact h1
  · have hj : ¬ j = t := by omega
    obtain ⟨x, e1, h1, hx, -⟩ := h.1 j (by omega)
    by_cases hq : k = t
    · simp only [hq, hj, if_true, if_false]
      rw [e1]
      show x ≠ b
      intro z
      subst z
      rw [hbn] at hx
      omega
    · simp only [hq, hj, if_false]
      obtain ⟨y, e2, h2, -⟩ := h.1 k (by omega)
      have := h.2.2.2.2.1 j k hjk (by omega)
      rw [e1, e2] at this ⊢
      omega
theorem gatO_0 {n f : Nat} {F L0 Q : Nat → Int} (hf : f < 4 * n * n) (hn : L0 f = -99999) : gatO n f F L0 (w1 L0 f f) (w1 Q 0 f) 1 0 0 := by
  refine ⟨fun j hj => ?_, fun a ha h1 h2 => ?_, fun a ha h => ?_, fun a ha h => ?_, fun j k h1 h2 => by omega, fun j x e' b h1 h2 h3 => by omega⟩
  · have : j = 0 := by omega
    subst this
    exact ⟨f, by simp [w1], hf, by simp [w1], hn, Nat.le_refl _, fun _ _ => rfl⟩
  · by_cases q : a = f
    · subst q; exact ⟨0, by omega, by simp [w1]⟩
    · simp [w1, q] at h1; exact absurd h2 h1
  · have q : a ≠ f := fun z => h (by rw [z]; exact hn)
    simp [w1, q]
  · by_cases q : a = f
    · subst q; exact Or.inr (by simp [w1])
    · exact Or.inl (by simp [w1, q]; exact h)
theorem gatO_skip {n f t i e x : Nat} {F L0 L Q : Nat → Int} (h : gatO n f F L0 L Q t i e) (hit : i < t) (hx : Q i = (x : Int)) (hs : ∀ b : Nat, b < 4 * n * n → nb n x e = (b : Int) → F x = F b → L b = (f : Int)) : gatO n f F L0 L Q t i (e + 1) := by
  obtain ⟨h1, h2, h3, h4, h5, h6⟩ := h
  refine ⟨h1, h2, h3, h4, h5, fun j y e' b q1 q2 q3 q4 q5 q6 q7 => ?_⟩
  by_cases z : j = i ∧ e' = e
  · obtain ⟨z1, z2⟩ := z
    subst z1; subst z2
    have hxy : x = y := by rw [hx] at q2; omega
    subst hxy
    exact hs b q5 q6 q7
  · exact h6 j y e' b q1 q2 (by omega) q4 q5 q6 q7
theorem gatO_next {n f t i : Nat} {F L0 L Q : Nat → Int} (h : gatO n f F L0 L Q t i 3) : gatO n f F L0 L Q t (i + 1) 0 := by
  obtain ⟨h1, h2, h3, h4, h5, h6⟩ := h
  exact ⟨h1, h2, h3, h4, h5, fun j y e' b q1 q2 q3 q4 q5 q6 q7 => h6 j y e' b q1 q2 (by omega) q4 q5 q6 q7⟩
theorem gatO_add {n f t i e x b : Nat} {F L0 L Q : Nat → Int} (h : gatO n f F L0 L Q t i e) (hit : i < t) (hx : Q i = (x : Int)) (he : e < 3) (hb : b < 4 * n * n) (hbn : L b = -99999) (hnb : nb n x e = (b : Int)) (hF : F x = F b) (hlow : ∀ a, a < f → L0 a ≠ -99999) (hxN : x < 4 * n * n) : gatO n f F L0 (w1 L b f) (w1 Q t b) (t + 1) i (e + 1) := by
  obtain ⟨h1, h2, h3, h4, h5, h6⟩ := h
  have hb0 : L0 b = -99999 := by
    by_cases q : L0 b = -99999
    · exact q
    · have := h3 b hb q
      rw [hbn] at this
      exact this.symm
  have hgx : ∀ g, gInv n F g → g f = g x := by
    obtain ⟨x', e1, -, -, -, -, hg⟩ := h1 i hit
    have : x = x' := by rw [hx] at e1; omega
    rw [this]; exact hg
  refine ⟨fun j hj => ?_, fun a ha q1 q2 => ?_, fun a ha q => ?_, fun a ha q => ?_, fun j k q1 q2 => ?_, fun j y e' c q1 q2 q3 q4 q5 q6 q7 => ?_⟩
  · by_cases z : j = t
    · subst z
      refine ⟨b, by simp [w1], hb, by simp [w1], hb0, ?_, fun g hg => (hgx g hg).trans (hg x b e hxN hb he hnb hF)⟩
      rcases Nat.lt_or_ge b f with q | q
      · exact absurd hb0 (hlow b q)
      · exact q
    · obtain ⟨y, e1, a1, a2, a3, a4, a5⟩ := h1 j (by omega)
      have : ¬ y = b := fun q => by rw [q, hbn] at a2; omega
      exact ⟨y, by simp [w1, z]; exact e1, a1, by simp [w1, this]; exact a2, a3, a4, a5⟩
  · by_cases z : a = b
    · subst z; exact ⟨t, by omega, by simp [w1]⟩
    · simp [w1, z] at q1
      obtain ⟨j, a1, a2⟩ := h2 a ha q1 q2
      have : ¬ j = t := by omega
      exact ⟨j, by omega, by simp [w1, this]; exact a2⟩
  · have : ¬ a = b := fun z => q (by rw [z]; exact hb0)
    simp [w1, this]
    exact h3 a ha q
  · by_cases z : a = b
    · subst z; exact Or.inr (by simp [w1])
    · simp [w1, z]; exact h4 a ha q
  · have hj : ¬ j = t := by omega
    obtain ⟨y, e1, a1, a2, -⟩ := h1 j (by omega)
    by_cases z : k = t
    · subst z
      simp [w1, hj]
      rw [e1]
      intro z2
      have : y = b := by omega
      rw [this, hbn] at a2
      omega
    · simp [w1, hj, z]
      exact h5 j k q1 (by omega)
  · by_cases zc : c = b
    · subst zc; simp [w1]
    · simp [w1, zc]
      by_cases zj : j = t
      · subst zj
        omega
      · simp [w1, zj] at q2
        by_cases z : j = i ∧ e' = e
        · obtain ⟨z1, z2⟩ := z
          subst z1; subst z2
          have hxy : x = y := by rw [hx] at q2; omega
          subst hxy
          rw [hnb] at q6
          omega
        · exact h6 j y e' c (by omega) q2 (by omega) q4 q5 q6 q7
theorem gatO_end {n f t : Nat} {F L0 L Q : Nat → Int} (h : gatO n f F L0 L Q t t 0) (hc : lClo n F L0) : lClo n F L := by
  obtain ⟨h1, h2, h3, h4, h5, h6⟩ := h
  intro a ha hl
  by_cases q : L0 a = -99999
  · obtain ⟨j, hj, hq⟩ := h2 a ha hl q
    obtain ⟨x, e1, a1, a2, a3, a4, a5⟩ := h1 j hj
    have hxa : x = a := by rw [hq] at e1; omega
    subst hxa
    refine ⟨⟨f, a2, a4, a5⟩, fun e b he hb hn hF => ?_⟩
    rw [a2]
    exact h6 j x e b hj hq (Or.inl hj) he hb hn hF
  · have e1 := h3 a ha q
    obtain ⟨⟨r, b1, b2, b3⟩, b4⟩ := hc a ha q
    refine ⟨⟨r, by rw [e1]; exact b1, b2, b3⟩, fun e b he hb hn hF => ?_⟩
    have h7 := b4 e b he hb hn hF
    rw [e1, ← h7]
    exact h3 b hb (by rw [h7]; exact q)
