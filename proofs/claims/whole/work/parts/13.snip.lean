theorem fb_holes : ∀ (m n : Nat) (f : Nat → Nat), (∀ i, i < n → f i < m) → (∀ i j, i < j → j < n → f i ≠ f j) → n ≤ m := by
  intro m
  induction m with
  | zero =>
    intro n f h1 _
    rcases Nat.eq_zero_or_pos n with h | h
    · omega
    · exact absurd (h1 0 h) (Nat.not_lt_zero _)
  | succ m ih =>
    intro n f h1 h2
    by_cases hx : ∃ i, i < n ∧ f i = m
    · obtain ⟨a, ha, hfa⟩ := hx
      have hg := ih (n - 1) (fun i => if i < a then f i else f (i + 1)) (by
        intro i hi
        by_cases q : i < a
        · simp only [if_pos q]
          have b1 := h1 i (by omega)
          have b2 := h2 i a q ha
          omega
        · simp only [if_neg q]
          have b1 := h1 (i + 1) (by omega)
          have b2 := h2 a (i + 1) (by omega) (by omega)
          omega) (by
        intro i j hij hj
        by_cases q : i < a
        · by_cases r : j < a
          · simp only [if_pos q, if_pos r]
            exact h2 i j hij (by omega)
          · simp only [if_pos q, if_neg r]
            exact h2 i (j + 1) (by omega) (by omega)
        · have r : ¬ j < a := by omega
          simp only [if_neg q, if_neg r]
          exact h2 (i + 1) (j + 1) (by omega) (by omega))
      omega
    · have hg := ih n f (fun i hi => by
        have b1 := h1 i hi
        have b2 : f i ≠ m := fun e => hx ⟨i, hi, e⟩
        omega) h2
      omega
/-! ===== pieces: a search through neighbours labels each leaf by the least one of its piece ===== -/
theorem nb_sym0 : ∀ n, n < 7 → ∀ k, k < 4 * n * n → ∀ e, e < 3 → nb n k e ≠ -99999 → ∃ e', e' < 3 ∧ nb n (nb n k e).toNat e' = (k : Int) := by decide +kernel
theorem nb_sym {n k e j : Nat} (hn : n ≤ 6) (hk : k < 4 * n * n) (he : e < 3) (h : nb n k e = (j : Int)) : ∃ e', e' < 3 ∧ nb n j e' = (k : Int) := by
  have h1 := nb_sym0 n (by omega) k hk e he (by omega)
  rw [h] at h1
  exact h1
/-- a function that does not tell leaves of one piece apart -/
def gInv (n : Nat) (F g : Nat → Int) : Prop := ∀ a b e, a < 4 * n * n → b < 4 * n * n → e < 3 → nb n a e = (b : Int) → F a = F b → g a = g b
def lbOk (n : Nat) (F L : Nat → Int) (a : Nat) : Prop := ∃ r : Nat, L a = (r : Int) ∧ r ≤ a ∧ ∀ g, gInv n F g → g r = g a
def lClo (n : Nat) (F L : Nat → Int) : Prop := ∀ a, a < 4 * n * n → L a ≠ -99999 → lbOk n F L a ∧ ∀ e b, e < 3 → b < 4 * n * n → nb n a e = (b : Int) → F a = F b → L b = L a
/-- every leaf bears the least leaf of its piece -/
def Lab (n : Nat) (F L : Nat → Int) : Prop := ∀ a, a < 4 * n * n → lbOk n F L a ∧ ∀ e b, e < 3 → b < 4 * n * n → nb n a e = (b : Int) → F a = F b → L b = L a
theorem Lab.one {n : Nat} {F L M : Nat → Int} (hL : Lab n F L) (hM : Lab n F M) {a : Nat} (ha : a < 4 * n * n) : L a = M a := by
  have key : ∀ {L M : Nat → Int}, Lab n F L → Lab n F M → L a ≤ M a := by
    intro L M hL hM
    obtain ⟨r, e1, h1, h2⟩ := (hM a ha).1
    have h3 : L r = L a := h2 L (fun x y e hx hy he hn hF => ((hL x hx).2 e y he hy hn hF).symm)
    obtain ⟨q, e2, h4, -⟩ := (hL r (by omega)).1
    omega
  have := key hL hM
  have := key hM hL
  omega
def wLQ (w : wd) (L Q : Nat → Int) : wd := fun o i => if o = 19 then L i else if o = 20 then Q i else w o i
theorem wLQ_id (w : wd) : wLQ w (w 19) (w 20) = w := by
  funext o i
  simp only [wLQ]
  split
  · rename_i h; rw [h]
  · split
    · rename_i h; rw [h]
    · rfl
theorem wLQ_L (w : wd) (L Q : Nat → Int) (k : Nat) (a : Int) : wst (wLQ w L Q) 19 k a = wLQ w (w1 L k a) Q := by
  funext o i
  by_cases h : o = 19
  · subst h; simp [wst, w1, wLQ]
  · simp [wst, wLQ, h]
theorem wLQ_Q (w : wd) (L Q : Nat → Int) (k : Nat) (a : Int) : wst (wLQ w L Q) 20 k a = wLQ w L (w1 Q k a) := by
  funext o i
  by_cases h : o = 20
  · subst h; simp [wst, w1, wLQ]
  · by_cases h2 : o = 19
    · subst h2; simp [wst, wLQ]
    · simp [wst, wLQ, h, h2]
/-- the search's state: Q holds t leaves, i of them gone through, and of the next one the edges below e -/
def gatO (n f : Nat) (F L0 L : Nat → Int) (Q : Nat → Int) (t i e : Nat) : Prop :=
  (∀ j, j < t → ∃ x : Nat, Q j = (x : Int) ∧ x < 4 * n * n ∧ L x = (f : Int) ∧ L0 x = -99999 ∧ f ≤ x ∧ ∀ g, gInv n F g → g f = g x) ∧
  (∀ a, a < 4 * n * n → L a ≠ -99999 → L0 a = -99999 → ∃ j, j < t ∧ Q j = (a : Int)) ∧
  (∀ a, a < 4 * n * n → L0 a ≠ -99999 → L a = L0 a) ∧
  (∀ a, a < 4 * n * n → L0 a = -99999 → L a = -99999 ∨ L a = (f : Int)) ∧
  (∀ j k, j < k → k < t → Q j ≠ Q k) ∧
  (∀ j x e' b, j < t → Q j = ((x : Nat) : Int) → (j < i ∨ (j = i ∧ e' < e)) → e' < 3 → b < 4 * n * n → nb n x e' = ((b : Nat) : Int) → F x = F b → L b = (f : Int))
theorem gatO_t {n f t i e : Nat} {F L0 L Q : Nat → Int} (h : gatO n f F L0 L Q t i e) : t ≤ 4 * n * n := by
  refine fb_holes (4 * n * n) t (fun j => (Q j).toNat) (fun j hj => ?_) (fun j k hjk hk => ?_)
  · obtain ⟨x, e1, h1, -⟩ := h.1 j hj
    show (Q j).toNat < _
    rw [e1]; exact h1
  · obtain ⟨x, e1, h1, -⟩ := h.1 j (by omega)
    obtain ⟨y, e2, h2, -⟩ := h.1 k hk
    show (Q j).toNat ≠ (Q k).toNat
    have := h.2.2.2.2.1 j k hjk hk
    rw [e1, e2] at this ⊢
    omega
theorem gatO_t1 {n f t i e b : Nat} {F L0 L Q : Nat → Int} (h : gatO n f F L0 L Q t i e) (hb : b < 4 * n * n) (hbn : L b = -99999) : t < 4 * n * n := by
  have := fb_holes (4 * n * n) (t + 1) (fun j => if j = t then b else (Q j).toNat) (fun j hj => ?_) (fun j k hjk hk => ?_)
  · omega
  · by_cases hq : j = t
    · simp only [hq, if_true]; exact hb
    · simp only [hq, if_false]
      obtain ⟨x, e1, h1, -⟩ := h.1 j (by omega)
      rw [e1]; exact h1
  · have hj : ¬ j = t := by omega
    obtain ⟨x, e1, h1, hx, -⟩ := h.1 j (by omega)
    by_cases hq : k = t
    · simp only [hq, hj, if_true, if_false]
      rw [e1]
      show x ≠ b
      intro z
      subst z
      rw [hbn] at hx
      omega
    · simp only [hq, hj, if_false]
      obtain ⟨y, e2, h2, -⟩ := h.1 k (by omega)
      have := h.2.2.2.2.1 j k hjk (by omega)
      rw [e1, e2] at this ⊢
      omega
theorem gatO_0 {n f : Nat} {F L0 Q : Nat → Int} (hf : f < 4 * n * n) (hn : L0 f = -99999) : gatO n f F L0 (w1 L0 f f) (w1 Q 0 f) 1 0 0 := by
  refine ⟨fun j hj => ?_, fun a ha h1 h2 => ?_, fun a ha h => ?_, fun a ha h => ?_, fun j k h1 h2 => by omega, fun j x e' b h1 h2 h3 => by omega⟩
  · have : j = 0 := by omega
    subst this
    exact ⟨f, by simp [w1], hf, by simp [w1], hn, Nat.le_refl _, fun _ _ => rfl⟩
  · by_cases q : a = f
    · subst q; exact ⟨0, by omega, by simp [w1]⟩
    · simp [w1, q] at h1; exact absurd h2 h1
  · have q : a ≠ f := fun z => h (by rw [z]; exact hn)
    simp [w1, q]
  · by_cases q : a = f
    · subst q; exact Or.inr (by simp [w1])
    · exact Or.inl (by simp [w1, q]; exact h)
theorem gatO_skip {n f t i e x : Nat} {F L0 L Q : Nat → Int} (h : gatO n f F L0 L Q t i e) (hit : i < t) (hx : Q i = (x : Int)) (hs : ∀ b : Nat, b < 4 * n * n → nb n x e = (b : Int) → F x = F b → L b = (f : Int)) : gatO n f F L0 L Q t i (e + 1) := by
  obtain ⟨h1, h2, h3, h4, h5, h6⟩ := h
  refine ⟨h1, h2, h3, h4, h5, fun j y e' b q1 q2 q3 q4 q5 q6 q7 => ?_⟩
  by_cases z : j = i ∧ e' = e
  · obtain ⟨z1, z2⟩ := z
    subst z1; subst z2
    have hxy : x = y := by rw [hx] at q2; omega
    subst hxy
    exact hs b q5 q6 q7
  · exact h6 j y e' b q1 q2 (by omega) q4 q5 q6 q7
theorem gatO_next {n f t i : Nat} {F L0 L Q : Nat → Int} (h : gatO n f F L0 L Q t i 3) : gatO n f F L0 L Q t (i + 1) 0 := by
  obtain ⟨h1, h2, h3, h4, h5, h6⟩ := h
  exact ⟨h1, h2, h3, h4, h5, fun j y e' b q1 q2 q3 q4 q5 q6 q7 => h6 j y e' b q1 q2 (by omega) q4 q5 q6 q7⟩
theorem gatO_add {n f t i e x b : Nat} {F L0 L Q : Nat → Int} (h : gatO n f F L0 L Q t i e) (hit : i < t) (hx : Q i = (x : Int)) (he : e < 3) (hb : b < 4 * n * n) (hbn : L b = -99999) (hnb : nb n x e = (b : Int)) (hF : F x = F b) (hlow : ∀ a, a < f → L0 a ≠ -99999) (hxN : x < 4 * n * n) : gatO n f F L0 (w1 L b f) (w1 Q t b) (t + 1) i (e + 1) := by
  obtain ⟨h1, h2, h3, h4, h5, h6⟩ := h
  have hb0 : L0 b = -99999 := by
    by_cases q : L0 b = -99999
    · exact q
    · have := h3 b hb q
      rw [hbn] at this
      exact this.symm
  have hgx : ∀ g, gInv n F g → g f = g x := by
    obtain ⟨x', e1, -, -, -, -, hg⟩ := h1 i hit
    have : x = x' := by rw [hx] at e1; omega
    rw [this]; exact hg
  refine ⟨fun j hj => ?_, fun a ha q1 q2 => ?_, fun a ha q => ?_, fun a ha q => ?_, fun j k q1 q2 => ?_, fun j y e' c q1 q2 q3 q4 q5 q6 q7 => ?_⟩
  · by_cases z : j = t
    · subst z
      refine ⟨b, by simp [w1], hb, by simp [w1], hb0, ?_, fun g hg => (hgx g hg).trans (hg x b e hxN hb he hnb hF)⟩
      rcases Nat.lt_or_ge b f with q | q
      · exact absurd hb0 (hlow b q)
      · exact q
    · obtain ⟨y, e1, a1, a2, a3, a4, a5⟩ := h1 j (by omega)
      have : ¬ y = b := fun q => by rw [q, hbn] at a2; omega
      exact ⟨y, by simp [w1, z]; exact e1, a1, by simp [w1, this]; exact a2, a3, a4, a5⟩
  · by_cases z : a = b
    · subst z; exact ⟨t, by omega, by simp [w1]⟩
    · simp [w1, z] at q1
      obtain ⟨j, a1, a2⟩ := h2 a ha q1 q2
      have : ¬ j = t := by omega
      exact ⟨j, by omega, by simp [w1, this]; exact a2⟩
  · have : ¬ a = b := fun z => q (by rw [z]; exact hb0)
    simp [w1, this]
    exact h3 a ha q
  · by_cases z : a = b
    · subst z; exact Or.inr (by simp [w1])
    · simp [w1, z]; exact h4 a ha q
  · have hj : ¬ j = t := by omega
    obtain ⟨y, e1, a1, a2, -⟩ := h1 j (by omega)
    by_cases z : k = t
    · subst z
      simp [w1, hj]
      rw [e1]
      intro z2
      have : y = b := by omega
      rw [this, hbn] at a2
      omega
    · simp [w1, hj, z]
      exact h5 j k q1 (by omega)
  · by_cases zc : c = b
    · subst zc; simp [w1]
    · simp [w1, zc]
      by_cases zj : j = t
      · subst zj
        omega
      · simp [w1, zj] at q2
        by_cases z : j = i ∧ e' = e
        · obtain ⟨z1, z2⟩ := z
          subst z1; subst z2
          have hxy : x = y := by rw [hx] at q2; omega
          subst hxy
          rw [hnb] at q6
          omega
        · exact h6 j y e' c (by omega) q2 (by omega) q4 q5 q6 q7
theorem gatO_end {n f t : Nat} {F L0 L Q : Nat → Int} (h : gatO n f F L0 L Q t t 0) (hc : lClo n F L0) : lClo n F L := by
  obtain ⟨h1, h2, h3, h4, h5, h6⟩ := h
  intro a ha hl
  by_cases q : L0 a = -99999
  · obtain ⟨j, hj, hq⟩ := h2 a ha hl q
    obtain ⟨x, e1, a1, a2, a3, a4, a5⟩ := h1 j hj
    have hxa : x = a := by rw [hq] at e1; omega
    subst hxa
    refine ⟨⟨f, a2, a4, a5⟩, fun e b he hb hn hF => ?_⟩
    rw [a2]
    exact h6 j x e b hj hq (Or.inl hj) he hb hn hF
  · have e1 := h3 a ha q
    obtain ⟨⟨r, b1, b2, b3⟩, b4⟩ := hc a ha q
    refine ⟨⟨r, by rw [e1]; exact b1, b2, b3⟩, fun e b he hb hn hF => ?_⟩
    have h7 := b4 e b he hb hn hF
    rw [e1, ← h7]
    exact h3 b hb (by rw [h7]; exact q)
theorem gatO_old {n f t i e x b : Nat} {F L0 L Q : Nat → Int} (h : gatO n f F L0 L Q t i e) (hc : lClo n F L0) (hn : n ≤ 6) (he : e < 3) (hxN : x < 4 * n * n) (hx0 : L0 x = -99999) (hb : b < 4 * n * n) (hbn : L b ≠ -99999) (hnb : nb n x e = (b : Int)) (hF : F x = F b) : L b = (f : Int) := by
  by_cases q : L0 b = -99999
  · exact (h.2.2.2.1 b hb q).resolve_left hbn
  · obtain ⟨e', he', h'⟩ := nb_sym hn hxN he hnb
    have := (hc b hb q).2 e' x he' hxN h' hF.symm
    rw [hx0] at this
    exact absurd this.symm q
theorem lClo.Lab {n : Nat} {F L : Nat → Int} (h : lClo n F L) (ha : ∀ a, a < 4 * n * n → L a ≠ -99999) : Lab n F L := fun a hN => h a hN (ha a hN)
set_option maxHeartbeats 4000000 in
set_option maxRecDepth 20000 in
theorem sp_X8_gather {n f : Nat} {w : wd} (hs : ShO n w) (hg : FlO w) (hc : lClo n (fun k => ib (w 18 k = 1)) (w 19)) (hf : f < 4 * n * n) (hfn : w 19 f = -99999) (hlow : ∀ a, a < f → w 19 a ≠ -99999) : CalV yX8_gather cX8_gather 7 3 LAY w [vR 17, vI (f : Int)] (fun w' => ∃ L Q, w' = wLQ w L Q ∧ lClo n (fun k => ib (w 18 k = 1)) L ∧ L f ≠ -99999 ∧ (∀ a, a < 4 * n * n → w 19 a ≠ -99999 → L a = w 19 a) ∧ ∀ a, 4 * n * n ≤ a → L a = w 19 a) := by
  have h144 := nn_le hs.1.2
  have hFk : ∀ k, (fun k => ib (w 18 k = 1)) k = ib (w 18 k = 1) := fun k => rfl
  generalize hF : (fun k => ib (w 18 k = 1)) = F at hc hFk
  have hN : ∀ L Q, ShO n (wLQ w L Q) := fun L Q => hs.keep (fun o ho => by funext i; simp only [wLQ]; rw [if_neg (by omega), if_neg (by omega)])
  have hG : ∀ L Q, FlO (wLQ w L Q) := fun L Q => hg
  have hLr0 : ∀ a, a < 4 * n * n → -99999 ≤ w 19 a ∧ w 19 a ≤ 144 := fun a ha => by
    by_cases q : w 19 a = -99999
    · omega
    · obtain ⟨⟨r, e1, e2, -⟩, -⟩ := hc a ha q
      omega
  refine calV_intro (ls := [some (vR 17), some (vI (f : Int)), none, none, none, none, none]) (by decide) (Nat.le_of_ble_eq_true rfl) rfl (fun κ ad X hR => ?_)
  refine j_aload_n X dX8_gather_0 rfl ?_
  refine j_getR X dX8_gather_1 ff_X8_15 rfl rfl ?_
  refine j_iload_n X dX8_gather_4 rfl ?_
  refine j_iload_n X dX8_gather_5 rfl ?_
  refine cS3v X mf_X5_put ms_X5_put ml_X8_57 (by decide) (Nat.le_of_ble_eq_true rfl) dX8_gather_6 (sp_putk (k := f) rfl (by decide) (by omega)) (fun w_6 h_6 => ?_)
  change _ = _ at h_6
  subst w_6
  refine j_aload_n X dX8_gather_9 rfl ?_
  refine j_getR X dX8_gather_10 ff_X8_18 rfl rfl ?_
  refine j_iconst X dX8_gather_13 ?_
  refine j_iload_n X dX8_gather_14 rfl ?_
  refine cS3v X mf_X5_put ms_X5_put ml_X8_57 (by decide) (Nat.le_of_ble_eq_true rfl) dX8_gather_15 (sp_putk (k := 0) rfl (by decide) (by decide)) (fun w_15 h_15 => ?_)
  change _ = _ at h_15
  subst w_15
  rw [show wst (wst w 19 f (f : Int)) 20 0 (f : Int) = wLQ w (w1 (w 19) f f) (w1 (w 20) 0 f) by rw [← wLQ_Q, ← wLQ_L, wLQ_id]]
  have hG0 := gatO_0 (F := F) (Q := w 20) hf hfn
  refine j_iconst X dX8_gather_18 ?_
  refine s_2 X dX8_gather_19 rfl ?_
  refine j_iconst X dX8_gather_20 ?_
  refine s_3 X dX8_gather_21 rfl ?_
  have L_22 : ∀ (m : Nat) (i t : Nat) (L Q : Nat → Int) (_ : gatO n f F (w 19) L Q t i 0) (_ : ∀ a, a < 4 * n * n → -99999 ≤ L a ∧ L a ≤ 144) (_ : L f = (f : Int) ∧ ∀ a, 4 * n * n ≤ a → L a = w 19 a) (_ : i ≤ t) (_ : 144 - i < m), J κ LAY ad 0 0 22 [some (vR 17), some (vI (f : Int)), some (vI (t : Int)), some (vI (i : Int)), none, none, none] [] (wLQ w L Q) := by
    intro m
    induction m with
    | zero => intro i t L Q hO hLr hLf h1 h2; exact absurd h2 (Nat.not_lt_zero _)
    | succ m ih22 =>
      intro i t L Q hO hLr hLf h1 h2
      have htN := gatO_t hO
      refine j_iload_n X dX8_gather_22 rfl ?_
      refine j_iload_n X dX8_gather_23 rfl ?_
      refine j_icmp_ge (tgt := 134) X dX8_gather_24 (by decide) ⟨by omega, by omega⟩ ⟨by omega, by omega⟩ (fun h_24 => ?_) (fun h_24 => ?_)
      · have hit9 : i = t := by omega
        subst hit9
        exact j_return X hR dX8_gather_134 ⟨L, Q, rfl, gatO_end hO hc, by rw [hLf.1]; omega, hO.2.2.1, hLf.2⟩
      · refine j_iload_n X dX8_gather_27 rfl ?_
        refine j_sipush X dX8_gather_28 (by decide +kernel) ?_
        refine j_icmp_ge (tgt := 134) X dX8_gather_31 (by decide) ⟨by omega, by omega⟩ ⟨by omega, by omega⟩ (fun h_31 => ?_) (fun h_31 => ?_)
        · have hit9 : i = t := by omega
          subst hit9
          exact j_return X hR dX8_gather_134 ⟨L, Q, rfl, gatO_end hO hc, by rw [hLf.1]; omega, hO.2.2.1, hLf.2⟩
        · have hit : i < t := by omega
          obtain ⟨x, hxq, hxN, hxL, hx0, hxf, hxg⟩ := hO.1 i hit
          refine j_aload_n X dX8_gather_34 rfl ?_
          refine j_getR X dX8_gather_35 ff_X8_18 rfl rfl ?_
          refine j_iload_n X dX8_gather_38 rfl ?_
          refine cS2i X mf_X5_get ms_X5_get ml_X8_61 (by decide) (Nat.le_of_ble_eq_true rfl) dX8_gather_39 (sp_getk (k := i) rfl (by decide) (by omega)) (fun a_39 w_39 h_39 => ?_)
          obtain ⟨_, _⟩ := h_39
          subst a_39
          subst w_39
          rw [show wLQ w L Q 20 i = (x : Int) from hxq]
          refine s_4 X dX8_gather_42 rfl ?_
          refine j_iconst X dX8_gather_44 ?_
          refine s_5 X dX8_gather_45 rfl ?_
          have L_47 : ∀ (m : Nat) (e t : Nat) (L Q : Nat → Int) (_ : gatO n f F (w 19) L Q t i e) (_ : ∀ a, a < 4 * n * n → -99999 ≤ L a ∧ L a ≤ 144) (_ : L f = (f : Int) ∧ ∀ a, 4 * n * n ≤ a → L a = w 19 a) (_ : i < t) (_ : Q i = (x : Int)) (_ : e ≤ 3) (_ : 3 - e < m), J κ LAY ad 0 0 47 [some (vR 17), some (vI (f : Int)), some (vI (t : Int)), some (vI (i : Int)), some (vI (x : Int)), some (vI (e : Int)), none] [] (wLQ w L Q) := by
            intro m
            induction m with
            | zero => intro e t L Q hO hLr hLf hit hxq h3 h4; exact absurd h4 (Nat.not_lt_zero _)
            | succ m ih47 =>
              intro e t L Q hO hLr hLf hit hxq h3 h4
              have htN := gatO_t hO
              refine j_iload X dX8_gather_47 rfl ?_
              refine j_iconst X dX8_gather_49 ?_
              refine j_icmp_ge (tgt := 128) X dX8_gather_50 (by decide) ⟨by omega, by omega⟩ ⟨by omega, by omega⟩ (fun h_50 => ?_) (fun h_50 => ?_)
              · refine inc_3 X dX8_gather_128 rfl ?_
                refine j_goto (tgt := 22) X dX8_gather_131 (by decide) ?_
                refine fg_4 ?_
                refine fg_5 ?_
                refine fg_6 ?_
                have he9 : e = 3 := by omega
                subst he9
                exact ih22 (i + 1) t L Q (gatO_next hO) hLr hLf (by omega) (by omega)
              · have he3 : e < 3 := by omega
                have hbb := nb_b hs.1 hxN he3
                refine j_aload_n X dX8_gather_53 rfl ?_
                refine j_getR X dX8_gather_54 ff_X8_21 rfl rfl ?_
                refine j_iload X dX8_gather_57 rfl ?_
                refine j_iload X dX8_gather_59 rfl ?_
                refine cV2i X mf_X7_beside mv_X7_beside ml_X8_74 (by decide) rfl rfl (Nat.le_of_ble_eq_true rfl) dX8_gather_61 (sp_X7_beside (hN _ _) hxN he3) (fun a_61 w_61 h_61 => ?_)
                obtain ⟨_, _⟩ := h_61
                subst a_61
                subst w_61
                refine s_6 X dX8_gather_64 rfl ?_
                refine j_iload X dX8_gather_66 rfl ?_
                refine j_ldc X dX8_gather_68 kc_X8_65 ?_
                refine j_icmp_eq (tgt := 122) X dX8_gather_70 (by decide) ⟨by omega, by omega⟩ ⟨by omega, by omega⟩ (fun h_70 => ?_) (fun h_70 => ?_)
                · refine inc_5 X dX8_gather_122 rfl ?_
                  refine j_goto (tgt := 47) X dX8_gather_125 (by decide) ?_
                  refine fg_6 ?_
                  exact ih47 (e + 1) t L Q (gatO_skip hO hit hxq (fun b hb hn hF => by omega)) hLr hLf hit hxq (by omega) (by omega)
                · obtain ⟨b, hnb, hbN⟩ := (nb_rg hs.1 hxN he3).resolve_left h_70
                  rw [hnb]
                  refine j_aload_n X dX8_gather_73 rfl ?_
                  refine j_iload X dX8_gather_74 rfl ?_
                  refine cV1i X mf_X8_leastOf mv_X8_leastOf ml_X8_66 (by decide) rfl rfl (Nat.le_of_ble_eq_true rfl) dX8_gather_76 (sp_X8_leastOf (by omega)) (fun a_76 w_76 h_76 => ?_)
                  obtain ⟨_, _⟩ := h_76
                  subst a_76
                  subst w_76
                  have hLb : -99999 ≤ L b ∧ L b ≤ 144 := hLr b hbN
                  change J κ LAY ad 0 0 _ _ [vI (L b)] _
                  refine j_ldc X dX8_gather_79 kc_X8_65 ?_
                  refine j_icmp_ne (tgt := 122) X dX8_gather_81 (by decide) ⟨by omega, by omega⟩ ⟨by omega, by omega⟩ (fun h_81 => ?_) (fun h_81 => ?_)
                  · refine inc_5 X dX8_gather_122 rfl ?_
                    refine j_goto (tgt := 47) X dX8_gather_125 (by decide) ?_
                    refine fg_6 ?_
                    exact ih47 (e + 1) t L Q (gatO_skip hO hit hxq (fun b2 hb2 hn2 hF2 => gatO_old hO hc hs.1.2 he3 hxN hx0 hb2 (by rw [show b2 = b by omega]; exact h_81) hn2 hF2)) hLr hLf hit hxq (by omega) (by omega)
                  · refine j_aload_n X dX8_gather_84 rfl ?_
                    refine j_iload X dX8_gather_85 rfl ?_
                    refine cV1i X mf_X8_isDown mv_X8_isDown ml_X8_78 (by decide) rfl rfl (Nat.le_of_ble_eq_true rfl) dX8_gather_87 (sp_X8_isDown (hG _ _) (by omega)) (fun a_87 w_87 h_87 => ?_)
                    obtain ⟨_, _⟩ := h_87
                    subst a_87
                    subst w_87
                    refine j_aload_n X dX8_gather_90 rfl ?_
                    refine j_iload X dX8_gather_91 rfl ?_
                    refine cV1i X mf_X8_isDown mv_X8_isDown ml_X8_78 (by decide) rfl rfl (Nat.le_of_ble_eq_true rfl) dX8_gather_93 (sp_X8_isDown (hG _ _) (by omega)) (fun a_93 w_93 h_93 => ?_)
                    obtain ⟨_, _⟩ := h_93
                    subst a_93
                    subst w_93
                    refine j_icmp_ne (tgt := 122) X dX8_gather_96 (by decide) ib_rg ib_rg (fun h_96 => ?_) (fun h_96 => ?_)
                    · refine inc_5 X dX8_gather_122 rfl ?_
                      refine j_goto (tgt := 47) X dX8_gather_125 (by decide) ?_
                      refine fg_6 ?_
                      exact ih47 (e + 1) t L Q (gatO_skip hO hit hxq (fun b2 hb2 hn2 hF2 => by rw [show b2 = b by omega, hFk, hFk] at hF2; exact absurd hF2.symm h_96)) hLr hLf hit hxq (by omega) (by omega)
                    · have hbF : F x = F b := by rw [hFk, hFk]; exact h_96.symm
                      have ht1 := gatO_t1 hO hbN h_81
                      refine j_aload_n X dX8_gather_99 rfl ?_
                      refine j_getR X dX8_gather_100 ff_X8_15 rfl rfl ?_
                      refine j_iload X dX8_gather_103 rfl ?_
                      refine j_iload_n X dX8_gather_105 rfl ?_
                      refine cS3v X mf_X5_put ms_X5_put ml_X8_57 (by decide) (Nat.le_of_ble_eq_true rfl) dX8_gather_106 (sp_putk (k := b) rfl (by decide) (by omega)) (fun w_106 h_106 => ?_)
                      change _ = _ at h_106
                      subst w_106
                      refine j_aload_n X dX8_gather_109 rfl ?_
                      refine j_getR X dX8_gather_110 ff_X8_18 rfl rfl ?_
                      refine j_iload_n X dX8_gather_113 rfl ?_
                      refine j_iload X dX8_gather_114 rfl ?_
                      refine cS3v X mf_X5_put ms_X5_put ml_X8_57 (by decide) (Nat.le_of_ble_eq_true rfl) dX8_gather_116 (sp_putk (k := t) rfl (by decide) (by omega)) (fun w_116 h_116 => ?_)
                      change _ = _ at h_116
                      subst w_116
                      refine inc_2 X dX8_gather_119 rfl ?_
                      refine inc_5 X dX8_gather_122 rfl ?_
                      refine j_goto (tgt := 47) X dX8_gather_125 (by decide) ?_
                      rw [wLQ_L, wLQ_Q]
                      refine fg_6 ?_
                      refine ih47 (e + 1) (t + 1) _ _ (gatO_add hO hit hxq he3 hbN h_81 hnb hbF hlow hxN) (fun a ha => ?_) ⟨?_, fun a ha => by simp [w1, show ¬ a = b by omega]; exact hLf.2 a ha⟩ (by omega) (by simp [w1, show ¬ i = t by omega]; exact hxq) (by omega) (by omega)
                      · by_cases q : a = b
                        · subst q; simp [w1]; omega
                        · simp [w1, q]; exact hLr a ha
                      · by_cases q : f = b
                        · simp [w1, q]
                        · simp [w1, q]; exact hLf.1
          exact L_47 4 0 t L Q hO hLr hLf hit hxq (by omega) (by omega)
  refine L_22 145 0 1 _ _ hG0 (fun a ha => ?_) ⟨by simp [w1], fun a ha => by simp [w1, show ¬ a = f by omega]⟩ (by omega) (by omega)
  by_cases q : a = f
  · subst q; simp [w1]; omega
  · simp [w1, q]; exact hLr0 a ha
theorem wLQ_wLQ (w : wd) (L Q L' Q' : Nat → Int) : wLQ (wLQ w L Q) L' Q' = wLQ w L' Q' := by
  funext o i
  simp only [wLQ]
  split
  · rfl
  · split
    · rfl
    · rfl
theorem wLQ_f (w : wd) : wfl w 19 144 (-99999) = wLQ w (fun i => if i < 144 then -99999 else w 19 i) (w 20) := by
  funext o i
  by_cases h : o = 19
  · subst h; simp [wfl, wLQ]
  · by_cases h2 : o = 20
    · subst h2; simp [wfl, wLQ]
    · simp [wfl, wLQ, h, h2]
set_option maxHeartbeats 4000000 in
set_option maxRecDepth 20000 in
theorem sp_X8_part {n : Nat} {w : wd} (hs : ShO n w) (hg : FlO w) : CalV yX8_part cX8_part 2 4 LAY w [vR 17] (fun w' => ∃ L Q, w' = wLQ w L Q ∧ Lab n (fun k => ib (w 18 k = 1)) L ∧ ∀ a, a < 144 → -99999 ≤ L a ∧ L a ≤ 144) := by
  have h144 := nn_le hs.1.2
  have hn2 := hs.2.2.1
  have hN : ∀ L Q, ShO n (wLQ w L Q) := fun L Q => hs.keep (fun o ho => by funext i; simp only [wLQ]; rw [if_neg (by omega), if_neg (by omega)])
  have hG : ∀ L Q, FlO (wLQ w L Q) := fun L Q => hg
  have hcr : ∀ L, lClo n (fun k => ib (w 18 k = 1)) L → ∀ a, a < 4 * n * n → -99999 ≤ L a ∧ L a ≤ 144 := fun L hc a ha => by
    by_cases q : L a = -99999
    · omega
    · obtain ⟨⟨r, e1, e2, -⟩, -⟩ := hc a ha q
      omega
  refine calV_intro (ls := [some (vR 17), none]) (by decide) (Nat.le_of_ble_eq_true rfl) rfl (fun κ ad X hR => ?_)
  refine j_aload_n X dX8_part_0 rfl ?_
  refine j_getR X dX8_part_1 ff_X8_15 rfl rfl ?_
  refine j_ldc X dX8_part_4 kc_X8_65 ?_
  refine cS2v X mf_X5_fill ms_X5_fill ml_X8_33 (by decide) (Nat.le_of_ble_eq_true rfl) dX8_part_6 (sp_X5_fill rfl (by decide)) (fun w_6 h_6 => ?_)
  change _ = _ at h_6
  subst w_6
  rw [wLQ_f]
  refine j_iconst X dX8_part_9 ?_
  refine s_1 X dX8_part_10 rfl ?_
  have L_11 : ∀ (m : Nat) (k : Nat) (L Q : Nat → Int) (_ : lClo n (fun k => ib (w 18 k = 1)) L) (_ : ∀ a, a < k → L a ≠ -99999) (_ : ∀ a, 4 * n * n ≤ a → a < 144 → L a = -99999) (_ : k ≤ 4 * n * n) (_ : 4 * n * n - k < m), J κ LAY ad 0 0 11 [some (vR 17), some (vI (k : Int))] [] (wLQ w L Q) := by
    intro m
    induction m with
    | zero => intro k L Q hc hl ho h1 h2; exact absurd h2 (Nat.not_lt_zero _)
    | succ m ih11 =>
      intro k L Q hc hl ho h1 h2
      have hn9 : wLQ w L Q 1 4 = ((4 * n * n : Nat) : Int) := hn2
      refine j_iload_n X dX8_part_11 rfl ?_
      refine j_aload_n X dX8_part_12 rfl ?_
      refine j_getR X dX8_part_13 ff_X8_21 rfl rfl ?_
      refine j_getI X dX8_part_16 ff_X8_42 rfl rfl ?_
      refine j_icmp_ge (tgt := 43) X dX8_part_19 (by decide) ⟨by omega, by omega⟩ ⟨by omega, by omega⟩ (fun h_19 => ?_) (fun h_19 => ?_)
      · exact j_return X hR dX8_part_43 ⟨L, Q, rfl, hc.Lab (fun a ha => hl a (by omega)), fun a ha => by rcases Nat.lt_or_ge a (4 * n * n) with q | q; exact hcr L hc a q; rw [ho a q ha]; omega⟩
      · have hk : k < 4 * n * n := by omega
        have hLk := hcr L hc k hk
        refine j_aload_n X dX8_part_22 rfl ?_
        refine j_iload_n X dX8_part_23 rfl ?_
        refine cV1i X mf_X8_leastOf mv_X8_leastOf ml_X8_66 (by decide) rfl rfl (Nat.le_of_ble_eq_true rfl) dX8_part_24 (sp_X8_leastOf (by omega)) (fun a_24 w_24 h_24 => ?_)
        obtain ⟨_, _⟩ := h_24
        subst a_24
        subst w_24
        change J κ LAY ad 0 0 _ _ [vI (L k)] _
        refine j_ldc X dX8_part_27 kc_X8_65 ?_
        refine j_icmp_ne (tgt := 37) X dX8_part_29 (by decide) ⟨by omega, by omega⟩ ⟨by omega, by omega⟩ (fun h_29 => ?_) (fun h_29 => ?_)
        · refine inc_1 X dX8_part_37 rfl ?_
          refine j_goto (tgt := 11) X dX8_part_40 (by decide) ?_
          exact ih11 (k + 1) L Q hc (fun a ha => by by_cases q : a = k; rw [q]; exact h_29; exact hl a (by omega)) ho (by omega) (by omega)
        · refine j_aload_n X dX8_part_32 rfl ?_
          refine j_iload_n X dX8_part_33 rfl ?_
          refine cV1v X mf_X8_gather mv_X8_gather ml_X8_70 (by decide) rfl rfl (Nat.le_of_ble_eq_true rfl) dX8_part_34 (sp_X8_gather (hN _ _) (hG _ _) hc hk h_29 hl) (fun w_34 h_34 => ?_)
          obtain ⟨L2, Q2, hw9, hc2, hk2, hold, hout⟩ := h_34
          rw [wLQ_wLQ] at hw9
          subst w_34
          refine inc_1 X dX8_part_37 rfl ?_
          refine j_goto (tgt := 11) X dX8_part_40 (by decide) ?_
          exact ih11 (k + 1) L2 Q2 hc2 (fun a ha => by by_cases q : a = k; rw [q]; exact hk2; rw [hold a (by omega) (hl a (by omega))]; exact hl a (by omega)) (fun a h1 h2 => by rw [hout a h1]; exact ho a h1 h2) (by omega) (by omega)
  exact L_11 (4 * n * n + 1) 0 _ _ (fun a ha h => absurd (by simp [show a < 144 by omega]) h) (fun a ha => absurd ha (Nat.not_lt_zero a)) (fun a _ ha => by simp [ha]) (by omega) (by omega)
def mndW (w : wd) : wd := wfl (wst (wst w 17 4 0) 17 5 0) 18 144 0
def drpP (sort l side : Int) (w : wd) (m : Nat) : wd := fun o i => if o = 18 ∧ i < m then ib (pon sort l side w i) else if o = 17 ∧ i = 4 then 1 else if o = 17 ∧ i = 5 then sm (fun k => ib (pon sort l side w k)) m else w o i
theorem drpP_0 (sort l side : Int) (w : wd) : wst (wst w 17 4 1) 17 5 0 = drpP sort l side w 0 := by
  funext o i
  by_cases h : o = 17
  · subst h
    by_cases h5 : i = 5
    · subst h5; simp [wst, w1, drpP, sm_0]
    · by_cases h4 : i = 4
      · subst h4; simp [wst, w1, drpP]
      · simp [wst, w1, drpP, h4, h5]
  · simp [wst, drpP, h]
theorem drpP_s (sort l side : Int) (w : wd) (m : Nat) : wst (wst (drpP sort l side w m) 18 m (ib (pon sort l side w m))) 17 5 (drpP sort l side w m 17 5 + ib (pon sort l side w m)) = drpP sort l side w (m + 1) := by
  funext o i
  by_cases h : o = 17
  · subst h
    by_cases h5 : i = 5
    · subst h5; simp [wst, w1, drpP, sm_s]
    · simp [wst, w1, drpP, h5]
  · by_cases h8 : o = 18
    · subst h8
      by_cases hi : i = m
      · subst hi; simp [wst, w1, drpP]
      · have : i < m ↔ i < m + 1 := by omega
        simp [wst, w1, drpP, hi, this]
    · simp [wst, drpP, h, h8]
set_option maxHeartbeats 4000000 in
set_option maxRecDepth 20000 in
theorem sp_X8_mend {n : Nat} {w : wd} (hs : ShO n w) : CalV yX8_mend cX8_mend 1 5 LAY w [vR 17] (fun w' => ∃ L Q, w' = wLQ (mndW w) L Q ∧ Lab n (fun k => ib (mndW w 18 k = 1)) L ∧ ∀ a, a < 144 → -99999 ≤ L a ∧ L a ≤ 144) := by
  have hs2 : ShO n (mndW w) := hs.keep (fun o ho => by funext i; simp only [mndW, wfl, wst]; rw [if_neg (by omega), if_neg (by omega), if_neg (by omega)])
  have hg2 : FlO (mndW w) := fun k hk => by simp [mndW, wfl, hk]
  refine calV_intro (ls := [some (vR 17)]) (by decide) (Nat.le_of_ble_eq_true rfl) rfl (fun κ ad X hR => ?_)
  refine j_aload_n X dX8_mend_0 rfl ?_
  refine j_iconst X dX8_mend_1 ?_
  refine j_putZ X dX8_mend_2 fp_X8_25 rfl rfl (by first | exact Or.inl rfl | exact Or.inr rfl | assumption | omega) ?_
  refine j_aload_n X dX8_mend_5 rfl ?_
  refine j_iconst X dX8_mend_6 ?_
  refine j_putI X dX8_mend_7 fp_X8_29 rfl rfl ?_
  refine j_aload_n X dX8_mend_10 rfl ?_
  refine j_getR X dX8_mend_11 ff_X8_9 rfl rfl ?_
  refine j_iconst X dX8_mend_14 ?_
  refine cS2v X mf_X5_fill ms_X5_fill ml_X8_33 (by decide) (Nat.le_of_ble_eq_true rfl) dX8_mend_15 (sp_X5_fill rfl (by decide)) (fun w_15 h_15 => ?_)
  change _ = _ at h_15
  subst w_15
  refine j_aload_n X dX8_mend_18 rfl ?_
  refine cV0v X mf_X8_part mv_X8_part ml_X8_39 (by decide) rfl rfl (Nat.le_of_ble_eq_true rfl) dX8_mend_19 (sp_X8_part hs2 hg2) (fun w_19 h_19 => ?_)
  have h_p := h_19
  exact j_return X hR dX8_mend_22 h_p
set_option maxHeartbeats 4000000 in
set_option maxRecDepth 20000 in
theorem sp_X8_drop {n : Nat} {sort l side : Int} {w : wd} (hs : ShO n w) (hp : PlO (4 * n * n) w) (hg : FlO w) (hsr : rg sort) (hlr : rg l) (hdr : rg side) : CalV yX8_drop cX8_drop 7 5 LAY w [vR 17, vR 5, vI sort, vI l, vI side] (fun w' => ∃ L Q, w' = wLQ (drpP sort l side w (4 * n * n)) L Q ∧ Lab n (fun k => ib (drpP sort l side w (4 * n * n) 18 k = 1)) L ∧ ∀ a, a < 144 → -99999 ≤ L a ∧ L a ≤ 144) := by
  have h144 := nn_le hs.1.2
  have hn2 := hs.2.2.1
  have hs2 : ShO n (drpP sort l side w (4 * n * n)) := hs.keep (fun o ho => by funext i; simp only [drpP]; rw [if_neg (by omega), if_neg (by omega), if_neg (by omega)])
  have hg2 : FlO (drpP sort l side w (4 * n * n)) := fun k hk => by
    simp only [drpP]
    split
    · exact ib_01
    · rw [if_neg (by omega), if_neg (by omega)]; exact hg k hk
  refine calV_intro (ls := [some (vR 17), some (vR 5), some (vI sort), some (vI l), some (vI side), none, none]) (by decide) (Nat.le_of_ble_eq_true rfl) rfl (fun κ ad X hR => ?_)
  refine j_aload_n X dX8_drop_0 rfl ?_
  refine j_iconst X dX8_drop_1 ?_
  refine j_putZ X dX8_drop_2 fp_X8_25 rfl rfl (by first | exact Or.inl rfl | exact Or.inr rfl | assumption | omega) ?_
  refine j_aload_n X dX8_drop_5 rfl ?_
  refine j_iconst X dX8_drop_6 ?_
  refine j_putI X dX8_drop_7 fp_X8_29 rfl rfl ?_
  refine j_iconst X dX8_drop_10 ?_
  refine s_5 X dX8_drop_11 rfl ?_
  have L_13 : ∀ (m : Nat) (k : Nat) (_ : k ≤ 4 * n * n) (_ : 4 * n * n - k < m), J κ LAY ad 0 0 13 [some (vR 17), some (vR 5), some (vI sort), some (vI l), some (vI side), some (vI (k : Int)), none] [] (drpP sort l side w k) := by
    intro m
    induction m with
    | zero => intro k h1 h2; exact absurd h2 (Nat.not_lt_zero _)
    | succ m ih13 =>
      intro k h1 h2
      have hn9 : drpP sort l side w k 1 4 = ((4 * n * n : Nat) : Int) := hn2
      refine j_iload X dX8_drop_13 rfl ?_
      refine j_aload_n X dX8_drop_15 rfl ?_
      refine j_getR X dX8_drop_16 ff_X8_21 rfl rfl ?_
      refine j_getI X dX8_drop_19 ff_X8_42 rfl rfl ?_
      refine j_icmp_ge (tgt := 68) X dX8_drop_22 (by decide) ⟨by omega, by omega⟩ ⟨by omega, by omega⟩ (fun h_22 => ?_) (fun h_22 => ?_)
      · rw [show k = 4 * n * n by omega]
        refine j_aload_n X dX8_drop_68 rfl ?_
        refine cV0v X mf_X8_part mv_X8_part ml_X8_39 (by decide) rfl rfl (Nat.le_of_ble_eq_true rfl) dX8_drop_69 (sp_X8_part hs2 hg2) (fun w_69 h_69 => ?_)
        have h_p := h_69
        exact j_return X hR dX8_drop_72 h_p
      · refine j_aload_n X dX8_drop_25 rfl ?_
        refine j_iload X dX8_drop_26 rfl ?_
        refine j_iload_n X dX8_drop_28 rfl ?_
        refine j_iload_n X dX8_drop_29 rfl ?_
        refine j_iload X dX8_drop_30 rfl ?_
        refine cV4i X mf_X4_isOn mv_X4_isOn ml_X8_47 (by decide) rfl rfl (Nat.le_of_ble_eq_true rfl) dX8_drop_32 ((show CalI yX4_isOn cX4_isOn 5 .boolean 3 LAY (drpP sort l side w k) [vR 5, vI (k : Int), vI sort, vI l, vI side] (fun a w' => a = ib (pon sort l side w k) ∧ w' = drpP sort l side w k) from sp_X4_isOn (hp k (by omega)) (by omega) hsr hlr hdr)) (fun a_32 w_32 h_32 => ?_)
        obtain ⟨_, _⟩ := h_32
        subst a_32
        subst w_32
        refine cS1i X mf_X9_yes ms_X9_yes ml_X8_53 (by decide) (Nat.le_of_ble_eq_true rfl) dX8_drop_35 (sp_X9_yes ib_01) (fun a_35 w_35 h_35 => ?_)
        obtain ⟨_, _⟩ := h_35
        subst a_35
        subst w_35
        refine s_6 X dX8_drop_38 rfl ?_
        refine j_aload_n X dX8_drop_40 rfl ?_
        refine j_getR X dX8_drop_41 ff_X8_9 rfl rfl ?_
        refine j_iload X dX8_drop_44 rfl ?_
        refine j_iload X dX8_drop_46 rfl ?_
        refine cS3v X mf_X5_put ms_X5_put ml_X8_57 (by decide) (Nat.le_of_ble_eq_true rfl) dX8_drop_48 (sp_putk (k := k) rfl (by decide) (by omega)) (fun w_48 h_48 => ?_)
        change _ = _ at h_48
        subst w_48
        refine j_aload_n X dX8_drop_51 rfl ?_
        refine j_dup X dX8_drop_52 (fun _ h => by cases h) ?_
        refine j_getI X dX8_drop_53 ff_X8_29 rfl rfl ?_
        refine j_iload X dX8_drop_56 rfl ?_
        refine j_iadd X dX8_drop_58 ?_
        refine j_putI X dX8_drop_59 fp_X8_29 rfl rfl ?_
        refine inc_5 X dX8_drop_62 rfl ?_
        refine j_goto (tgt := 13) X dX8_drop_65 (by decide) ?_
        refine fg_6 ?_
        rw [show wst (drpP sort l side w k) 18 k (ib (pon sort l side w k)) 17 5 = drpP sort l side w k 17 5 from rfl, drpP_s]
        exact ih13 (k + 1) (by omega) (by omega)
  rw [drpP_0 sort l side]
  exact L_13 (4 * n * n + 1) 0 (by omega) (by omega)
