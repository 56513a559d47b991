/-! ===== what a layout's rows say of its entries ===== -/
def esp (w : wd) (a i : Nat) : Int := spot (w a i) (w (a + 1) i) (w (a + 2) i)
def est (w : wd) (a s i : Nat) : Int := strip s (w a i) (w (a + 1) i) (w (a + 2) i)
def tk (w : wd) (b sp i : Nat) : Int := if i < sp then w b 7 else 3 - w b 7
def mnE (w : wd) (b a sp c s n : Nat) : Int := match n with
  | 0 => 1000
  | i + 1 => if tk w b sp i = (c : Int) then min (mnE w b a sp c s i) (est w a s i) else mnE w b a sp c s i
def mxE (w : wd) (b a sp c s n : Nat) : Int := match n with
  | 0 => -1000
  | i + 1 => if tk w b sp i = (c : Int) then max (mxE w b a sp c s i) (est w a s i) else mxE w b a sp c s i
def LA (w : wd) (b us sp : Nat) : Prop := w b 9 = (us : Int) ∧ w b 8 = (sp : Int) ∧ sp ≤ us ∧ us ≤ 144 ∧ (w b 7 = 1 ∨ w b 7 = 2)
def LK (w : wd) (b a us sp : Nat) : Prop := (∀ s, s < 1024 → 0 ≤ w (a + 3) s ∧ w (a + 3) s ≤ 2) ∧ (∀ i, i < us → w (a + 3) (esp w a i).toNat = tk w b sp i) ∧ (∀ s, s < 1024 → w (a + 3) s ≠ 0 → ∃ i, i < us ∧ esp w a i = (s : Int)) ∧ ∀ i j, i < j → j < us → esp w a i ≠ esp w a j
def LC (w : wd) (a us : Nat) : Prop := ∀ i, i < us → (-300 ≤ w a i ∧ w a i ≤ 300) ∧ (-300 ≤ w (a + 1) i ∧ w (a + 1) i ≤ 300) ∧ (0 ≤ w (a + 2) i ∧ w (a + 2) i ≤ 3)
def LZ (w : wd) (b a us sp : Nat) : Prop := LzO w a ∧ ∀ c s, (c = 1 ∨ c = 2) → s < 4 → w (a + 4) (4 * c + s) = mnE w b a sp c s us ∧ w (a + 5) (4 * c + s) = mxE w b a sp c s us
def LR (w : wd) (b a us sp : Nat) : Prop := LA w b us sp ∧ LK w b a us sp ∧ LC w a us ∧ LZ w b a us sp
theorem esp_rg (w : wd) (a i : Nat) : 0 ≤ esp w a i ∧ esp w a i < 1024 := spot_lt _ _ _
theorem tk_rg {w : wd} {b sp i : Nat} (h : w b 7 = 1 ∨ w b 7 = 2) : tk w b sp i = 1 ∨ tk w b sp i = 2 := by
  unfold tk
  split <;> omega
theorem widP_at {w : wd} {a kd9 : Nat} {x y q : Int} : ∀ m r, widP w a kd9 x y q m (a + 4) r = (if 4 * kd9 ≤ r ∧ r < 4 * kd9 + m then min (w (a + 4) r) (strip ((r - 4 * kd9 : Nat) : Int) x y q) else w (a + 4) r) ∧ widP w a kd9 x y q m (a + 5) r = (if 4 * kd9 ≤ r ∧ r < 4 * kd9 + m then max (w (a + 5) r) (strip ((r - 4 * kd9 : Nat) : Int) x y q) else w (a + 5) r)
  | 0, r => by
    rw [if_neg (by omega), if_neg (by omega)]
    exact ⟨rfl, rfl⟩
  | m + 1, r => by
    obtain ⟨h1, h2⟩ := widP_at (w := w) (a := a) (kd9 := kd9) (x := x) (y := y) (q := q) m r
    have e4 : widP w a kd9 x y q (m + 1) (a + 4) r = if r = 4 * kd9 + m then min (widP w a kd9 x y q m (a + 4) r) (strip m x y q) else widP w a kd9 x y q m (a + 4) r := by
      by_cases z : r = 4 * kd9 + m
      · subst z; simp [widP, widW, wst, w1]
      · simp [widP, widW, wst, w1, z]
    have e5 : widP w a kd9 x y q (m + 1) (a + 5) r = if r = 4 * kd9 + m then max (widP w a kd9 x y q m (a + 5) r) (strip m x y q) else widP w a kd9 x y q m (a + 5) r := by
      by_cases z : r = 4 * kd9 + m
      · subst z; simp [widP, widW, wst, w1]
      · simp [widP, widW, wst, w1, z]
    rw [e4, e5, h1, h2]
    by_cases z : r = 4 * kd9 + m
    · subst z
      have n1 : ¬ (4 * kd9 ≤ 4 * kd9 + m ∧ 4 * kd9 + m < 4 * kd9 + m) := by omega
      have n2 : 4 * kd9 ≤ 4 * kd9 + m ∧ 4 * kd9 + m < 4 * kd9 + (m + 1) := by omega
      have n3 : 4 * kd9 + m - 4 * kd9 = m := by omega
      simp only [n2, n3, Nat.lt_irrefl, and_false, if_true, if_false, and_self]
    · rw [if_neg z, if_neg z]
      by_cases z2 : 4 * kd9 ≤ r ∧ r < 4 * kd9 + m
      · rw [if_pos z2, if_pos z2, if_pos (by omega), if_pos (by omega)]
        exact ⟨rfl, rfl⟩
      · rw [if_neg z2, if_neg z2, if_neg (by omega), if_neg (by omega)]
        exact ⟨rfl, rfl⟩
theorem putW_o {w : wd} {b a us kd9 o : Nat} {sp x y q : Int} (h : o ≠ b) (h2 : o < a ∨ a + 5 < o) : putW w b a us sp x y q kd9 o = w o := by
  unfold putW
  split
  · rw [widP_o (by omega) (by omega)]
    funext i
    have h0 : ¬ o = a := by omega
    have h1 : ¬ o = a + 1 := by omega
    have h3 : ¬ o = a + 2 := by omega
    have h4 : ¬ o = a + 3 := by omega
    simp [putB, putA, wst, h, h0, h1, h3, h4]
  · rfl
/-- the values behind a put of a place that is new -/
theorem putW_v {w : wd} {b a us kd9 : Nat} {sp x y q : Int} (hba : b < a) (h0 : w (a + 3) (spot x y q).toNat = 0) :
    putW w b a us sp x y q kd9 b 9 = (us : Int) + 1 ∧ putW w b a us sp x y q kd9 b 8 = sp + (if (kd9 : Int) = w b 7 then 1 else 0) ∧ putW w b a us sp x y q kd9 b 7 = w b 7 ∧
    (∀ i, putW w b a us sp x y q kd9 a i = if i = us then x else w a i) ∧ (∀ i, putW w b a us sp x y q kd9 (a + 1) i = if i = us then y else w (a + 1) i) ∧ (∀ i, putW w b a us sp x y q kd9 (a + 2) i = if i = us then q else w (a + 2) i) ∧
    (∀ s, putW w b a us sp x y q kd9 (a + 3) s = if s = (spot x y q).toNat then (kd9 : Int) else w (a + 3) s) ∧
    (∀ r, putW w b a us sp x y q kd9 (a + 4) r = if 4 * kd9 ≤ r ∧ r < 4 * kd9 + 4 then min (w (a + 4) r) (strip ((r - 4 * kd9 : Nat) : Int) x y q) else w (a + 4) r) ∧
    (∀ r, putW w b a us sp x y q kd9 (a + 5) r = if 4 * kd9 ≤ r ∧ r < 4 * kd9 + 4 then max (w (a + 5) r) (strip ((r - 4 * kd9 : Nat) : Int) x y q) else w (a + 5) r) := by
  have e : putW w b a us sp x y q kd9 = widP (putB w b a us sp x y q kd9) a kd9 x y q 4 := by unfold putW; rw [if_pos h0]
  rw [e]
  have c0 : ¬ b = a := by omega
  have c1 : ¬ b = a + 1 := by omega
  have c2 : ¬ b = a + 2 := by omega
  have c3 : ¬ b = a + 3 := by omega
  have d0 : ¬ a = b := by omega
  have d1 : ¬ a + 1 = b := by omega
  have d2 : ¬ a + 2 = b := by omega
  have d3 : ¬ a + 3 = b := by omega
  have d4 : ¬ a + 4 = b := by omega
  have d5 : ¬ a + 5 = b := by omega
  refine ⟨?_, ?_, ?_, fun i => ?_, fun i => ?_, fun i => ?_, fun s => ?_, fun r => ?_, fun r => ?_⟩
  · rw [widP_o (by omega) (by omega)]; simp [putB, putA, wst, w1, c0, c1, c2, c3]
  · rw [widP_o (by omega) (by omega)]; simp [putB, putA, wst, w1, c0, c1, c2, c3]
  · rw [widP_o (by omega) (by omega)]; simp [putB, putA, wst, w1, c0, c1, c2, c3]
  · rw [widP_o (by omega) (by omega)]; simp [putB, putA, wst, w1, d0]
  · rw [widP_o (by omega) (by omega)]; simp [putB, putA, wst, w1, d1]
  · rw [widP_o (by omega) (by omega)]; simp [putB, putA, wst, w1, d2]
  · rw [widP_o (by omega) (by omega)]; simp [putB, putA, wst, w1, d3]
  · rw [(widP_at 4 r).1]; simp [putB, putA, wst, d4]
  · rw [(widP_at 4 r).2]; simp [putB, putA, wst, d5]
theorem mnE_c {w w' : wd} {b a sp sp' c s : Nat} : ∀ n, (∀ i, i < n → tk w' b sp' i = tk w b sp i ∧ est w' a s i = est w a s i) → mnE w' b a sp' c s n = mnE w b a sp c s n ∧ mxE w' b a sp' c s n = mxE w b a sp c s n
  | 0, _ => ⟨rfl, rfl⟩
  | i + 1, h => by
    obtain ⟨h1, h2⟩ := mnE_c (c := c) i (fun j hj => h j (by omega))
    obtain ⟨h3, h4⟩ := h i (by omega)
    simp only [mnE, mxE, h1, h2, h3, h4]
    exact ⟨trivial, trivial⟩
/-- a put of a new place: its entry is the last one, all others stay -/
theorem put_LR {w : wd} {b a us sp kd9 : Nat} {x y q : Int} (hba : b < a) (h : LR w b a us sp) (hus : us < 144) (hkd : kd9 = 1 ∨ kd9 = 2) (hord : (kd9 : Int) = w b 7 → sp = us) (hx : -300 ≤ x ∧ x ≤ 300) (hy : -300 ≤ y ∧ y ≤ 300) (hq : 0 ≤ q ∧ q ≤ 3) (h0 : w (a + 3) (spot x y q).toNat = 0) :
    LR (putW w b a us sp x y q kd9) b a (us + 1) (if (kd9 : Int) = w b 7 then sp + 1 else sp) := by
  obtain ⟨⟨a1, a2, a3, a4, a5⟩, ⟨k1, k2, k3, k4⟩, hc, hz, hz2⟩ := h
  obtain ⟨v9, v8, v7, vx, vy, vq, vk, ve, vg⟩ := putW_v (us := us) (kd9 := kd9) (sp := sp) hba h0
  have hs := spot_lt x y q
  have hst : -900 ≤ strip 0 x y q ∧ strip 0 x y q ≤ 900 := by unfold strip; (repeat' split) <;> omega
  have ee : ∀ i, i < us → esp (putW w b a us sp x y q kd9) a i = esp w a i := fun i hi => by
    unfold esp
    rw [vx, vy, vq, if_neg (by omega), if_neg (by omega), if_neg (by omega)]
  have eu : esp (putW w b a us sp x y q kd9) a us = spot x y q := by
    unfold esp
    rw [vx, vy, vq, if_pos rfl, if_pos rfl, if_pos rfl]
  have es : ∀ s i, i < us → est (putW w b a us sp x y q kd9) a s i = est w a s i := fun s i hi => by
    unfold est
    rw [vx, vy, vq, if_neg (by omega), if_neg (by omega), if_neg (by omega)]
  have esu : ∀ s, est (putW w b a us sp x y q kd9) a s us = strip s x y q := fun s => by
    unfold est
    rw [vx, vy, vq, if_pos rfl, if_pos rfl, if_pos rfl]
  have hne : ∀ i, i < us → ¬ (esp w a i).toNat = (spot x y q).toNat := fun i hi z => by
    have e1 := k2 i hi
    rw [z, h0] at e1
    rcases tk_rg (sp := sp) (i := i) a5 with z2 | z2 <;> omega
  have et : ∀ i, i < us → tk (putW w b a us sp x y q kd9) b (if (kd9 : Int) = w b 7 then sp + 1 else sp) i = tk w b sp i := fun i hi => by
    unfold tk
    rw [v7]
    by_cases z : (kd9 : Int) = w b 7
    · have := hord z
      rw [if_pos z, if_pos (by omega), if_pos (by omega)]
    · rw [if_neg z]
  have etu : tk (putW w b a us sp x y q kd9) b (if (kd9 : Int) = w b 7 then sp + 1 else sp) us = (kd9 : Int) := by
    unfold tk
    rw [v7]
    by_cases z : (kd9 : Int) = w b 7
    · have := hord z
      rw [if_pos z, if_pos (by omega)]; exact z.symm
    · rw [if_neg z, if_neg (by omega)]; omega
  refine ⟨⟨by rw [v9]; rfl, ?_, ?_, by omega, by rw [v7]; exact a5⟩, ⟨fun s hs9 => ?_, fun i hi => ?_, fun s hs9 hk => ?_, fun i j hij hj => ?_⟩, fun i hi => ?_, fun r hr => ?_, fun c s hc9 hs9 => ?_⟩
  · rw [v8]
    by_cases z : (kd9 : Int) = w b 7
    · rw [if_pos z, if_pos z]; rfl
    · rw [if_neg z, if_neg z]; omega
  · by_cases z : (kd9 : Int) = w b 7
    · have := hord z
      rw [if_pos z]; omega
    · rw [if_neg z]; omega
  · rw [vk]
    split
    · omega
    · exact k1 s hs9
  · by_cases z : i = us
    · subst z
      rw [eu, vk, if_pos rfl, etu]
    · rw [ee i (by omega), vk, if_neg (hne i (by omega)), et i (by omega)]
      exact k2 i (by omega)
  · by_cases z : s = (spot x y q).toNat
    · exact ⟨us, by omega, by rw [eu]; omega⟩
    · rw [vk, if_neg z] at hk
      obtain ⟨i, hi, hi2⟩ := k3 s hs9 hk
      exact ⟨i, by omega, by rw [ee i hi]; exact hi2⟩
  · rw [ee i (by omega)]
    by_cases z : j = us
    · subst z
      rw [eu]
      intro z2
      exact hne i (by omega) (by rw [z2])
    · rw [ee j (by omega)]
      exact k4 i j hij (by omega)
  · rw [vx, vy, vq]
    by_cases z : i = us
    · rw [if_pos z, if_pos z, if_pos z]; exact ⟨hx, hy, hq⟩
    · rw [if_neg z, if_neg z, if_neg z]; exact hc i (by omega)
  · have h1 := hz r hr
    rw [ve, vg]
    have hst2 : -900 ≤ strip ((r - 4 * kd9 : Nat) : Int) x y q ∧ strip ((r - 4 * kd9 : Nat) : Int) x y q ≤ 900 := by unfold strip; (repeat' split) <;> omega
    split <;> omega
  · obtain ⟨e1, e2⟩ := hz2 c s hc9 hs9
    obtain ⟨m1, m2⟩ := mnE_c (w := w) (w' := putW w b a us sp x y q kd9) (b := b) (a := a) (sp := sp) (sp' := if (kd9 : Int) = w b 7 then sp + 1 else sp) (c := c) (s := s) us (fun i hi => ⟨et i hi, es s i hi⟩)
    rw [ve, vg]
    simp only [mnE, mxE, m1, m2, etu, esu, ← e1, ← e2]
    by_cases z : (kd9 : Int) = (c : Int)
    · have z2 : kd9 = c := by omega
      subst z2
      have n2 : 4 * kd9 ≤ 4 * kd9 + s ∧ 4 * kd9 + s < 4 * kd9 + 4 := by omega
      have n3 : 4 * kd9 + s - 4 * kd9 = s := by omega
      simp only [n2, n3, if_true, and_self]
    · rw [if_neg z, if_neg z, if_neg (by omega), if_neg (by omega)]
      exact ⟨rfl, rfl⟩
/-- a put of a place that is there already changes nothing -/
theorem put_old {w : wd} {b a us sp kd9 : Nat} {x y q : Int} {sp9 : Int} (h : LR w b a us sp) (h0 : w (a + 3) (spot x y q).toNat ≠ 0) : putW w b a us sp9 x y q kd9 = w ∧ ∃ i, i < us ∧ esp w a i = spot x y q ∧ w (a + 3) (spot x y q).toNat = tk w b sp i := by
  have hs := spot_lt x y q
  refine ⟨by unfold putW; rw [if_neg h0], ?_⟩
  obtain ⟨i, hi, e⟩ := h.2.1.2.2.1 _ (by omega) h0
  have e2 : esp w a i = spot x y q := by omega
  exact ⟨i, hi, e2, by rw [← e2]; exact h.2.1.2.1 i hi⟩
theorem clr_LR {w : wd} {b a us sp : Nat} {kd9 : Int} (hba : b < a) (h : LK w b a us sp) (hkd : kd9 = 1 ∨ kd9 = 2) : LR (clrW w b a us kd9) b a 0 0 := by
  obtain ⟨k1, k2, k3, k4⟩ := h
  have c4 : ¬ b = a + 4 := by omega
  have c5 : ¬ b = a + 5 := by omega
  have d0 : ¬ a = b := by omega
  have d1 : ¬ a + 1 = b := by omega
  have d2 : ¬ a + 2 = b := by omega
  have d3 : ¬ a + 3 = b := by omega
  have d4 : ¬ a + 4 = b := by omega
  have d5 : ¬ a + 5 = b := by omega
  have v3 : ∀ s, s < 1024 → clrW w b a us kd9 (a + 3) s = 0 := fun s hs => by
    have e : clrW w b a us kd9 (a + 3) s = clrP w a us (a + 3) s := by simp [clrW, wst, wfl, d3]
    rw [e]
    unfold clrP
    by_cases z : w (a + 3) s = 0
    · split
      · rfl
      · exact z
    · obtain ⟨i, hi, hi2⟩ := k3 s hs z
      rw [if_pos ⟨rfl, hs, i, hi, hi2⟩]
  have v4 : ∀ r, r < 12 → clrW w b a us kd9 (a + 4) r = 1000 := fun r hr => by simp [clrW, wst, wfl, d4, hr]
  have v5 : ∀ r, r < 12 → clrW w b a us kd9 (a + 5) r = -1000 := fun r hr => by simp [clrW, wst, wfl, d5, hr]
  refine ⟨⟨by simp [clrW, wst, w1], by simp [clrW, wst, w1], Nat.le_refl _, by omega, by simp [clrW, wst, w1]; exact hkd⟩, ⟨fun s hs => by rw [v3 s hs]; omega, fun i hi => absurd hi (Nat.not_lt_zero _), fun s hs hk => absurd (v3 s hs) hk, fun i j _ hj => absurd hj (Nat.not_lt_zero _)⟩, fun i hi => absurd hi (Nat.not_lt_zero _), fun r hr => ?_, fun c s hc hs => ?_⟩
  · rw [v4 r hr, v5 r hr]; omega
  · rw [v4 _ (by omega), v5 _ (by omega)]
    exact ⟨rfl, rfl⟩
theorem clrW_o {w : wd} {b a us o : Nat} {kd9 : Int} (h : o ≠ b) (h2 : o < a ∨ a + 5 < o) : clrW w b a us kd9 o = w o := by
  funext i
  have h3 : ¬ o = a + 3 := by omega
  have h4 : ¬ o = a + 4 := by omega
  have h5 : ¬ o = a + 5 := by omega
  simp [clrW, wst, wfl, clrP, h, h3, h4, h5]
/-- only the layout's own objects matter -/
theorem LR.cong {w w' : wd} {b a us sp : Nat} (hb : w' b = w b) (he : ∀ j, j < 6 → w' (a + j) = w (a + j)) (h : LR w b a us sp) : LR w' b a us sp := by
  have e0 : w' a = w a := he 0 (by decide)
  have e1 := he 1 (by decide)
  have e2 := he 2 (by decide)
  have e3 := he 3 (by decide)
  have e4 := he 4 (by decide)
  have e5 := he 5 (by decide)
  have ee : ∀ i, esp w' a i = esp w a i := fun i => by unfold esp; rw [e0, e1, e2]
  have es : ∀ s i, est w' a s i = est w a s i := fun s i => by unfold est; rw [e0, e1, e2]
  have et : ∀ i, tk w' b sp i = tk w b sp i := fun i => by unfold tk; rw [hb]
  obtain ⟨hA, ⟨k1, k2, k3, k4⟩, hc, hz, hz2⟩ := h
  refine ⟨by unfold LA; rw [hb]; exact hA, ⟨?_, ?_, ?_, ?_⟩, ?_, ?_, ?_⟩
  · rw [e3]; exact k1
  · intro i hi; rw [e3, ee, et]; exact k2 i hi
  · intro s hs hk
    rw [e3] at hk
    obtain ⟨i, hi, h1⟩ := k3 s hs hk
    exact ⟨i, hi, by rw [ee]; exact h1⟩
  · intro i j hij hj; rw [ee, ee]; exact k4 i j hij hj
  · intro i hi; rw [e0, e1, e2]; exact hc i hi
  · intro r hr; rw [e4, e5]; exact hz r hr
  · intro c s hc9 hs9
    obtain ⟨m1, m2⟩ := mnE_c (w := w) (w' := w') (b := b) (a := a) (sp := sp) (sp' := sp) (c := c) (s := s) us (fun i _ => ⟨et i, es s i⟩)
    rw [e4, e5, m1, m2]
    exact hz2 c s hc9 hs9
