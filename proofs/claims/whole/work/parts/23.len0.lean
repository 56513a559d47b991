/-! ===== search: all rows of folds ===== -/
abbrev ownC (dep o : Nat) : Prop := (24 + dep < o ∧ o ≤ 27) ∨ (28 ≤ o ∧ o < 46 - 6 * dep)
def FRM (dep : Nat) (w u : wd) : Prop := (∀ o, ¬ ownC dep o → o ≠ 52 → o ≠ 53 → o ≠ 23 → u o = w o) ∧ (∀ i, i ≠ 7 → i ≠ 8 → u 23 i = w 23 i) ∧ ∀ i, i < dep → u 52 i = w 52 i
def LQS (dep : Nat) (w : wd) : Prop := ∀ j, dep < j → j ≤ 3 → LQ w (24 + j) (46 - 6 * j)
def RpD (dep : Nat) (w : wd) (N : Nat) (F : Nat → Int) (S : lys) : Prop := ∃ us sp, LR w (24 + dep) (46 - 6 * dep) us sp ∧ EA w (24 + dep) (46 - 6 * dep) us sp N F S ∧ EB w (24 + dep) (46 - 6 * dep) us sp N F S
def RpP (dep : Nat) (w : wd) (N : Nat) (F : Nat → Int) (S : lys) : Prop := ∃ us sp, LR w (24 + dep) (46 - 6 * dep) us sp ∧ EA w (24 + dep) (46 - 6 * dep) us sp N F S ∧ (EB w (24 + dep) (46 - 6 * dep) us sp N F S ∨ enA w (46 - 6 * dep))
def RcA (g : Nat) (w : wd) (a : acT) : Prop := w 23 8 = a.1 ∧ 0 ≤ a.1 ∧ (0 < a.1 → ∀ i, i ≤ g → w 53 i = tl (a.2 i))
theorem FRM.refl (dep : Nat) (w : wd) : FRM dep w w := ⟨fun _ _ _ _ _ => rfl, fun _ _ _ => rfl, fun _ _ => rfl⟩
theorem LQS.cong {dep : Nat} {w u : wd} (h : LQS dep w) (e : ∀ o, ownC dep o → u o = w o) : LQS dep u := fun j h1 h2 => (h j h1 h2).cong (e _ (Or.inl (by omega))) (fun i hi => e _ (Or.inr (by omega)))
theorem LQS.up {dep : Nat} {w : wd} (h : LQS dep w) : LQS (dep + 1) w := fun j h1 h2 => h j (by omega) h2
theorem EAB.cong {w w' : wd} {b a us sp N : Nat} {F : Nat → Int} {S : lys} (hb : w' b = w b) (he : ∀ j, j < 6 → w' (a + j) = w (a + j)) : (EA w b a us sp N F S → EA w' b a us sp N F S) ∧ (EB w b a us sp N F S → EB w' b a us sp N F S) ∧ (enA w a → enA w' a) := by
  have e0 : w' a = w a := he 0 (by decide)
  have e1 := he 1 (by decide)
  have e2 := he 2 (by decide)
  have e4 := he 4 (by decide)
  have e5 := he 5 (by decide)
  have ee : ∀ i, enw w' a i = enw w a i := fun i => by unfold enw; rw [e0, e1, e2]
  have et : ∀ i, tk w' b sp i = tk w b sp i := fun i => by unfold tk; rw [hb]
  refine ⟨fun h i hi => ?_, fun h f hf => ?_, fun h => ?_⟩
  · rw [ee, et]; exact h i hi
  · obtain ⟨i, hi, h1⟩ := h f hf
    exact ⟨i, hi, by rw [ee, et]; exact h1⟩
  · have hf : ∀ s d, fcF w' a s d = fcF w a s d := fun s d => by unfold fcF; rw [e5]
    have hl : ∀ s d, lcF w' a s d = lcF w a s d := fun s d => by unfold lcF; rw [e4]
    simp only [enA, enS, hf, hl]
    exact h
theorem FRM.rep {dep us sp N : Nat} {F : Nat → Int} {S : lys} {w u : wd} (hd : dep ≤ 3) (h : FRM dep w u) (hL : LR w (24 + dep) (46 - 6 * dep) us sp) (hA : EA w (24 + dep) (46 - 6 * dep) us sp N F S) (hB : EB w (24 + dep) (46 - 6 * dep) us sp N F S) : LR u (24 + dep) (46 - 6 * dep) us sp ∧ EA u (24 + dep) (46 - 6 * dep) us sp N F S ∧ EB u (24 + dep) (46 - 6 * dep) us sp N F S := by
  have hb : u (24 + dep) = w (24 + dep) := h.1 _ (by omega) (by omega) (by omega) (by omega)
  have he : ∀ j, j < 6 → u (46 - 6 * dep + j) = w (46 - 6 * dep + j) := fun j hj => h.1 _ (by omega) (by omega) (by omega) (by omega)
  exact ⟨hL.cong hb he, (EAB.cong hb he).1 hA, (EAB.cong hb he).2.1 hB⟩
theorem weiW_o {w : wd} {a g o : Nat} {c : Int} (h : o ≠ 53) (h2 : o ≠ 23) : weiW w a g c o = w o := by
  unfold weiW
  funext i
  have h3 : ¬ o = 53 := h
  have h4 : ¬ o = 23 := h2
  split <;> simp [wst, cpy, h3, h4]
theorem weiW_i {w : wd} {a g i : Nat} {c : Int} : weiW w a g c 23 i = if i = 8 then w 23 8 + c else w 23 i := by
  unfold weiW
  by_cases z : i = 8
  · subst z; simp [wst, w1]
  · split <;> simp [wst, w1, cpy, z]
theorem wei_ok {dep g N : Nat} {F : Nat → Int} {S : lys} {r : Nat → Int} {a : acT} {w : wd} (hd : dep ≤ 3) (hdg : dep = g) (hrp : RpP dep w N F S) (hrc : RcA g w a) (hrow : ∀ i, i < dep → w 52 i = tl (r i)) (hq : LQS dep w) : FRM dep w (weiW w (46 - 6 * dep) g (cutL w (46 - 6 * dep))) ∧ LQS dep (weiW w (46 - 6 * dep) g (cutL w (46 - 6 * dep))) ∧ weiW w (46 - 6 * dep) g (cutL w (46 - 6 * dep)) 23 7 = w 23 7 ∧ RcA g (weiW w (46 - 6 * dep) g (cutL w (46 - 6 * dep))) (weiS N F g S r a) := by
  obtain ⟨us, sp, hL, hA, hB⟩ := hrp
  have hc : cutL w (46 - 6 * dep) = cutN N F S := by
    rcases hB with hB | hB
    · exact cut_eq hL hA hB
    · obtain ⟨e1, e2⟩ := cut_en hL hA hB
      rw [e1, e2]
  have hcr := cutN_rg N F S
  refine ⟨⟨fun o _ _ h2 h3 => weiW_o h2 h3, fun i _ h2 => by rw [weiW_i, if_neg h2], fun i _ => by rw [weiW_o (by decide) (by decide)]⟩, hq.cong (fun o ho => weiW_o (by omega) (by omega)), by rw [weiW_i, if_neg (by decide)], ?_, ?_, ?_⟩
  · rw [weiW_i, if_pos rfl, hc, hrc.1]
    rfl
  · have := hrc.2.1
    simp only [weiS]
    omega
  · intro hp i hi
    simp only [weiS] at hp ⊢
    have h0 := hrc.2.1
    have h8 := hrc.1
    unfold weiW
    by_cases z : 0 < cutN N F S ∧ a.1 = 0
    · rw [if_pos z, hc, if_pos ⟨z.1, by omega⟩]
      by_cases z2 : i < g
      · have hng : ¬ i = g := by omega
        simp [wst, w1, cpy, z2, hng]
        exact hrow i (by omega)
      · have hng : i = g := by omega
        subst hng
        rcases hB with hB | hB
        · have := fct_is hL hA hB z.1
          simp [wst, w1, this]
        · have := (cut_en hL hA hB).2
          omega
    · rw [if_neg z, hc, if_neg (by omega)]
      by_cases z2 : 0 < a.1
      · simp [wst]
        exact hrc.2.2 z2 i hi
      · exfalso
        omega
def stepW (N : Nat) (F : Nat → Int) (g rem dep : Nat) (S : lys) (r : Nat → Int) (t : Nat) (a : acT) : acT := if goS N F S t then accD N F g rem (nxS S t) (w1 r dep t) a else a
theorem accD_s {N g rem dep : Nat} {F : Nat → Int} {S : lys} {r : Nat → Int} {a : acT} (h : g - (rem + 1) = dep) : accD N F g (rem + 1) S r a = loopT (stepW N F g rem dep S r) 584 a := by
  subst h
  rfl
def cfn (N : Nat) (F : Nat → Int) (rem : Nat) (S : lys) (t : Nat) : Int := if goS N F S t then cnt N F rem (nxS S t) else 0
theorem cnt_s (N : Nat) (F : Nat → Int) (rem : Nat) (S : lys) : cnt N F (rem + 1) S = sm (cfn N F rem S) 584 := rfl
theorem cfn_nn (N : Nat) (F : Nat → Int) (rem : Nat) (S : lys) (t : Nat) : 0 ≤ cfn N F rem S t := by
  unfold cfn
  split
  · exact cnt_nn N F rem _
  · exact Int.le_refl _
theorem sm_mono {f : Nat → Int} (h : ∀ k, 0 ≤ f k) {n m : Nat} (hnm : n ≤ m) : sm f n ≤ sm f m := by
  induction m with
  | zero => rw [show n = 0 by omega]; omega
  | succ m ih =>
    by_cases z : n = m + 1
    · subst z; omega
    · have h1 := ih (by omega)
      have h2 := h m
      rw [sm_s]
      omega
theorem stepW_rg (N : Nat) (F : Nat → Int) (g rem dep : Nat) (S : lys) (r : Nat → Int) (a : acT) : ∀ n, a.1 ≤ (loopT (stepW N F g rem dep S r) n a).1 ∧ (loopT (stepW N F g rem dep S r) n a).1 ≤ a.1 + 584 * sm (cfn N F rem S) n
  | 0 => by simp only [loopT, sm_0]; omega
  | n + 1 => by
    have ih := stepW_rg N F g rem dep S r a n
    simp only [loopT, sm_s]
    generalize loopT (stepW N F g rem dep S r) n a = b at ih ⊢
    by_cases z : goS N F S n
    · have e1 : stepW N F g rem dep S r n b = accD N F g rem (nxS S n) (w1 r dep n) b := if_pos z
      have e2 : cfn N F rem S n = cnt N F rem (nxS S n) := if_pos z
      rw [e1, e2]
      have h1 := accD_rg N F g rem (nxS S n) (w1 r dep n) b
      omega
    · have e1 : stepW N F g rem dep S r n b = b := if_neg z
      have e2 : cfn N F rem S n = 0 := if_neg z
      rw [e1, e2]
      omega
theorem T_dec {kk s d : Nat} (hs : s < 4) (hd : d < 2) : tK (8 * kk + 2 * s + d) = (kk : Int) - 24 ∧ tS (8 * kk + 2 * s + d) = s ∧ tD (8 * kk + 2 * s + d) = d := by
  simp only [tK, tS, tD]
  omega
def goK (N : Nat) (F : Nat → Int) (S : lys) (s : Nat) (k : Int) : Prop := crS N S (s : Int) k ∧ fitS N F S (s : Int) k
theorem goS_K {N : Nat} {F : Nat → Int} {S : lys} {kk s d : Nat} (hs : s < 4) (hd : d < 2) : goS N F S (8 * kk + 2 * s + d) ↔ goK N F S s ((kk : Int) - 24) := by
  obtain ⟨h1, h2, h3⟩ := T_dec (kk := kk) hs hd
  simp only [goS, goK, h1, h2]
theorem fst_le {N us sp b a : Nat} {F : Nat → Int} {S : lys} {w : wd} {R : Int} (hF : ∀ f, f < N → F f = 0 ∨ F f = 1) (hN : 1 ≤ N) (hbx : BOX R N S) (hL : LR w b a us sp) (hB : EB w b a us sp N F S) : fstP w a 4 ≤ 2 * R + 1 := by
  have h1 := (fl_all (w := w) (a := a) (s := 0) (by decide)).1
  have h2 := stp_rg (s := 0) (hbx.1 0 (by omega))
  rcases hF 0 (by omega) with z | z
  · have h3 := (hB.le hL (c := 2) (K := 0) (Or.inr rfl) (by omega) (s := 0) (by decide)).1
    have h4 := (mnS_le (F := F) (S := S) (K := 0) (s := 0) N).2.1 0 (by omega) z
    simp only [lsF] at h1
    simp only [show 4 * 2 + 0 = 8 from rfl, show ((0 : Nat) : Int) = 0 from rfl] at h3
    simp only [show 4 + 0 = 4 from rfl, show 8 + 0 = 8 from rfl] at h1
    omega
  · have h3 := (hB.le hL (c := 1) (K := 1) (Or.inl rfl) (by omega) (s := 0) (by decide)).1
    have h4 := (mnS_le (F := F) (S := S) (K := 1) (s := 0) N).2.1 0 (by omega) z
    simp only [lsF] at h1
    simp only [show 4 * 1 + 0 = 4 from rfl, show ((0 : Nat) : Int) = 0 from rfl] at h3
    simp only [show 4 + 0 = 4 from rfl, show 8 + 0 = 8 from rfl] at h1
    omega
theorem no_lo {N us sp b a : Nat} {F : Nat → Int} {S : lys} {w : wd} (hF : ∀ f, f < N → F f = 0 ∨ F f = 1) (hL : LR w b a us sp) (hA : EA w b a us sp N F S) (hB : EB w b a us sp N F S) {t : Nat} (ht : t < 584) (h : tK t ≤ fstP w a 4 ∨ lstP w a 4 < tK t) : ¬ goS N F S t := by
  intro z
  have hs := tS_rg t
  have hk : -24 ≤ tK t ∧ tK t ≤ 48 := by unfold tK; omega
  have h1 := (crs_is hF hL hA hB hs (k := tK t) (by omega)).mpr z.1
  have h2 := fl_all (w := w) (a := a) hs
  omega
/-- what holds before telling T, where ways are weighed -/
def WS (dep g rem N : Nat) (F : Nat → Int) (S : lys) (r : Nat → Int) (a : acT) (w : wd) (T : Nat) (u : wd) : Prop := FRM dep w u ∧ LQS dep u ∧ u 23 7 = w 23 7 ∧ RcA g u (loopT (stepW N F g rem dep S r) T a)
theorem WS.skip {dep g rem N : Nat} {F : Nat → Int} {S : lys} {r : Nat → Int} {a : acT} {w : wd} {T : Nat} {u : wd} (h : WS dep g rem N F S r a w T u) (n : Nat) (hn : ∀ t, T ≤ t → t < T + n → ¬ goS N F S t) : WS dep g rem N F S r a w (T + n) u := by
  obtain ⟨h1, h2, h3, h4⟩ := h
  refine ⟨h1, h2, h3, ?_⟩
  rw [loopT_skip (f := stepW N F g rem dep S r) n (fun t q1 q2 b => if_neg (hn t q1 q2))]
  exact h4
theorem WS_0 {dep g rem N : Nat} {F : Nat → Int} {S : lys} {r : Nat → Int} {a : acT} {w : wd} (hq : LQS dep w) (hr : RcA g w a) : WS dep g rem N F S r a w 0 w := ⟨FRM.refl _ _, hq, rfl, hr⟩
theorem WS_go {dep g rem N : Nat} {F : Nat → Int} {S : lys} {r : Nat → Int} {a : acT} {w : wd} {T : Nat} {u u2 u3 : wd} {x : Int} (hd : dep ≤ 2) (h : WS dep g rem N F S r a w T u) (hgo : goS N F S T) (h2 : ∀ o, o ≠ 25 + dep → (o < 40 - 6 * dep ∨ 40 - 6 * dep + 5 < o) → u2 o = wst u 52 dep x o) (h3 : FRM (dep + 1) u2 u3) (hq3 : LQS (dep + 1) u3) (hlr : LQ u2 (25 + dep) (40 - 6 * dep)) (h7 : u3 23 7 = u2 23 7) (hr : RcA g u3 (accD N F g rem (nxS S T) (w1 r dep T) (loopT (stepW N F g rem dep S r) T a))) : WS dep g rem N F S r a w (T + 1) u3 := by
  obtain ⟨⟨f1, f2, f3⟩, q, e7, hrc⟩ := h
  have e23 : u2 23 = u 23 := by rw [h2 23 (by omega) (by omega)]; rfl
  refine ⟨⟨fun o ho h52 h53 h23 => ?_, fun i h1 h2 => ?_, fun i hi => ?_⟩, fun j h1 h2 => ?_, ?_, ?_⟩
  · rw [h3.1 o (by omega) h52 h53 h23, h2 o (by omega) (by omega), ← f1 o ho h52 h53 h23]
    funext i
    simp [wst, h52]
  · rw [h3.2.1 i h1 h2, e23]
    exact f2 i h1 h2
  · rw [h3.2.2 i (by omega), h2 52 (by omega) (by omega), ← f3 i hi]
    have : ¬ i = dep := by omega
    simp [wst, w1, this]
  · by_cases z : j = dep + 1
    · subst z
      rw [show 24 + (dep + 1) = 25 + dep by omega, show 46 - 6 * (dep + 1) = 40 - 6 * dep by omega]
      exact hlr.cong (h3.1 _ (by omega) (by omega) (by omega) (by omega)) (fun i hi => h3.1 _ (by omega) (by omega) (by omega) (by omega))
    · exact hq3 j (by omega) h2
  · rw [h7, e23, e7]
  · have : loopT (stepW N F g rem dep S r) (T + 1) a = accD N F g rem (nxS S T) (w1 r dep T) (loopT (stepW N F g rem dep S r) T a) := if_pos hgo
    rw [this]
    exact hr
theorem RcA.cong {g : Nat} {w u : wd} {a : acT} (h : RcA g w a) (e : u 23 8 = w 23 8) (e2 : u 53 = w 53) : RcA g u a := ⟨by rw [e]; exact h.1, h.2.1, by rw [e2]; exact h.2.2⟩
/-- what the recursion wants of the world that turnInto left -/
theorem WS_pre {dep us2 sp2 : Nat} {r : Nat → Int} {w : wd} {T : Nat} {u u2 : wd} (hd : dep ≤ 2) (hf : FRM dep w u) (hq : LQS dep u) (hrow : ∀ i, i < dep → w 52 i = tl (r i)) (h2 : ∀ o, o ≠ 25 + dep → (o < 40 - 6 * dep ∨ 40 - 6 * dep + 5 < o) → u2 o = wst u 52 dep (tl T) o) (hL : LR u2 (25 + dep) (40 - 6 * dep) us2 sp2) : LQS (dep + 1) u2 ∧ (∀ i, i < dep + 1 → u2 52 i = tl (w1 r dep T i)) ∧ u2 23 = u 23 ∧ u2 53 = u 53 ∧ LQ u2 (25 + dep) (40 - 6 * dep) := by
  refine ⟨hq.up.cong (fun o ho => ?_), fun i hi => ?_, by rw [h2 23 (by omega) (by omega)]; rfl, by rw [h2 53 (by omega) (by omega)]; rfl, hL.lq⟩
  · rw [h2 o (by omega) (by omega)]
    have : ¬ o = 52 := by omega
    funext i
    simp [wst, this]
  · rw [h2 52 (by omega) (by omega)]
    by_cases z : i = dep
    · subst z; simp [wst, w1]
    · have := hf.2.2 i (by omega)
      have h3 := hrow i (by omega)
      simp [wst, w1, z]
      rw [this, h3]
/-- .. and where rows are counted -/
def CSt (dep rem N : Nat) (F : Nat → Int) (S : lys) (w : wd) (T : Nat) (u : wd) : Prop := FRM dep w u ∧ LQS dep u ∧ u 53 = w 53 ∧ u 23 8 = w 23 8 ∧ w 23 7 ≤ u 23 7 ∧ u 23 7 ≤ w 23 7 + sm (cfn N F rem S) T ∧ (u 23 7 ≤ 3000 → u 23 7 = w 23 7 + sm (cfn N F rem S) T) ∧ u 23 7 ≤ 3002
theorem CSt.skip {dep rem N : Nat} {F : Nat → Int} {S : lys} {w : wd} {T : Nat} {u : wd} (h : CSt dep rem N F S w T u) (n : Nat) (hn : 3000 < u 23 7 ∨ ∀ t, T ≤ t → t < T + n → ¬ goS N F S t) : CSt dep rem N F S w (T + n) u := by
  obtain ⟨h1, h2, h3, h4, h5, h6, h7, h8⟩ := h
  have hm := sm_mono (f := cfn N F rem S) (cfn_nn N F rem S) (Nat.le_add_right T n)
  refine ⟨h1, h2, h3, h4, h5, by omega, fun z => ?_, h8⟩
  rcases hn with hn | hn
  · omega
  · have : ∀ m, m ≤ n → sm (cfn N F rem S) (T + m) = sm (cfn N F rem S) T := fun m hm => by
      induction m with
      | zero => rfl
      | succ m ih =>
        rw [← Nat.add_assoc, sm_s, ih (by omega)]
        have : cfn N F rem S (T + m) = 0 := if_neg (hn _ (by omega) (by omega))
        omega
    rw [this n (Nat.le_refl _)]
    exact h7 z
theorem CSt_0 {dep rem N : Nat} {F : Nat → Int} {S : lys} {w : wd} (hq : LQS dep w) (h : w 23 7 ≤ 3002) : CSt dep rem N F S w 0 w := ⟨FRM.refl _ _, hq, rfl, rfl, Int.le_refl _, by rw [sm_0]; omega, fun _ => by rw [sm_0]; omega, h⟩
/-- two rows more, both sides of a last fold -/
theorem CSt.two {dep N : Nat} {F : Nat → Int} {S : lys} {w : wd} {kk s : Nat} {u : wd} (hs : s < 4) (h : CSt dep 0 N F S w (8 * kk + 2 * s) u) (hg : goK N F S s ((kk : Int) - 24)) (h7 : u 23 7 ≤ 3000) : CSt dep 0 N F S w (8 * kk + 2 * s + 2) (wst u 23 7 (u 23 7 + 2)) := by
  obtain ⟨⟨f1, f2, f3⟩, h2, h3, h4, h5, h6, h7b, h8⟩ := h
  have e0 : cfn N F 0 S (8 * kk + 2 * s) = 1 := if_pos ((goS_K (d := 0) hs (by decide)).mpr hg)
  have e1 : cfn N F 0 S (8 * kk + 2 * s + 1) = 1 := if_pos ((goS_K (d := 1) hs (by decide)).mpr hg)
  have e2 : sm (cfn N F 0 S) (8 * kk + 2 * s + 2) = sm (cfn N F 0 S) (8 * kk + 2 * s) + 2 := by
    rw [sm_s, sm_s, e0, e1]
    omega
  have e7 : wst u 23 7 (u 23 7 + 2) 23 7 = u 23 7 + 2 := by simp [wst, w1]
  have := h7b h7
  refine ⟨⟨fun o ho h52 h53 h23 => ?_, fun i q1 q2 => ?_, fun i hi => ?_⟩, h2.cong (fun o ho => ?_), ?_, ?_, ?_, ?_, ?_, ?_⟩
  · rw [← f1 o ho h52 h53 h23]; funext i; simp [wst, h23]
  · rw [← f2 i q1 q2]; simp [wst, w1, q1]
  · rw [← f3 i hi]; simp [wst]
  · have : ¬ o = 23 := by omega
    funext i; simp [wst, this]
  · rw [← h3]; funext i; simp [wst]
  · rw [← h4]; simp [wst, w1]
  · rw [e7]; omega
  · rw [e7, e2]; omega
  · rw [e7, e2]; omega
  · rw [e7]; omega
theorem CSt_go {dep rem N : Nat} {F : Nat → Int} {S : lys} {w : wd} {T : Nat} {u u2 u3 : wd} {x : Int} (hd : dep ≤ 2) (h : CSt dep rem N F S w T u) (hgo : goS N F S T) (h2 : ∀ o, o ≠ 25 + dep → (o < 40 - 6 * dep ∨ 40 - 6 * dep + 5 < o) → u2 o = wst u 52 dep x o) (h3 : FRM (dep + 1) u2 u3) (hq3 : LQS (dep + 1) u3) (hlr : LQ u2 (25 + dep) (40 - 6 * dep)) (h53 : u3 53 = u2 53) (h8 : u3 23 8 = u2 23 8) (h7a : u2 23 7 ≤ u3 23 7) (h7b : u3 23 7 ≤ u2 23 7 + cnt N F rem (nxS S T)) (h7c : u3 23 7 ≤ 3000 → u3 23 7 = u2 23 7 + cnt N F rem (nxS S T)) (h7d : u3 23 7 ≤ 3002) : CSt dep rem N F S w (T + 1) u3 := by
  obtain ⟨⟨f1, f2, f3⟩, q, e53, e8, c1, c2, c3, c4⟩ := h
  have e23 : u2 23 = u 23 := by rw [h2 23 (by omega) (by omega)]; rfl
  have ecf : cfn N F rem S T = cnt N F rem (nxS S T) := if_pos hgo
  rw [e23] at h8 h7a h7b h7c
  refine ⟨⟨fun o ho h52 h53 h23 => ?_, fun i h1 h2 => ?_, fun i hi => ?_⟩, fun j h1 h2 => ?_, ?_, ?_, ?_, ?_, ?_, h7d⟩
  · rw [h3.1 o (by omega) h52 h53 h23, h2 o (by omega) (by omega), ← f1 o ho h52 h53 h23]
    funext i
    simp [wst, h52]
  · rw [h3.2.1 i h1 h2, e23]
    exact f2 i h1 h2
  · rw [h3.2.2 i (by omega), h2 52 (by omega) (by omega), ← f3 i hi]
    have : ¬ i = dep := by omega
    simp [wst, w1, this]
  · by_cases z : j = dep + 1
    · subst z
      rw [show 24 + (dep + 1) = 25 + dep by omega, show 46 - 6 * (dep + 1) = 40 - 6 * dep by omega]
      exact hlr.cong (h3.1 _ (by omega) (by omega) (by omega) (by omega)) (fun i hi => h3.1 _ (by omega) (by omega) (by omega) (by omega))
    · exact hq3 j (by omega) h2
  · rw [h53, h2 53 (by omega) (by omega), ← e53]
    rfl
  · rw [h8, e8]
  · omega
  · rw [sm_s, ecf]; omega
  · intro z
    have := h7c z
    have := c3 (by omega)
    rw [sm_s, ecf]; omega
