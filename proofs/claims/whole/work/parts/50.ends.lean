/-! ===== what ends at a point: the reference's eight places, and all edges ===== -/
def smL (g : Nat → Int) (l : List Nat) : Int := match l with
  | [] => 0
  | a :: r => g a + smL g r
theorem smL_app (g : Nat → Int) : ∀ l m, smL g (l ++ m) = smL g l + smL g m
  | [], m => by simp [smL]
  | a :: r, m => by
    have := smL_app g r m
    simp only [List.cons_append, smL]
    omega
theorem smL_range (g : Nat → Int) : ∀ n, sm g n = smL g (List.range n)
  | 0 => rfl
  | n + 1 => by
    rw [sm_s, smL_range g n, List.range_succ, smL_app]
    simp [smL]
theorem smL_perm {g : Nat → Int} {l m : List Nat} (h : l.Perm m) : smL g l = smL g m := by
  induction h with
  | nil => rfl
  | cons a _ ih => simp only [smL]; omega
  | swap a b l => simp only [smL]; omega
  | trans _ _ h1 h2 => omega
theorem smL_map (g : Nat → Int) (c : Nat → Nat) : ∀ l, smL g (l.map c) = smL (fun i => g (c i)) l
  | [] => rfl
  | a :: r => by simp only [List.map_cons, smL]; rw [smL_map g c r]
theorem smL_c {g h : Nat → Int} : ∀ l : List Nat, (∀ i, i ∈ l → g i = h i) → smL g l = smL h l
  | [], _ => rfl
  | a :: r, e => by
    simp only [smL]
    rw [e a List.mem_cons_self, smL_c r (fun i hi => e i (List.mem_cons_of_mem _ hi))]
theorem smL_filter {P : Nat → Prop} [DecidablePred P] {C : Nat → Bool} : ∀ l : List Nat, smL (fun i => ib (C i = true ∧ P i)) l = smL (fun i => ib (P i)) (l.filter C)
  | [] => rfl
  | a :: r => by
    have ih := smL_filter (P := P) (C := C) r
    rw [List.filter_cons]
    show ib (C a = true ∧ P a) + smL (fun i => ib (C i = true ∧ P i)) r = _
    rw [ih]
    by_cases hC : C a = true
    · rw [if_pos hC]
      show _ = ib (P a) + _
      rw [ib_c (show (C a = true ∧ P a) ↔ P a from ⟨fun h => h.2, fun h => ⟨hC, h⟩⟩)]
    · rw [if_neg hC, ib_f (fun h => hC h.1)]
      omega
theorem sm_three (F : Nat → Int) : ∀ N, sm (fun k => sm (fun e => F (3 * k + e)) 3) N = sm F (3 * N)
  | 0 => rfl
  | N + 1 => by
    rw [sm_s, sm_three F N, show 3 * (N + 1) = 3 * N + 1 + 1 + 1 by omega, sm_s, sm_s, sm_s]
    show _ + (0 + F (3 * N + 0) + F (3 * N + 1) + F (3 * N + 2)) = _
    rw [show 3 * N + 0 = 3 * N by omega]
    show _ = sm F (3 * N) + F (3 * N) + F (3 * N + 1) + F (3 * N + 2)
    omega
/-- whether the edge is told at this leaf: the lesser one of the two -/
def fsB (n k e : Nat) : Bool := (e == 0 && ((k % 4 == 1 && Nat.blt (k / 4 % n + 1) n) || (k % 4 == 2 && Nat.blt (k / 4 / n + 1) n))) || (e == 1 && !(k % 4 == 3)) || (e == 2 && k % 4 == 0)
def cnB (c X Y tx ty : Nat) : Bool := (tx == (if c == 0 || c == 1 then 2 * X + 2 else 2 * X)) && (ty == (if c == 1 || c == 2 then 2 * Y + 2 else 2 * Y))
def eaB (n k e tx ty : Nat) : Bool := if e == 0 then cnB (k % 4) (k / 4 % n) (k / 4 / n) tx ty || cnB ((k % 4 + 3) % 4) (k / 4 % n) (k / 4 / n) tx ty else (tx == 2 * (k / 4 % n) + 1 && ty == 2 * (k / 4 / n) + 1) || (if e == 1 then cnB (k % 4) (k / 4 % n) (k / 4 / n) tx ty else cnB ((k % 4 + 3) % 4) (k / 4 % n) (k / 4 / n) tx ty)
def ceB (n tx ty i : Nat) : Bool := fsB n (i / 3) (i % 3) && eaB n (i / 3) (i % 3) tx ty
/-- the same edge as the reference names it -/
def cano (n i : Nat) : Nat := if i % 3 == 0 then (if i / 3 % 4 == 1 then i + 18 else if i / 3 % 4 == 2 then i + 12 * n - 6 else i) else if i % 3 == 2 then i + 8 else i
def enL (n x y b : Nat) : List Nat := (List.range 8).filterMap (fun i => if 0 ≤ enI n x y b i then some (enI n x y b i).toNat else none)
def ckB (n : Nat) : Bool := (List.range (n + 1)).all (fun x => (List.range (n + 1)).all (fun y => (((List.range (3 * (4 * n * n))).filter (ceB n (2 * x) (2 * y))).map (cano n)).isPerm (enL n x y 0) && (!(Nat.blt x n && Nat.blt y n) || (((List.range (3 * (4 * n * n))).filter (ceB n (2 * x + 1) (2 * y + 1))).map (cano n)).isPerm (enL n x y 1))))
theorem ck_1 : ckB 1 = true := by decide +kernel
theorem ck_2 : ckB 2 = true := by decide +kernel
theorem ck_3 : ckB 3 = true := by decide +kernel
theorem ck_4 : ckB 4 = true := by decide +kernel
theorem ck_5 : ckB 5 = true := by decide +kernel
theorem ck_6 : ckB 6 = true := by decide +kernel
theorem ck_n {n : Nat} (h : 1 ≤ n ∧ n ≤ 6) : ckB n = true := by
  rcases (by omega : n = 1 ∨ n = 2 ∨ n = 3 ∨ n = 4 ∨ n = 5 ∨ n = 6) with rfl | rfl | rfl | rfl | rfl | rfl
  · exact ck_1
  · exact ck_2
  · exact ck_3
  · exact ck_4
  · exact ck_5
  · exact ck_6
theorem ck_at {n x y b : Nat} (h : 1 ≤ n ∧ n ≤ 6) (hb : (b = 0 ∧ x ≤ n ∧ y ≤ n) ∨ (b = 1 ∧ x < n ∧ y < n)) : (((List.range (3 * (4 * n * n))).filter (ceB n (2 * x + b) (2 * y + b))).map (cano n)).Perm (enL n x y b) := by
  have h1 := ck_n h
  unfold ckB at h1
  have h2 := List.all_eq_true.mp h1 x (List.mem_range.mpr (by omega))
  have h3 := List.all_eq_true.mp h2 y (List.mem_range.mpr (by omega))
  rw [Bool.and_eq_true] at h3
  rcases hb with ⟨rfl, hx, hy⟩ | ⟨rfl, hx, hy⟩
  · exact List.isPerm_iff.mp h3.1
  · have h4 := h3.2
    rw [Bool.or_eq_true] at h4
    rcases h4 with q | q
    · exfalso
      rw [show Nat.blt x n = true from Nat.ble_eq_true_of_le hx, show Nat.blt y n = true from Nat.ble_eq_true_of_le hy] at q
      exact absurd q (by decide)
    · exact List.isPerm_iff.mp q
theorem cn_is {c X Y : Nat} {tx ty : Nat} (hc : c < 4) : cnB c X Y tx ty = true ↔ isC (c : Int) ((tx : Int) - 2 * (X : Int)) ((ty : Int) - 2 * (Y : Int)) := by
  rcases (by omega : c = 0 ∨ c = 1 ∨ c = 2 ∨ c = 3) with rfl | rfl | rfl | rfl <;> simp [cnB, isC] <;> omega
theorem ea_is {n k e tx ty : Nat} (he : e < 3) : eaB n k e tx ty = true ↔ eA n k e (tx : Int) (ty : Int) := by
  have h1 := cn_is (c := k % 4) (X := k / 4 % n) (Y := k / 4 / n) (tx := tx) (ty := ty) (by omega)
  have h2 := cn_is (c := (k % 4 + 3) % 4) (X := k / 4 % n) (Y := k / 4 / n) (tx := tx) (ty := ty) (by omega)
  have e1 : ((k % 4 : Nat) : Int) = lq k := rfl
  have e2 : (((k % 4 + 3) % 4 : Nat) : Int) = (lq k + 3) % 4 := by unfold lq; omega
  have e3 : ((k / 4 % n : Nat) : Int) = lx n k := rfl
  have e4 : ((k / 4 / n : Nat) : Int) = ly n k := rfl
  rw [e1, e3, e4] at h1
  rw [e2, e3, e4] at h2
  have e5 : (tx == 2 * (k / 4 % n) + 1 && ty == 2 * (k / 4 / n) + 1) = true ↔ ((tx : Int) - 2 * lx n k = 1 ∧ (ty : Int) - 2 * ly n k = 1) := by
    have g : ∀ X Y : Nat, (tx == 2 * X + 1 && ty == 2 * Y + 1) = true ↔ ((tx : Int) - 2 * (X : Int) = 1 ∧ (ty : Int) - 2 * (Y : Int) = 1) := by
      intro X Y
      simp
      omega
    exact g _ _
  unfold eaB eA
  rcases (by omega : e = 0 ∨ e = 1 ∨ e = 2) with rfl | rfl | rfl
  · rw [if_pos (by decide), Bool.or_eq_true, h1, h2]
    constructor
    · intro h; exact Or.inl ⟨rfl, h⟩
    · rintro (h | h)
      · exact h.2
      · exact absurd rfl h.1
  · rw [if_neg (by decide), if_pos (by decide), Bool.or_eq_true, e5, h1]
    constructor
    · rintro (h | h)
      · exact Or.inr ⟨by decide, Or.inl h⟩
      · exact Or.inr ⟨by decide, Or.inr (Or.inl ⟨rfl, h⟩)⟩
    · rintro (h | ⟨-, h | h | h⟩)
      · exact absurd h.1 (by decide)
      · exact Or.inl h
      · exact Or.inr h.2
      · exact absurd rfl h.1
  · rw [if_neg (by decide), if_neg (by decide), Bool.or_eq_true, e5, h2]
    constructor
    · rintro (h | h)
      · exact Or.inr ⟨by decide, Or.inl h⟩
      · exact Or.inr ⟨by decide, Or.inr (Or.inr ⟨by decide, h⟩)⟩
    · rintro (h | ⟨-, h | h | h⟩)
      · exact absurd h.1 (by decide)
      · exact Or.inl h
      · exact absurd h.1 (by decide)
      · exact Or.inr h.2
theorem k_is (n k : Nat) : (k : Int) = 4 * (ly n k * (n : Int) + lx n k) + lq k := by
  have h1 := Nat.div_add_mod k 4
  have h2 := Nat.div_add_mod (k / 4) n
  have h3 : k = 4 * (k / 4 / n * n + k / 4 % n) + k % 4 := by
    rw [Nat.mul_comm (k / 4 / n) n, h2]; omega
  have h4 := congrArg (fun z : Nat => (z : Int)) h3
  simp only [Int.natCast_add, Int.natCast_mul] at h4
  exact h4
theorem nb0 {n k : Nat} (hn : 1 ≤ n ∧ n ≤ 6) (hk : k < 4 * n * n) : (lq k = 0 → ¬ (k : Int) < nb n k 0) ∧ (lq k = 3 → ¬ (k : Int) < nb n k 0) ∧ (lq k = 1 → ((k : Int) < nb n k 0 ↔ lx n k + 1 < n) ∧ (lx n k + 1 < n → nb n k 0 = k + 6)) ∧ (lq k = 2 → ((k : Int) < nb n k 0 ↔ ly n k + 1 < n) ∧ (ly n k + 1 < n → nb n k 0 = k + 4 * n - 2)) := by
  have e := k_is n k
  obtain ⟨⟨a1, a2⟩, ⟨b1, b2⟩, -⟩ := lxy_rg hn hk
  have m1 : (ly n k + -1) * (n : Int) = ly n k * n - n := by rw [Int.add_mul]; omega
  have m2 : (ly n k + 1) * (n : Int) = ly n k * n + n := by rw [Int.add_mul]; omega
  have hp : nb n k 0 = acr n (lx n k) (ly n k) (lq k) := rfl
  rw [hp]
  refine ⟨fun q => ?_, fun q => ?_, fun q => ?_, fun q => ?_⟩
  · rw [q] at e ⊢
    simp [acr, ax, ay, m1]
    split <;> omega
  · rw [q] at e ⊢
    simp [acr, ax, ay]
    split <;> omega
  · rw [q] at e ⊢
    simp [acr, ax, ay]
    constructor
    · split <;> omega
    · intro z
      rw [if_pos (by omega)]
      omega
  · rw [q] at e ⊢
    simp [acr, ax, ay, m2]
    constructor
    · split <;> omega
    · intro z
      rw [if_pos (by omega)]
      omega
theorem fs_is {n k e : Nat} (hn : 1 ≤ n ∧ n ≤ 6) (hk : k < 4 * n * n) (he : e < 3) : fsB n k e = true ↔ (k : Int) < nb n k e := by
  have e3 : ((k / 4 % n : Nat) : Int) = lx n k := rfl
  have e4 : ((k / 4 / n : Nat) : Int) = ly n k := rfl
  have eq : lq k = ((k % 4 : Nat) : Int) := rfl
  obtain ⟨z0, z3, z1, z2⟩ := nb0 hn hk
  rcases (by omega : e = 0 ∨ e = 1 ∨ e = 2) with rfl | rfl | rfl
  · rcases (by omega : k % 4 = 0 ∨ k % 4 = 1 ∨ k % 4 = 2 ∨ k % 4 = 3) with q | q | q | q
    · constructor
      · intro h; simp [fsB, q] at h
      · intro h; exact absurd h (z0 (by rw [eq, q]; rfl))
    · rw [(z1 (by rw [eq, q]; rfl)).1, ← e3]
      simp only [fsB, q]
      generalize k / 4 % n = X
      generalize k / 4 / n = Y
      simp [Nat.blt]
      omega
    · rw [(z2 (by rw [eq, q]; rfl)).1, ← e4]
      simp only [fsB, q]
      generalize k / 4 % n = X
      generalize k / 4 / n = Y
      simp [Nat.blt]
      omega
    · constructor
      · intro h; simp [fsB, q] at h
      · intro h; exact absurd h (z3 (by rw [eq, q]; rfl))
  · have : nb n k 1 = (k : Int) - lq k + (lq k + 1) % 4 := rfl
    rw [this, eq]
    simp [fsB]
    omega
  · have : nb n k 2 = (k : Int) - lq k + (lq k + 3) % 4 := rfl
    rw [this, eq]
    simp [fsB]
    omega
def pE (e : Nat) : Nat := if e = 0 then 0 else 3 - e
theorem nb_lt {n k e : Nat} (hn : 1 ≤ n ∧ n ≤ 6) (hk : k < 4 * n * n) (he : e < 3) (h : (k : Int) < nb n k e) {g : Nat} (hg : nb n k e = (g : Int)) : g < 4 * n * n := by
  rcases nb_rg hn hk he with z | ⟨j, z, hj⟩ <;> omega
theorem cano_f {n i tx ty : Nat} {f : Nat → Int} (hn : 1 ≤ n ∧ n ≤ 6) (hi : i < 3 * (4 * n * n)) (sym : ∀ k e g : Nat, k < 4 * n * n → e < 3 → g < 4 * n * n → nb n k e = (g : Int) → f (3 * k + e) = f (3 * g + pE e)) (hc : ceB n tx ty i = true) : f i = f (cano n i) := by
  have hk : i / 3 < 4 * n * n := by omega
  have h1 : fsB n (i / 3) (i % 3) = true := by
    unfold ceB at hc
    rw [Bool.and_eq_true] at hc
    exact hc.1
  have h2 := (fs_is hn hk (by omega)).mp h1
  have eq : lq (i / 3) = ((i / 3 % 4 : Nat) : Int) := rfl
  obtain ⟨z0, z3, z1, z2⟩ := nb0 hn hk
  rcases (by omega : i % 3 = 0 ∨ i % 3 = 1 ∨ i % 3 = 2) with q | q | q
  · rw [q] at h2
    rcases (by omega : i / 3 % 4 = 0 ∨ i / 3 % 4 = 1 ∨ i / 3 % 4 = 2 ∨ i / 3 % 4 = 3) with r | r | r | r
    · exact absurd h2 (z0 (by rw [eq, r]; rfl))
    · obtain ⟨y1, y2⟩ := z1 (by rw [eq, r]; rfl)
      have y3 := y2 (y1.mp h2)
      have y4 : nb n (i / 3) 0 = ((i / 3 + 6 : Nat) : Int) := by rw [y3]; omega
      have y5 := sym (i / 3) 0 (i / 3 + 6) hk (by decide) (nb_lt hn hk (by decide) h2 y4) y4
      have c1 : cano n i = i + 18 := by simp [cano, q, r]
      rw [c1]
      have c2 : 3 * (i / 3) + 0 = i := by omega
      have c3 : 3 * (i / 3 + 6) + pE 0 = i + 18 := by unfold pE; simp; omega
      rw [c2, c3] at y5
      exact y5
    · obtain ⟨y1, y2⟩ := z2 (by rw [eq, r]; rfl)
      have y3 := y2 (y1.mp h2)
      have y4 : nb n (i / 3) 0 = ((i / 3 + 4 * n - 2 : Nat) : Int) := by rw [y3]; omega
      have y5 := sym (i / 3) 0 (i / 3 + 4 * n - 2) hk (by decide) (nb_lt hn hk (by decide) h2 y4) y4
      have c1 : cano n i = i + 12 * n - 6 := by simp [cano, q, r]
      rw [c1]
      have c2 : 3 * (i / 3) + 0 = i := by omega
      have c3 : 3 * (i / 3 + 4 * n - 2) + pE 0 = i + 12 * n - 6 := by unfold pE; simp; omega
      rw [c2, c3] at y5
      exact y5
    · exact absurd h2 (z3 (by rw [eq, r]; rfl))
  · have c1 : cano n i = i := by simp [cano, q]
    rw [c1]
  · rw [q] at h2
    have h3 : nb n (i / 3) 2 = (i / 3 : Nat) - lq (i / 3) + (lq (i / 3) + 3) % 4 := rfl
    have r : i / 3 % 4 = 0 := by
      rw [h3, eq] at h2
      omega
    have y4 : nb n (i / 3) 2 = ((i / 3 + 3 : Nat) : Int) := by rw [h3, eq, r]; omega
    have y5 := sym (i / 3) 2 (i / 3 + 3) hk (by decide) (nb_lt hn hk (by decide) h2 y4) y4
    have c1 : cano n i = i + 8 := by simp [cano, q]
    rw [c1]
    have c2 : 3 * (i / 3) + 2 = i := by omega
    have c3 : 3 * (i / 3 + 3) + pE 2 = i + 8 := by unfold pE; simp; omega
    rw [c2, c3] at y5
    exact y5
theorem ends_sum {n x y b : Nat} {f : Nat → Int} {K : Int} (hn : 1 ≤ n ∧ n ≤ 6) (hb : (b = 0 ∧ x ≤ n ∧ y ≤ n) ∨ (b = 1 ∧ x < n ∧ y < n)) (sym : ∀ k e g : Nat, k < 4 * n * n → e < 3 → g < 4 * n * n → nb n k e = (g : Int) → f (3 * k + e) = f (3 * g + pE e)) : sm (fun k => sm (fun e => ib ((k : Int) < nb n k e ∧ eA n k e (((2 * x + b : Nat)) : Int) (((2 * y + b : Nat)) : Int) ∧ f (3 * k + e) = K)) 3) (4 * n * n) = smL (fun i => ib (f i = K)) (enL n x y b) := by
  have s1 : sm (fun k => sm (fun e => ib ((k : Int) < nb n k e ∧ eA n k e (((2 * x + b : Nat)) : Int) (((2 * y + b : Nat)) : Int) ∧ f (3 * k + e) = K)) 3) (4 * n * n) = sm (fun k => sm (fun e => ib (ceB n (2 * x + b) (2 * y + b) (3 * k + e) = true ∧ f (3 * k + e) = K)) 3) (4 * n * n) := by
    refine sm_c (fun k hk => sm_c (fun e he => ib_c ?_))
    have h1 := fs_is hn hk he
    have h2 := ea_is (n := n) (k := k) (tx := 2 * x + b) (ty := 2 * y + b) he
    unfold ceB
    rw [show (3 * k + e) / 3 = k by omega, show (3 * k + e) % 3 = e by omega, Bool.and_eq_true, h1, h2]
    exact ⟨fun h => ⟨⟨h.1, h.2.1⟩, h.2.2⟩, fun h => ⟨h.1.1, h.1.2, h.2⟩⟩
  rw [s1, sm_three (fun i => ib (ceB n (2 * x + b) (2 * y + b) i = true ∧ f i = K)), smL_range, smL_filter (P := fun i => f i = K)]
  have s2 : smL (fun i => ib (f i = K)) ((List.range (3 * (4 * n * n))).filter (ceB n (2 * x + b) (2 * y + b))) = smL (fun i => ib (f (cano n i) = K)) ((List.range (3 * (4 * n * n))).filter (ceB n (2 * x + b) (2 * y + b))) := by
    refine smL_c _ (fun i hi => ?_)
    obtain ⟨hi1, hi2⟩ := List.mem_filter.mp hi
    rw [cano_f hn (List.mem_range.mp hi1) sym hi2]
  rw [s2, ← smL_map (fun i => ib (f i = K)) (cano n)]
  exact smL_perm (ck_at hn hb)
theorem smL_fm (g : Nat → Int) (p : Nat → Option Nat) : ∀ l : List Nat, smL g (l.filterMap p) = smL (fun i => match p i with | none => 0 | some j => g j) l
  | [] => rfl
  | a :: r => by
    have ih := smL_fm g p r
    cases h : p a with
    | none => rw [List.filterMap_cons_none h]; simp only [smL, h]; rw [ih]; omega
    | some j => rw [List.filterMap_cons_some h]; simp only [smL, h]; rw [ih]
theorem en_sum {n x y b : Nat} {w : wd} {K : Int} (hK : K ≠ 0) : smL (fun i => ib (w 60 i = K)) (enL n x y b) = sm (fun i => ib (gE w (enI n x y b i) = K)) 8 := by
  rw [smL_range]
  unfold enL
  rw [smL_fm]
  refine smL_c _ (fun i _ => ?_)
  unfold gE
  by_cases z : 0 ≤ enI n x y b i
  · rw [if_pos z, if_pos z]
  · rw [if_neg z, if_neg z]
    exact (ib_f (fun q => hK q.symm)).symm
