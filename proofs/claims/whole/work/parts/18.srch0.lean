/-! ===== folds and cuts of places alone ===== -/
abbrev pl : Type := Int × Int × Int
abbrev lys : Type := Nat → pl
def stp (s : Int) (p : pl) : Int := strip s p.1 p.2.1 p.2.2
def mir (s k : Int) (p : pl) : pl := (mirX s k p.1 p.2.1, mirY s k p.1 p.2.1, mirQ s p.2.2)
def trn (s k d : Int) (p : pl) : pl := if isOn (stp s p) k d then mir s k p else p
def spt (p : pl) : Int := spot p.1 p.2.1 p.2.2
abbrev okp (R : Int) (p : pl) : Prop := (-R ≤ p.1 ∧ p.1 ≤ R) ∧ (-R ≤ p.2.1 ∧ p.2.1 ≤ R) ∧ (0 ≤ p.2.2 ∧ p.2.2 ≤ 3)
abbrev nrp (D : Int) (p r : pl) : Prop := (-D ≤ p.1 - r.1 ∧ p.1 - r.1 ≤ D) ∧ (-D ≤ p.2.1 - r.2.1 ∧ p.2.1 - r.2.1 ≤ D)
def BOX (R : Int) (N : Nat) (S : lys) : Prop := (∀ f, f < N → okp R (S f)) ∧ ∀ f g, f < N → g < N → nrp 5 (S f) (S g)
abbrev crS (N : Nat) (S : lys) (s k : Int) : Prop := (∃ f, f < N ∧ stp s (S f) < k) ∧ ∃ f, f < N ∧ k ≤ stp s (S f)
def CNS (N : Nat) (F : Nat → Int) (S : lys) : Prop := ∀ f g, f < N → g < N → S f = S g → F f = F g
abbrev fitS (N : Nat) (F : Nat → Int) (S : lys) (s k : Int) : Prop := ∀ f, f < N → ∀ g, g < N → mir s k (S f) = S g → F f = F g
def trS (S : lys) (s k d : Int) : lys := fun f => trn s k d (S f)
theorem s4 {s : Int} (h : 0 ≤ s ∧ s ≤ 3) : s = 0 ∨ s = 1 ∨ s = 2 ∨ s = 3 := by omega
theorem stp_rg {s R : Int} {p : pl} (h : okp R p) : -(2 * R + 1) ≤ stp s p ∧ stp s p ≤ 2 * R + 1 := by
  unfold stp strip
  (repeat' split) <;> omega
theorem spt_rg (p : pl) : 0 ≤ spt p ∧ spt p < 1024 := spot_lt _ _ _
theorem spt_inj {p r : pl} (hp : 0 ≤ p.2.2 ∧ p.2.2 ≤ 3) (hr : 0 ≤ r.2.2 ∧ r.2.2 ≤ 3) (hn : nrp 15 p r) (h : spt p = spt r) : p = r := by
  obtain ⟨x, y, q⟩ := p
  obtain ⟨x2, y2, q2⟩ := r
  simp only [spt, spot, nrp] at *
  have h1 : x = x2 := by omega
  have h2 : y = y2 := by omega
  have h3 : q = q2 := by omega
  subst h1 h2 h3
  rfl
theorem mir_q {s k : Int} {p : pl} (hq : 0 ≤ p.2.2 ∧ p.2.2 ≤ 3) : 0 ≤ (mir s k p).2.2 ∧ (mir s k p).2.2 ≤ 3 := by
  have := mirQ_rg (sort := s) (q := p.2.2) (by omega)
  simp only [mir]
  omega
theorem mir_mir {s k : Int} {p : pl} (hs : 0 ≤ s ∧ s ≤ 3) (hq : 0 ≤ p.2.2 ∧ p.2.2 ≤ 3) : mir s k (mir s k p) = p := by
  obtain ⟨x, y, q⟩ := p
  simp only at hq
  rcases s4 hs with rfl | rfl | rfl | rfl <;> simp only [mir, mirX, mirY, mirQ] <;> simp <;> omega
theorem stp_mir {s k : Int} {p : pl} (hs : 0 ≤ s ∧ s ≤ 3) (hq : 0 ≤ p.2.2 ∧ p.2.2 ≤ 3) : stp s (mir s k p) = 2 * k - 1 - stp s p := by
  obtain ⟨x, y, q⟩ := p
  simp only at hq
  rcases s4 hs with rfl | rfl | rfl | rfl
  · simp only [stp, strip, mir, mirX]; simp
  · simp only [stp, strip, mir, mirY]; simp
  · simp only [stp, strip, mir, mirX, mirY, mirQ]; simp; (repeat' split) <;> omega
  · rcases (by omega : q = 0 ∨ q = 1 ∨ q = 2 ∨ q = 3) with rfl | rfl | rfl | rfl <;> simp only [stp, strip, mir, mirX, mirY, mirQ] <;> simp <;> omega
theorem nr_trn {s k d : Int} {p r : pl} (hs : 0 ≤ s ∧ s ≤ 3) (h : nrp 5 p r) : nrp 5 (trn s k d p) (trn s k d r) := by
  obtain ⟨x, y, q⟩ := p
  obtain ⟨x2, y2, q2⟩ := r
  simp only [nrp] at h
  rcases s4 hs with rfl | rfl | rfl | rfl <;> simp only [trn, stp, strip, mir, mirX, mirY, isOn, nrp] <;> simp <;> (repeat' split) <;> (try simp only) <;> omega
theorem nr_mir {s k : Int} {p r u v : pl} (hs : 0 ≤ s ∧ s ≤ 3) (h1 : nrp 5 p r) (h2 : nrp 5 p u) (h3 : nrp 5 p v) (h4 : nrp 5 r u) (h5 : nrp 5 r v) (hu : stp s u < k) (hv : k ≤ stp s v) : nrp 15 (mir s k p) r := by
  obtain ⟨x, y, q⟩ := p
  obtain ⟨x2, y2, q2⟩ := r
  obtain ⟨x3, y3, q3⟩ := u
  obtain ⟨x4, y4, q4⟩ := v
  simp only [nrp] at h1 h2 h3 h4 h5
  rcases s4 hs with rfl | rfl | rfl | rfl <;> simp only [stp, strip, mir, mirX, mirY, nrp] at hu hv ⊢ <;> simp at hu hv ⊢ <;> (try split at hu) <;> (try split at hv) <;> omega
theorem trn_q {s k d : Int} {p : pl} (hq : 0 ≤ p.2.2 ∧ p.2.2 ≤ 3) : 0 ≤ (trn s k d p).2.2 ∧ (trn s k d p).2.2 ≤ 3 := by
  unfold trn
  split
  · exact mir_q hq
  · exact hq
theorem BOX.nrm {R : Int} {N : Nat} {S : lys} {s k : Int} (h : BOX R N S) (hs : 0 ≤ s ∧ s ≤ 3) (hc : crS N S s k) {f g : Nat} (hf : f < N) (hg : g < N) : nrp 15 (mir s k (S f)) (S g) := by
  obtain ⟨⟨u, hu, hu2⟩, ⟨v, hv, hv2⟩⟩ := hc
  exact nr_mir hs (h.2 _ _ hf hg) (h.2 _ _ hf hu) (h.2 _ _ hf hv) (h.2 _ _ hg hu) (h.2 _ _ hg hv) hu2 hv2
/-- a fold that crosses keeps the box -/
theorem BOX.trk {R : Int} {N : Nat} {S : lys} {s k d : Int} (h : BOX R N S) (hs : 0 ≤ s ∧ s ≤ 3) (hd : d = 0 ∨ d = 1) (hc : crS N S s k) : BOX (R + 5) N (trS S s k d) := by
  have hn : ∀ f g, f < N → g < N → nrp 5 (trS S s k d f) (trS S s k d g) := fun f g hf hg => nr_trn hs (h.2 f g hf hg)
  refine ⟨fun f hf => ?_, hn⟩
  obtain ⟨⟨u, hu, hu2⟩, ⟨v, hv, hv2⟩⟩ := hc
  have hq := trn_q (s := s) (k := k) (d := d) (h.1 f hf).2.2
  obtain ⟨o, ho, ho2⟩ : ∃ o, o < N ∧ trS S s k d o = S o := by
    rcases hd with rfl | rfl
    · exact ⟨v, hv, if_neg (by simp only [isOn]; omega)⟩
    · exact ⟨u, hu, if_neg (by simp only [isOn]; omega)⟩
  have h1 := hn f o hf ho
  rw [ho2] at h1
  have h2 := h.1 o ho
  refine ⟨?_, ?_, hq⟩ <;> omega
theorem CNS.trk {R : Int} {N : Nat} {F : Nat → Int} {S : lys} {s k d : Int} (hb : BOX R N S) (h : CNS N F S) (hs : 0 ≤ s ∧ s ≤ 3) (hfit : fitS N F S s k) : CNS N F (trS S s k d) := by
  intro f g hf hg e
  unfold trS trn at e
  split at e
  · split at e
    · have e2 := congrArg (mir s k) e
      rw [mir_mir hs (hb.1 f hf).2.2, mir_mir hs (hb.1 g hg).2.2] at e2
      exact h f g hf hg e2
    · exact hfit f hf g hg e
  · split at e
    · exact (hfit g hg f hf e.symm).symm
    · exact h f g hf hg e
/-- what fits, as it is seen behind the fold -/
theorem CNS.of {R : Int} {N : Nat} {F : Nat → Int} {S : lys} {s k d : Int} (hb : BOX R N S) (hs : 0 ≤ s ∧ s ≤ 3) (hd : d = 0 ∨ d = 1) (h : CNS N F (trS S s k d)) : fitS N F S s k := by
  intro f hf g hg e
  have hm := stp_mir (s := s) (k := k) hs (hb.1 f hf).2.2
  rw [e] at hm
  by_cases z : isOn (stp s (S f)) k d
  · refine h f g hf hg ?_
    have z2 : ¬ isOn (stp s (S g)) k d := by simp only [isOn] at z ⊢; omega
    simp only [trS, trn, z, z2, if_true, if_false]
    exact e
  · refine h f g hf hg ?_
    have z2 : isOn (stp s (S g)) k d := by simp only [isOn] at z ⊢; omega
    simp only [trS, trn, z, z2, if_true, if_false]
    rw [← e, mir_mir hs (hb.1 f hf).2.2]
/-! cuts -/
def mnS (F : Nat → Int) (S : lys) (K s : Int) (n : Nat) : Int := match n with
  | 0 => 1000
  | f + 1 => if F f = K then min (mnS F S K s f) (stp s (S f)) else mnS F S K s f
def mxS (F : Nat → Int) (S : lys) (K s : Int) (n : Nat) : Int := match n with
  | 0 => -1000
  | f + 1 => if F f = K then max (mxS F S K s f) (stp s (S f)) else mxS F S K s f
theorem mnS_le {F : Nat → Int} {S : lys} {K s : Int} : ∀ n, mnS F S K s n ≤ 1000 ∧ (∀ f, f < n → F f = K → mnS F S K s n ≤ stp s (S f)) ∧ (mnS F S K s n = 1000 ∨ ∃ f, f < n ∧ F f = K ∧ mnS F S K s n = stp s (S f))
  | 0 => ⟨Int.le_refl _, fun f h => absurd h (Nat.not_lt_zero _), Or.inl rfl⟩
  | n + 1 => by
    obtain ⟨h1, h2, h3⟩ := mnS_le (F := F) (S := S) (K := K) (s := s) n
    simp only [mnS]
    by_cases z : F n = K
    · rw [if_pos z]
      refine ⟨by omega, fun f hf hk => ?_, ?_⟩
      · rcases Nat.lt_succ_iff_lt_or_eq.mp hf with q | q
        · have := h2 f q hk; omega
        · subst q; omega
      · by_cases z2 : mnS F S K s n ≤ stp s (S n)
        · rw [Int.min_eq_left z2]
          rcases h3 with q | ⟨f, a, b, c⟩
          · exact Or.inl q
          · exact Or.inr ⟨f, by omega, b, c⟩
        · rw [Int.min_eq_right (by omega)]
          exact Or.inr ⟨n, by omega, z, rfl⟩
    · rw [if_neg z]
      refine ⟨h1, fun f hf hk => ?_, ?_⟩
      · rcases Nat.lt_succ_iff_lt_or_eq.mp hf with q | q
        · exact h2 f q hk
        · subst q; exact absurd hk z
      · rcases h3 with q | ⟨f, a, b, c⟩
        · exact Or.inl q
        · exact Or.inr ⟨f, by omega, b, c⟩
theorem mxS_le {F : Nat → Int} {S : lys} {K s : Int} : ∀ n, -1000 ≤ mxS F S K s n ∧ (∀ f, f < n → F f = K → stp s (S f) ≤ mxS F S K s n) ∧ (mxS F S K s n = -1000 ∨ ∃ f, f < n ∧ F f = K ∧ mxS F S K s n = stp s (S f))
  | 0 => ⟨Int.le_refl _, fun f h => absurd h (Nat.not_lt_zero _), Or.inl rfl⟩
  | n + 1 => by
    obtain ⟨h1, h2, h3⟩ := mxS_le (F := F) (S := S) (K := K) (s := s) n
    simp only [mxS]
    by_cases z : F n = K
    · rw [if_pos z]
      refine ⟨by omega, fun f hf hk => ?_, ?_⟩
      · rcases Nat.lt_succ_iff_lt_or_eq.mp hf with q | q
        · have := h2 f q hk; omega
        · subst q; omega
      · by_cases z2 : mxS F S K s n ≤ stp s (S n)
        · rw [Int.max_eq_right z2]
          exact Or.inr ⟨n, by omega, z, rfl⟩
        · rw [Int.max_eq_left (by omega)]
          rcases h3 with q | ⟨f, a, b, c⟩
          · exact Or.inl q
          · exact Or.inr ⟨f, by omega, b, c⟩
    · rw [if_neg z]
      refine ⟨h1, fun f hf hk => ?_, ?_⟩
      · rcases Nat.lt_succ_iff_lt_or_eq.mp hf with q | q
        · exact h2 f q hk
        · subst q; exact absurd hk z
      · rcases h3 with q | ⟨f, a, b, c⟩
        · exact Or.inl q
        · exact Or.inr ⟨f, by omega, b, c⟩
def fcS (N : Nat) (F : Nat → Int) (S : lys) (s d : Nat) : Int := max (-24) (mxS F S (if d = 0 then 1 else 0) s N + 1)
def lcS (N : Nat) (F : Nat → Int) (S : lys) (s d : Nat) : Int := min 48 (mnS F S (if d = 0 then 0 else 1) s N)
def cutN (N : Nat) (F : Nat → Int) (S : lys) : Int := sm (fun s => sm (fun d => max 0 (lcS N F S s d - fcS N F S s d + 1)) 2) 4
/-! the tellings, in their order: k, sort, side -/
def tK (t : Nat) : Int := ((t / 8 : Nat) : Int) - 24
def tS (t : Nat) : Nat := t % 8 / 2
def tD (t : Nat) : Nat := t % 2
def tl (t : Int) : Int := 1000 + 100 * (t / 8 - 24) + 10 * (t % 8 / 2) + t % 2
theorem tl_tell (t : Nat) : tl t = 1000 + 100 * tK t + 10 * (tS t : Int) + (tD t : Int) := by
  unfold tl tK tS tD
  omega
theorem tS_rg (t : Nat) : tS t < 4 := by unfold tS; omega
theorem tD_rg (t : Nat) : tD t < 2 := by unfold tD; omega
abbrev cutOk (N : Nat) (F : Nat → Int) (S : lys) (t : Nat) : Prop := fcS N F S (tS t) (tD t) ≤ tK t ∧ tK t ≤ lcS N F S (tS t) (tD t)
def lstT (P : Nat → Prop) [DecidablePred P] (n : Nat) : Nat := match n with
  | 0 => 0
  | m + 1 => if (∃ t, t < m ∧ P t) then lstT P m else m
theorem lstT_is {P : Nat → Prop} [DecidablePred P] {t : Nat} (h : P t) (hl : ∀ j, j < t → ¬ P j) : ∀ n, t < n → lstT P n = t
  | 0, hn => absurd hn (Nat.not_lt_zero _)
  | m + 1, hn => by
    simp only [lstT]
    by_cases z : t < m
    · rw [if_pos ⟨t, z, h⟩]
      exact lstT_is h hl m z
    · rw [if_neg (fun ⟨j, h1, h2⟩ => hl j (by omega) h2)]
      omega
def loopT {α : Type} (f : Nat → α → α) (n : Nat) (a : α) : α := match n with
  | 0 => a
  | t + 1 => f t (loopT f t a)
theorem loopT_skip {α : Type} {f : Nat → α → α} {a : α} {m : Nat} : ∀ n, (∀ t, m ≤ t → t < m + n → ∀ b, f t b = b) → loopT f (m + n) a = loopT f m a
  | 0, _ => rfl
  | n + 1, h => by
    show f (m + n) (loopT f (m + n) a) = _
    rw [h (m + n) (by omega) (by omega)]
    exact loopT_skip n (fun t h1 h2 => h t h1 (by omega))
abbrev goS (N : Nat) (F : Nat → Int) (S : lys) (t : Nat) : Prop := crS N S (tS t : Int) (tK t) ∧ fitS N F S (tS t : Int) (tK t)
def nxS (S : lys) (t : Nat) : lys := trS S (tS t : Int) (tK t) (tD t : Int)
def cnt (N : Nat) (F : Nat → Int) (d : Nat) (S : lys) : Int := match d with
  | 0 => 1
  | d + 1 => sm (fun t => if goS N F S t then cnt N F d (nxS S t) else 0) 584
theorem sm_nn {f : Nat → Int} : ∀ n, (∀ k, k < n → 0 ≤ f k) → 0 ≤ sm f n
  | 0, _ => Int.le_refl _
  | n + 1, h => by
    rw [sm_s]
    have h1 := sm_nn n (fun k hk => h k (by omega))
    have h2 := h n (by omega)
    omega
theorem cnt_nn (N : Nat) (F : Nat → Int) : ∀ d S, 0 ≤ cnt N F d S
  | 0, _ => by unfold cnt; omega
  | d + 1, S => by
    unfold cnt
    refine sm_nn 584 (fun t _ => ?_)
    split
    · exact cnt_nn N F d _
    · exact Int.le_refl _
abbrev acT : Type := Int × (Nat → Int)
def weiS (N : Nat) (F : Nat → Int) (g : Nat) (S : lys) (r : Nat → Int) (a : acT) : acT :=
  (a.1 + cutN N F S, if 0 < cutN N F S ∧ a.1 = 0 then (fun i => if i < g then r i else ((lstT (cutOk N F S) 584 : Nat) : Int)) else a.2)
def accD (N : Nat) (F : Nat → Int) (g d : Nat) (S : lys) (r : Nat → Int) (a : acT) : acT := match d with
  | 0 => weiS N F g S r a
  | d + 1 => loopT (fun t a => if goS N F S t then accD N F g d (nxS S t) (w1 r (g - (d + 1)) t) a else a) 584 a
theorem cutN_rg (N : Nat) (F : Nat → Int) (S : lys) : 0 ≤ cutN N F S ∧ cutN N F S ≤ 584 := by
  have h : ∀ s d, 0 ≤ max 0 (lcS N F S s d - fcS N F S s d + 1) ∧ max 0 (lcS N F S s d - fcS N F S s d + 1) ≤ 73 := by
    intro s d
    unfold fcS lcS
    omega
  have h00 := h 0 0
  have h01 := h 0 1
  have h10 := h 1 0
  have h11 := h 1 1
  have h20 := h 2 0
  have h21 := h 2 1
  have h30 := h 3 0
  have h31 := h 3 1
  simp only [cutN, sm_s, sm_0]
  omega
theorem accD_rg (N : Nat) (F : Nat → Int) (g : Nat) : ∀ d S r (a : acT), a.1 ≤ (accD N F g d S r a).1 ∧ (accD N F g d S r a).1 ≤ a.1 + 584 * cnt N F d S
  | 0, S, r, a => by
    have := cutN_rg N F S
    simp only [accD, weiS, cnt]
    omega
  | d + 1, S, r, a => by
    simp only [accD, cnt]
    have : ∀ n, a.1 ≤ (loopT (fun t a => if goS N F S t then accD N F g d (nxS S t) (w1 r (g - (d + 1)) t) a else a) n a).1 ∧ (loopT (fun t a => if goS N F S t then accD N F g d (nxS S t) (w1 r (g - (d + 1)) t) a else a) n a).1 ≤ a.1 + 584 * sm (fun t => if goS N F S t then cnt N F d (nxS S t) else 0) n := by
      intro n
      induction n with
      | zero => simp only [loopT, sm_0]; omega
      | succ n ih =>
        simp only [loopT, sm_s]
        by_cases z : goS N F S n
        · rw [if_pos z, if_pos z]
          have h1 := accD_rg N F g d (nxS S n) (w1 r (g - (d + 1)) n) (loopT (fun t a => if goS N F S t then accD N F g d (nxS S t) (w1 r (g - (d + 1)) t) a else a) n a)
          omega
        · rw [if_neg z, if_neg z]
          omega
    exact this 584
