/-! ===== the folded sheet, as functions of the leaf: what a fold keeps ===== -/
def cnS (N : Nat) (S : lys) (p : pl) : Int := sm (fun j => ib (S j = p)) N
def adj (p : pl) (e : Nat) (u : Int) : pl := if e = 0 then (ax p.1 p.2.2, ay p.2.1 p.2.2, (p.2.2 + 2) % 4) else (p.1, p.2.1, if (e = 1 ∧ u = 1) ∨ (e ≠ 1 ∧ u ≠ 1) then (p.2.2 + 1) % 4 else (p.2.2 + 3) % 4)
def knd (l u : Nat → Int) (k g : Nat) : Int := if l k < l g then (if u k = 1 then 1 else 2) else (if u g = 1 then 1 else 2)
def CRR (S : lys) (l u cr : Nat → Int) (k e g : Nat) : Prop := (u k = u g ∧ cr (3 * k + e) = 0 ∧ S g = adj (S k) e (u k)) ∨ (u k ≠ u g ∧ S g = S k ∧ l k ≠ l g ∧ cr (3 * k + e) = knd l u k g)
def GEO (n m : Nat) (S : lys) (l u cr : Nat → Int) : Prop := BOX (5 + 5 * (m : Int)) (4 * n * n) S ∧ (∀ k, k < 4 * n * n → 0 ≤ l k ∧ l k < cnS (4 * n * n) S (S k)) ∧ (∀ k, k < 4 * n * n → (∃ j, j < 4 * n * n ∧ S j = S k ∧ l j = 0) ∧ ∃ j, j < 4 * n * n ∧ S j = S k ∧ l j = cnS (4 * n * n) S (S k) - 1) ∧ (∀ k, k < 4 * n * n → u k = 0 ∨ u k = 1) ∧ ∀ k e g : Nat, k < 4 * n * n → e < 3 → g < 4 * n * n → nb n k e = (g : Int) → CRR S l u cr k e g
abbrev mvS (S : lys) (s L d : Int) (k : Nat) : Prop := isOn (stp s (S k)) L d
def fdL (N : Nat) (S : lys) (s L d ov : Int) (l : Nat → Int) (k : Nat) : Int := if mvS S s L d k then (cnS N S (S k) - 1 - l k) + (if ov = 0 then 0 else cnS N S (mir s L (S k))) else l k + (if ov = 0 then cnS N S (mir s L (S k)) else 0)
def fdU (S : lys) (s L d : Int) (u : Nat → Int) (k : Nat) : Int := if mvS S s L d k then ib (¬ u k = 1) else u k
theorem sm_nnb {P : Nat → Prop} [DecidablePred P] (n : Nat) : 0 ≤ sm (fun k => ib (P k)) n := (sm_b (f := fun k => ib (P k)) (fun k => ib_01) n).1
theorem sm_posb {P : Nat → Prop} [DecidablePred P] : ∀ n, (∃ k, k < n ∧ P k) → 0 < sm (fun k => ib (P k)) n
  | 0, h => by obtain ⟨k, hk, -⟩ := h; omega
  | n + 1, h => by
    obtain ⟨k, hk, hp⟩ := h
    rw [sm_s]
    have h0 := sm_nnb (P := P) n
    have h1 : 0 ≤ ib (P n) := by rcases (ib_01 (P := P n)) with q | q <;> omega
    rcases Nat.lt_succ_iff_lt_or_eq.mp hk with q | q
    · have := sm_posb n ⟨k, q, hp⟩; omega
    · subst q; rw [ib_t hp]; omega
theorem sm_none {P : Nat → Prop} [DecidablePred P] : ∀ n, (∀ k, k < n → ¬ P k) → sm (fun k => ib (P k)) n = 0
  | 0, _ => rfl
  | n + 1, h => by rw [sm_s, sm_none n (fun k hk => h k (by omega)), ib_f (h n (by omega))]; rfl
theorem cn_pos {N : Nat} {S : lys} {p : pl} (h : ∃ k, k < N ∧ S k = p) : 0 < cnS N S p := sm_posb N h
theorem cn_nn (N : Nat) (S : lys) (p : pl) : 0 ≤ cnS N S p := sm_nnb N
theorem cn_0 {N : Nat} {S : lys} {p : pl} (h : ∀ k, k < N → S k ≠ p) : cnS N S p = 0 := sm_none N h
theorem sm_or {P Q R : Nat → Prop} [DecidablePred P] [DecidablePred Q] [DecidablePred R] : ∀ n, (∀ k, k < n → (R k ↔ P k ∨ Q k) ∧ ¬ (P k ∧ Q k)) → sm (fun k => ib (R k)) n = sm (fun k => ib (P k)) n + sm (fun k => ib (Q k)) n
  | 0, _ => rfl
  | n + 1, h => by
    rw [sm_s, sm_s, sm_s, sm_or n (fun k hk => h k (by omega))]
    obtain ⟨h1, h2⟩ := h n (by omega)
    by_cases hp : P n
    · rw [ib_t (h1.mpr (Or.inl hp)), ib_t hp, ib_f (fun q => h2 ⟨hp, q⟩)]; omega
    · by_cases hq : Q n
      · rw [ib_t (h1.mpr (Or.inr hq)), ib_t hq, ib_f hp]; omega
      · rw [ib_f (fun z => (h1.mp z).elim hp hq), ib_f hp, ib_f hq]; omega
theorem on_mir {s L d : Int} {p : pl} (hs : 0 ≤ s ∧ s ≤ 3) (hd : d = 0 ∨ d = 1) (hq : 0 ≤ p.2.2 ∧ p.2.2 ≤ 3) : isOn (stp s (mir s L p)) L d ↔ ¬ isOn (stp s p) L d := by
  rw [stp_mir hs hq]
  simp only [isOn]
  omega
/-- two places come upon each other if they are one, or each other's mirror -/
theorem trn_eq {s L d : Int} {p r : pl} (hs : 0 ≤ s ∧ s ≤ 3) (hd : d = 0 ∨ d = 1) (hp : 0 ≤ p.2.2 ∧ p.2.2 ≤ 3) (hr : 0 ≤ r.2.2 ∧ r.2.2 ≤ 3) : trn s L d p = trn s L d r ↔ p = r ∨ p = mir s L r := by
  have h1 := on_mir (L := L) hs hd hp
  have h2 := on_mir (L := L) hs hd hr
  have m1 := mir_mir (k := L) hs hp
  have m2 := mir_mir (k := L) hs hr
  unfold trn
  by_cases zp : isOn (stp s p) L d <;> by_cases zr : isOn (stp s r) L d
  · rw [if_pos zp, if_pos zr]
    constructor
    · intro e; left; rw [← m1, e, m2]
    · rintro (e | e)
      · rw [e]
      · exfalso; rw [e] at zp; exact (h2.mp zp) zr
  · rw [if_pos zp, if_neg zr]
    constructor
    · intro e; right; rw [← e, m1]
    · rintro (e | e)
      · exfalso; rw [e] at zp; exact zr zp
      · rw [e, m2]
  · rw [if_neg zp, if_pos zr]
    constructor
    · intro e; right; exact e
    · rintro (e | e)
      · exfalso; rw [e] at zp; exact zp zr
      · exact e
  · rw [if_neg zp, if_neg zr]
    constructor
    · intro e; left; exact e
    · rintro (e | e)
      · exact e
      · exfalso; rw [e] at zp; exact zp (h2.mpr zr)
theorem ne_mir {s L d : Int} {p : pl} (hs : 0 ≤ s ∧ s ≤ 3) (hd : d = 0 ∨ d = 1) (hq : 0 ≤ p.2.2 ∧ p.2.2 ≤ 3) : p ≠ mir s L p := by
  intro e
  have h := on_mir (L := L) (d := d) hs hd hq
  rw [← e] at h
  exact (iff_not_self h)
/-- heights behind a fold -/
theorem cn_fold {N : Nat} {S : lys} {s L d : Int} (hs : 0 ≤ s ∧ s ≤ 3) (hd : d = 0 ∨ d = 1) (hq : ∀ k, k < N → 0 ≤ (S k).2.2 ∧ (S k).2.2 ≤ 3) {k : Nat} (hk : k < N) : cnS N (trS S s L d) (trS S s L d k) = cnS N S (S k) + cnS N S (mir s L (S k)) := by
  unfold cnS
  refine sm_or N (fun j hj => ⟨trn_eq hs hd (hq j hj) (hq k hk), fun h => ?_⟩)
  exact ne_mir (L := L) hs hd (hq k hk) (h.1.symm.trans h.2)
theorem tr_on {S : lys} {s L d : Int} {k : Nat} (h : mvS S s L d k) : trS S s L d k = mir s L (S k) := if_pos h
theorem tr_off {S : lys} {s L d : Int} {k : Nat} (h : ¬ mvS S s L d k) : trS S s L d k = S k := if_neg h
theorem adj_mir {s L u : Int} {p : pl} {e : Nat} (hs : 0 ≤ s ∧ s ≤ 3) (hq : 0 ≤ p.2.2 ∧ p.2.2 ≤ 3) (hu : u = 0 ∨ u = 1) (he : e < 3) : mir s L (adj p e u) = adj (mir s L p) e (ib (¬ u = 1)) := by
  obtain ⟨x, y, q⟩ := p
  simp only at hq
  rcases (by omega : e = 0 ∨ e = 1 ∨ e = 2) with rfl | rfl | rfl <;> rcases hu with rfl | rfl <;> rcases s4 hs with rfl | rfl | rfl | rfl <;> rcases (by omega : q = 0 ∨ q = 1 ∨ q = 2 ∨ q = 3) with rfl | rfl | rfl | rfl <;> simp [mir, mirX, mirY, mirQ, adj, ax, ay, ib] <;> omega
theorem adj_sep {s L d u : Int} {p : pl} {e : Nat} (hs : 0 ≤ s ∧ s ≤ 3) (hd : d = 0 ∨ d = 1) (hq : 0 ≤ p.2.2 ∧ p.2.2 ≤ 3) (hu : u = 0 ∨ u = 1) (he : e < 3) (h : ¬ (isOn (stp s p) L d ↔ isOn (stp s (adj p e u)) L d)) : mir s L p = adj p e u := by
  obtain ⟨x, y, q⟩ := p
  simp only at hq
  rcases hd with rfl | rfl <;> rcases (by omega : e = 0 ∨ e = 1 ∨ e = 2) with rfl | rfl | rfl <;> rcases hu with rfl | rfl <;> rcases s4 hs with rfl | rfl | rfl | rfl <;> rcases (by omega : q = 0 ∨ q = 1 ∨ q = 2 ∨ q = 3) with rfl | rfl | rfl | rfl <;> simp [mir, mirX, mirY, mirQ, adj, ax, ay, isOn, stp, strip] at h ⊢ <;> omega
theorem fdU_01 {S : lys} {s L d : Int} {u : Nat → Int} {k : Nat} (h : u k = 0 ∨ u k = 1) : fdU S s L d u k = 0 ∨ fdU S s L d u k = 1 := by
  unfold fdU
  split
  · exact ib_01
  · exact h
section GEOFOLD
variable {n m : Nat} {S : lys} {l u cr : Nat → Int} {s L d ov : Int}
theorem GEO.bnd (h : GEO n m S l u cr) (hs : 0 ≤ s ∧ s ≤ 3) (hd : d = 0 ∨ d = 1) (ho : ov = 0 ∨ ov = 1) {k : Nat} (hk : k < 4 * n * n) : 0 ≤ fdL (4 * n * n) S s L d ov l k ∧ fdL (4 * n * n) S s L d ov l k < cnS (4 * n * n) (trS S s L d) (trS S s L d k) := by
  obtain ⟨hb, hl, -, -, -⟩ := h
  rw [cn_fold hs hd (fun j hj => (hb.1 j hj).2.2) hk]
  have h1 := hl k hk
  have h2 := cn_nn (4 * n * n) S (mir s L (S k))
  unfold fdL
  (repeat' split) <;> omega
theorem GEO.tops (h : GEO n m S l u cr) (hs : 0 ≤ s ∧ s ≤ 3) (hd : d = 0 ∨ d = 1) (ho : ov = 0 ∨ ov = 1) {k : Nat} (hk : k < 4 * n * n) : (∃ j, j < 4 * n * n ∧ trS S s L d j = trS S s L d k ∧ fdL (4 * n * n) S s L d ov l j = 0) ∧ ∃ j, j < 4 * n * n ∧ trS S s L d j = trS S s L d k ∧ fdL (4 * n * n) S s L d ov l j = cnS (4 * n * n) (trS S s L d) (trS S s L d k) - 1 := by
  obtain ⟨hb, hl, ht, -, -⟩ := h
  have hq := fun j (hj : j < 4 * n * n) => (hb.1 j hj).2.2
  rw [cn_fold hs hd hq hk]
  obtain ⟨⟨j0, a0, b0, c0⟩, ⟨j1, a1, b1, c1⟩⟩ := ht k hk
  -- whoever lies in the same place moves with k
  have same : ∀ j, S j = S k → trS S s L d j = trS S s L d k := fun j e => by unfold trS; rw [e]
  have msame : ∀ j, S j = S k → (mvS S s L d j ↔ mvS S s L d k) := fun j e => by unfold mvS; rw [e]
  by_cases hg : ∃ g, g < 4 * n * n ∧ S g = mir s L (S k)
  · obtain ⟨g, hgk, eg⟩ := hg
    obtain ⟨⟨i0, p0, q0, r0⟩, ⟨i1, p1, q1, r1⟩⟩ := ht g hgk
    have mm := mir_mir (k := L) hs (hq k hk)
    have opp : ∀ j, S j = S g → (mvS S s L d j ↔ ¬ mvS S s L d k) := fun j e => by unfold mvS; rw [e, eg]; exact on_mir hs hd (hq k hk)
    have tog : ∀ j, j < 4 * n * n → S j = S g → trS S s L d j = trS S s L d k := fun j hj e => (trn_eq hs hd (hq j hj) (hq k hk)).mpr (Or.inr (e.trans eg))
    by_cases z : mvS S s L d k
    · rcases ho with rfl | rfl
      · refine ⟨⟨j1, a1, same _ b1, ?_⟩, ⟨i1, p1, tog _ p1 q1, ?_⟩⟩
        · simp only [fdL, if_pos ((msame _ b1).mpr z), if_true, b1, c1]; omega
        · have z2 : ¬ mvS S s L d i1 := fun y => (opp _ q1).mp y z
          simp only [fdL, if_neg z2, if_true, q1, eg, mm, r1]; omega
      · refine ⟨⟨i0, p0, tog _ p0 q0, ?_⟩, ⟨j0, a0, same _ b0, ?_⟩⟩
        · have z2 : ¬ mvS S s L d i0 := fun y => (opp _ q0).mp y z
          simp [fdL, if_neg z2, r0]
        · simp only [fdL, if_pos ((msame _ b0).mpr z), b0, c0]; simp; omega
    · rcases ho with rfl | rfl
      · refine ⟨⟨i1, p1, tog _ p1 q1, ?_⟩, ⟨j1, a1, same _ b1, ?_⟩⟩
        · have z2 : mvS S s L d i1 := (opp _ q1).mpr z
          simp only [fdL, if_pos z2, if_true, q1, r1]; omega
        · simp only [fdL, if_neg (fun y => z ((msame _ b1).mp y)), if_true, b1, c1]; omega
      · refine ⟨⟨j0, a0, same _ b0, ?_⟩, ⟨i0, p0, tog _ p0 q0, ?_⟩⟩
        · simp [fdL, if_neg (fun y => z ((msame _ b0).mp y)), c0]
        · have z2 : mvS S s L d i0 := (opp _ q0).mpr z
          simp only [fdL, if_pos z2, q0, eg, mm, r0]; simp; omega
  · have c9 : cnS (4 * n * n) S (mir s L (S k)) = 0 := cn_0 (fun j hj e => hg ⟨j, hj, e⟩)
    rw [c9]
    by_cases z : mvS S s L d k
    · refine ⟨⟨j1, a1, same _ b1, ?_⟩, ⟨j0, a0, same _ b0, ?_⟩⟩
      · simp only [fdL, if_pos ((msame _ b1).mpr z), b1, c1, c9]; split <;> omega
      · simp only [fdL, if_pos ((msame _ b0).mpr z), b0, c0, c9]; split <;> omega
    · refine ⟨⟨j0, a0, same _ b0, ?_⟩, ⟨j1, a1, same _ b1, ?_⟩⟩
      · simp only [fdL, if_neg (fun y => z ((msame _ b0).mp y)), b0, c0, c9]; split <;> omega
      · simp only [fdL, if_neg (fun y => z ((msame _ b1).mp y)), b1, c1, c9]; split <;> omega
theorem GEO.crs (h : GEO n m S l u cr) (hs : 0 ≤ s ∧ s ≤ 3) (hd : d = 0 ∨ d = 1) (ho : ov = 0 ∨ ov = 1) {cr2 : Nat → Int} {k e g : Nat} (hk : k < 4 * n * n) (he : e < 3) (hg : g < 4 * n * n) (hnb : nb n k e = (g : Int)) (hcr : cr2 (3 * k + e) = if ib (mvS S s L d k) ≠ ib (mvS S s L d g) then (if ov = u k then 1 else 2) else cr (3 * k + e)) : CRR (trS S s L d) (fdL (4 * n * n) S s L d ov l) (fdU S s L d u) cr2 k e g := by
  obtain ⟨hb, hl, ht, hu, hc⟩ := h
  have hq := fun j (hj : j < 4 * n * n) => (hb.1 j hj).2.2
  have huk := hu k hk
  have hug := hu g hg
  have hlk := hl k hk
  have hlg := hl g hg
  rcases hc k e g hk he hg hnb with ⟨e1, e2, e3⟩ | ⟨e1, e2, e3, e4⟩
  · by_cases zk : mvS S s L d k <;> by_cases zg : mvS S s L d g
    · left
      rw [ib_t zk, ib_t zg, if_neg (by omega)] at hcr
      refine ⟨?_, hcr.trans e2, ?_⟩
      · simp only [fdU, if_pos zk, if_pos zg, e1]
      · rw [tr_on zk, tr_on zg, e3, adj_mir hs (hq k hk) huk he]
        simp only [fdU, if_pos zk]
    · right
      rw [ib_t zk, ib_f zg, if_pos (by omega)] at hcr
      have hm : mir s L (S k) = S g := by
        rw [e3]
        refine adj_sep hs hd (hq k hk) huk he (fun q => zg ?_)
        unfold mvS
        rw [e3]
        exact q.mp zk
      have hm2 : mir s L (S g) = S k := by rw [← hm, mir_mir hs (hq k hk)]
      have eu : fdU S s L d u k = ib (¬ u k = 1) := if_pos zk
      have eug : fdU S s L d u g = u g := if_neg zg
      have el : fdL (4 * n * n) S s L d ov l k = (cnS (4 * n * n) S (S k) - 1 - l k) + (if ov = 0 then 0 else cnS (4 * n * n) S (S g)) := by rw [← hm]; exact if_pos zk
      have elg : fdL (4 * n * n) S s L d ov l g = l g + (if ov = 0 then cnS (4 * n * n) S (S k) else 0) := by rw [← hm2]; exact if_neg zg
      refine ⟨?_, by rw [tr_off zg, tr_on zk, hm], ?_, ?_⟩
      · rw [eu, eug, ← e1]; rcases huk with q | q <;> rw [q] <;> decide
      · rw [el, elg]; split <;> omega
      · rw [hcr]
        have hlt : ov = 0 → fdL (4 * n * n) S s L d ov l k < fdL (4 * n * n) S s L d ov l g := fun z => by rw [el, elg, if_pos z, if_pos z]; omega
        have hge : ov = 1 → ¬ fdL (4 * n * n) S s L d ov l k < fdL (4 * n * n) S s L d ov l g := fun z => by rw [el, elg, if_neg (by omega), if_neg (by omega)]; omega
        unfold knd
        rcases ho with z | z
        · rw [if_pos (hlt z), eu, z]
          rcases huk with q | q <;> rw [q] <;> decide
        · rw [if_neg (hge z), eug, ← e1, z]
          rcases huk with q | q <;> rw [q] <;> decide
    · right
      rw [ib_f zk, ib_t zg, if_pos (by omega)] at hcr
      have hm : mir s L (S k) = S g := by
        rw [e3]
        refine adj_sep hs hd (hq k hk) huk he (fun q => zk ?_)
        have : mvS S s L d g = isOn (stp s (adj (S k) e (u k))) L d := by unfold mvS; rw [e3]
        rw [this] at zg
        exact q.mpr zg
      have hm2 : mir s L (S g) = S k := by rw [← hm, mir_mir hs (hq k hk)]
      have eu : fdU S s L d u k = u k := if_neg zk
      have eug : fdU S s L d u g = ib (¬ u g = 1) := if_pos zg
      have el : fdL (4 * n * n) S s L d ov l g = (cnS (4 * n * n) S (S g) - 1 - l g) + (if ov = 0 then 0 else cnS (4 * n * n) S (S k)) := by rw [← hm2]; exact if_pos zg
      have elg : fdL (4 * n * n) S s L d ov l k = l k + (if ov = 0 then cnS (4 * n * n) S (S g) else 0) := by rw [← hm]; exact if_neg zk
      refine ⟨?_, by rw [tr_on zg, tr_off zk, hm2], ?_, ?_⟩
      · rw [eu, eug, ← e1]; rcases huk with q | q <;> rw [q] <;> decide
      · rw [el, elg]; split <;> omega
      · rw [hcr]
        have hlt : ov = 1 → fdL (4 * n * n) S s L d ov l k < fdL (4 * n * n) S s L d ov l g := fun z => by rw [el, elg, if_neg (by omega), if_neg (by omega)]; omega
        have hge : ov = 0 → ¬ fdL (4 * n * n) S s L d ov l k < fdL (4 * n * n) S s L d ov l g := fun z => by rw [el, elg, if_pos z, if_pos z]; omega
        unfold knd
        rcases ho with z | z
        · rw [if_neg (hge z), eug, ← e1, z]
          rcases huk with q | q <;> rw [q] <;> decide
        · rw [if_pos (hlt z), eu, z]
          rcases huk with q | q <;> rw [q] <;> decide
    · left
      rw [ib_f zk, ib_f zg, if_neg (by omega)] at hcr
      refine ⟨?_, hcr.trans e2, ?_⟩
      · simp only [fdU, if_neg zk, if_neg zg, e1]
      · rw [tr_off zk, tr_off zg, e3]
        simp only [fdU, if_neg zk]
  · right
    have hz : mvS S s L d k ↔ mvS S s L d g := by unfold mvS; rw [e2]
    have hcr2 : cr2 (3 * k + e) = knd l u k g := by
      rw [hcr, if_neg (fun q => q (ib_c hz)), e4]
    refine ⟨?_, by unfold trS; rw [e2], ?_, ?_⟩
    · unfold fdU
      by_cases z : mvS S s L d k
      · rw [if_pos z, if_pos (hz.mp z)]
        rcases huk with q | q <;> rcases hug with q2 | q2 <;> rw [q, q2] at e1 ⊢ <;> first | exact absurd rfl e1 | decide
      · rw [if_neg z, if_neg (fun y => z (hz.mpr y))]; exact e1
    · by_cases z : mvS S s L d k
      · have ek : fdL (4 * n * n) S s L d ov l k = (cnS (4 * n * n) S (S k) - 1 - l k) + (if ov = 0 then 0 else cnS (4 * n * n) S (mir s L (S k))) := if_pos z
        have eg : fdL (4 * n * n) S s L d ov l g = (cnS (4 * n * n) S (S g) - 1 - l g) + (if ov = 0 then 0 else cnS (4 * n * n) S (mir s L (S g))) := if_pos (hz.mp z)
        rw [e2] at eg
        rw [ek, eg]; omega
      · have ek : fdL (4 * n * n) S s L d ov l k = l k + (if ov = 0 then cnS (4 * n * n) S (mir s L (S k)) else 0) := if_neg z
        have eg : fdL (4 * n * n) S s L d ov l g = l g + (if ov = 0 then cnS (4 * n * n) S (mir s L (S g)) else 0) := if_neg (fun y => z (hz.mpr y))
        rw [e2] at eg
        rw [ek, eg]; omega
    · rw [hcr2]
      by_cases z : mvS S s L d k
      · have ek : fdL (4 * n * n) S s L d ov l k = (cnS (4 * n * n) S (S k) - 1 - l k) + (if ov = 0 then 0 else cnS (4 * n * n) S (mir s L (S k))) := if_pos z
        have eg : fdL (4 * n * n) S s L d ov l g = (cnS (4 * n * n) S (S g) - 1 - l g) + (if ov = 0 then 0 else cnS (4 * n * n) S (mir s L (S g))) := if_pos (hz.mp z)
        rw [e2] at eg
        have hi : fdL (4 * n * n) S s L d ov l k < fdL (4 * n * n) S s L d ov l g ↔ l g < l k := by rw [ek, eg]; omega
        have uk : fdU S s L d u k = ib (¬ u k = 1) := if_pos z
        have ug : fdU S s L d u g = ib (¬ u g = 1) := if_pos (hz.mp z)
        unfold knd
        rw [uk, ug]
        by_cases y : l k < l g
        · have hng : ¬ fdL (4 * n * n) S s L d ov l k < fdL (4 * n * n) S s L d ov l g := fun q => by have := hi.mp q; omega
          rw [if_pos y, if_neg hng]
          rcases huk with q | q <;> rcases hug with q2 | q2 <;> rw [q, q2] at e1 <;> first | exact absurd rfl e1 | (rw [q, q2]; decide) | (rw [q2]; rw [q]; decide)
        · rw [if_neg y, if_pos (hi.mpr (by omega))]
          rcases huk with q | q <;> rcases hug with q2 | q2 <;> rw [q, q2] at e1 <;> first | exact absurd rfl e1 | (rw [q, q2]; decide) | (rw [q2]; rw [q]; decide)
      · have ek : fdL (4 * n * n) S s L d ov l k = l k + (if ov = 0 then cnS (4 * n * n) S (mir s L (S k)) else 0) := if_neg z
        have eg : fdL (4 * n * n) S s L d ov l g = l g + (if ov = 0 then cnS (4 * n * n) S (mir s L (S g)) else 0) := if_neg (fun y => z (hz.mpr y))
        rw [e2] at eg
        have hi : fdL (4 * n * n) S s L d ov l k < fdL (4 * n * n) S s L d ov l g ↔ l k < l g := by rw [ek, eg]; omega
        have uk : fdU S s L d u k = u k := if_neg z
        have ug : fdU S s L d u g = u g := if_neg (fun y => z (hz.mpr y))
        unfold knd
        rw [uk, ug]
        by_cases y : l k < l g
        · rw [if_pos y, if_pos (hi.mpr y)]
        · rw [if_neg y, if_neg (fun q => y (hi.mp q))]
/-- a fold keeps it -/
theorem GEO.fold (h : GEO n m S l u cr) (hs : 0 ≤ s ∧ s ≤ 3) (hd : d = 0 ∨ d = 1) (ho : ov = 0 ∨ ov = 1) (hcx : crS (4 * n * n) S s L) {cr2 : Nat → Int} (hcr : ∀ k e g : Nat, k < 4 * n * n → e < 3 → g < 4 * n * n → nb n k e = (g : Int) → cr2 (3 * k + e) = if ib (mvS S s L d k) ≠ ib (mvS S s L d g) then (if ov = u k then 1 else 2) else cr (3 * k + e)) : GEO n (m + 1) (trS S s L d) (fdL (4 * n * n) S s L d ov l) (fdU S s L d u) cr2 := by
  refine ⟨?_, fun k hk => h.bnd hs hd ho hk, fun k hk => h.tops hs hd ho hk, fun k hk => fdU_01 (h.2.2.2.1 k hk), fun k e g hk he hg hnb => h.crs hs hd ho hk he hg hnb (hcr k e g hk he hg hnb)⟩
  have e : 5 + 5 * ((m + 1 : Nat) : Int) = 5 + 5 * (m : Int) + 5 := by omega
  rw [e]
  exact h.1.trk hs hd hcx
end GEOFOLD
