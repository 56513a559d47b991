/-! ===== the reference's search: pure words ===== -/
def al (s : Int) (p : pl) : Int := alo s p.1 p.2.1 p.2.2
def loP (P : Nat → Prop) [DecidablePred P] (s : Int) (S : lys) (n : Nat) : Int := match n with
  | 0 => 1000000
  | f + 1 => if P f then min (loP P s S f) (al s (S f)) else loP P s S f
def hiP (P : Nat → Prop) [DecidablePred P] (s : Int) (S : lys) (n : Nat) : Int := match n with
  | 0 => -1000000
  | f + 1 => if P f then max (hiP P s S f) (al s (S f)) else hiP P s S f
theorem lo_gt {P : Nat → Prop} [DecidablePred P] {s : Int} {S : lys} {c : Int} (hc : c < 1000000) : ∀ n, c < loP P s S n ↔ ∀ f, f < n → P f → c < al s (S f)
  | 0 => ⟨fun _ f h => absurd h (Nat.not_lt_zero _), fun _ => hc⟩
  | n + 1 => by
    have ih := lo_gt (P := P) (s := s) (S := S) hc n
    simp only [loP]
    constructor
    · intro h f hf hp
      rcases Nat.lt_succ_iff_lt_or_eq.mp hf with q | q
      · refine ih.mp ?_ f q hp
        split at h <;> omega
      · subst q
        rw [if_pos hp] at h
        omega
    · intro h
      have h1 := ih.mpr (fun f hf hp => h f (by omega) hp)
      split
      · rename_i hp
        have := h n (by omega) hp
        omega
      · exact h1
theorem hi_lt {P : Nat → Prop} [DecidablePred P] {s : Int} {S : lys} {c : Int} (hc : -1000000 < c) : ∀ n, hiP P s S n < c ↔ ∀ f, f < n → P f → al s (S f) < c
  | 0 => ⟨fun _ f h => absurd h (Nat.not_lt_zero _), fun _ => hc⟩
  | n + 1 => by
    have ih := hi_lt (P := P) (s := s) (S := S) hc n
    simp only [hiP]
    constructor
    · intro h f hf hp
      rcases Nat.lt_succ_iff_lt_or_eq.mp hf with q | q
      · refine ih.mp ?_ f q hp
        split at h <;> omega
      · subst q
        rw [if_pos hp] at h
        omega
    · intro h
      have h1 := ih.mpr (fun f hf hp => h f (by omega) hp)
      split
      · rename_i hp
        have := h n (by omega) hp
        omega
      · exact h1
theorem lo_b {P : Nat → Prop} [DecidablePred P] {s : Int} {S : lys} {n : Nat} (h : ∀ f, f < n → -10000 ≤ al s (S f)) : -10000 ≤ loP P s S n ∧ loP P s S n ≤ 1000000 := by
  induction n with
  | zero => simp only [loP]; omega
  | succ n ih =>
    have h1 := ih (fun f hf => h f (by omega))
    have h2 := h n (by omega)
    simp only [loP]
    split <;> omega
theorem hi_b {P : Nat → Prop} [DecidablePred P] {s : Int} {S : lys} {n : Nat} (h : ∀ f, f < n → al s (S f) ≤ 10000) : -1000000 ≤ hiP P s S n ∧ hiP P s S n ≤ 10000 := by
  induction n with
  | zero => simp only [hiP]; omega
  | succ n ih =>
    have h1 := ih (fun f hf => h f (by omega))
    have h2 := h n (by omega)
    simp only [hiP]
    split <;> omega
theorem al_st {s : Int} {p : pl} (hs : 0 ≤ s ∧ s ≤ 3) (hq : 0 ≤ p.2.2 ∧ p.2.2 ≤ 3) : 6 * stp s p < al s p ∧ al s p < 6 * stp s p + 6 := alo_st hs hq
theorem al_b {s : Int} {p : pl} (hs : 0 ≤ s ∧ s ≤ 3) (h : okp 100 p) : -10000 ≤ al s p ∧ al s p ≤ 10000 := by
  have h1 := al_st hs h.2.2
  have h2 := stp_rg (s := s) h
  omega
theorem cro_is {N : Nat} {S : lys} {s k : Int} (hs : 0 ≤ s ∧ s ≤ 3) (hk : -24 ≤ k ∧ k ≤ 48) (hb : ∀ f, f < N → okp 100 (S f)) : (loP (fun _ => True) s S N < 6 * k ∧ 6 * k < hiP (fun _ => True) s S N) ↔ crS N S s k := by
  have h1 := lo_gt (P := fun _ => True) (s := s) (S := S) (c := 6 * k - 1) (by omega) N
  have h2 := hi_lt (P := fun _ => True) (s := s) (S := S) (c := 6 * k + 1) (by omega) N
  constructor
  · intro ⟨ha, hc⟩
    constructor
    · apply Decidable.byContradiction
      intro z
      have : 6 * k - 1 < loP (fun _ => True) s S N := h1.mpr (fun f hf _ => by
        have h3 := al_st (s := s) hs (hb f hf).2.2
        have h4 : ¬ stp s (S f) < k := fun q => z ⟨f, hf, q⟩
        omega)
      omega
    · apply Decidable.byContradiction
      intro z
      have : hiP (fun _ => True) s S N < 6 * k + 1 := h2.mpr (fun f hf _ => by
        have h3 := al_st (s := s) hs (hb f hf).2.2
        have h4 : ¬ k ≤ stp s (S f) := fun q => z ⟨f, hf, q⟩
        omega)
      omega
  · intro ⟨⟨f, hf, hf2⟩, ⟨g, hg, hg2⟩⟩
    have a1 := al_st (s := s) hs (hb f hf).2.2
    have a2 := al_st (s := s) hs (hb g hg).2.2
    constructor
    · apply Decidable.byContradiction
      intro z
      have := h1.mp (by omega) f hf trivial
      omega
    · apply Decidable.byContradiction
      intro z
      have := h2.mp (by omega) g hg trivial
      omega
/-- a cut, as the reference tests it -/
def ctOk (N : Nat) (F : Nat → Int) (S : lys) (s : Int) (d : Int) (k : Int) : Prop := if d = 1 then hiP (fun f => ¬ F f = 1) s S N < 6 * k ∧ 6 * k < loP (fun f => F f = 1) s S N else hiP (fun f => F f = 1) s S N < 6 * k ∧ 6 * k < loP (fun f => ¬ F f = 1) s S N
theorem mx_lt {F : Nat → Int} {S : lys} {K s k : Int} {N : Nat} (hk : -24 ≤ k) : mxS F S K s N < k ↔ ∀ f, f < N → F f = K → stp s (S f) < k := by
  obtain ⟨h1, h2, h3⟩ := mxS_le (F := F) (S := S) (K := K) (s := s) N
  constructor
  · intro h f hf hK
    have := h2 f hf hK
    omega
  · intro h
    rcases h3 with z | ⟨f, hf, hK, z⟩
    · omega
    · have := h f hf hK
      omega
theorem mn_gt {F : Nat → Int} {S : lys} {K s k : Int} {N : Nat} (hk : k ≤ 48) : k ≤ mnS F S K s N ↔ ∀ f, f < N → F f = K → k ≤ stp s (S f) := by
  obtain ⟨h1, h2, h3⟩ := mnS_le (F := F) (S := S) (K := K) (s := s) N
  constructor
  · intro h f hf hK
    have := h2 f hf hK
    omega
  · intro h
    rcases h3 with z | ⟨f, hf, hK, z⟩
    · omega
    · have := h f hf hK
      omega
theorem hi_mx {N : Nat} {P : Nat → Prop} [DecidablePred P] {F : Nat → Int} {S : lys} {s k K : Int} (hs : 0 ≤ s ∧ s ≤ 3) (hk : -24 ≤ k ∧ k ≤ 48) (hb : ∀ f, f < N → okp 100 (S f)) (hP : ∀ f, f < N → (P f ↔ F f = K)) : hiP P s S N < 6 * k ↔ mxS F S K s N < k := by
  rw [hi_lt (by omega), mx_lt hk.1]
  constructor
  · intro h f hf hK
    have h1 := al_st (s := s) hs (hb f hf).2.2
    have h2 := h f hf ((hP f hf).mpr hK)
    omega
  · intro h f hf hp
    have h1 := al_st (s := s) hs (hb f hf).2.2
    have h2 := h f hf ((hP f hf).mp hp)
    omega
theorem lo_mn {N : Nat} {P : Nat → Prop} [DecidablePred P] {F : Nat → Int} {S : lys} {s k K : Int} (hs : 0 ≤ s ∧ s ≤ 3) (hk : -24 ≤ k ∧ k ≤ 48) (hb : ∀ f, f < N → okp 100 (S f)) (hP : ∀ f, f < N → (P f ↔ F f = K)) : 6 * k < loP P s S N ↔ k ≤ mnS F S K s N := by
  rw [lo_gt (by omega), mn_gt hk.2]
  constructor
  · intro h f hf hK
    have h1 := al_st (s := s) hs (hb f hf).2.2
    have h2 := h f hf ((hP f hf).mpr hK)
    omega
  · intro h f hf hp
    have h1 := al_st (s := s) hs (hb f hf).2.2
    have h2 := h f hf ((hP f hf).mp hp)
    omega
theorem ctOk_is {N s d kk : Nat} {F : Nat → Int} {S : lys} (hF : ∀ f, f < N → F f = 0 ∨ F f = 1) (hs : s < 4) (hd : d < 2) (hk : kk < 73) (hb : ∀ f, f < N → okp 100 (S f)) : ctOk N F S (s : Int) (d : Int) ((kk : Int) - 24) ↔ (fcS N F S s d ≤ (kk : Int) - 24 ∧ (kk : Int) - 24 ≤ lcS N F S s d) := by
  have p1 : ∀ f, f < N → (F f = 1 ↔ F f = 1) := fun f hf => Iff.rfl
  have p0 : ∀ f, f < N → (¬ F f = 1 ↔ F f = 0) := fun f hf => by have := hF f hf; omega
  have hs2 : (0 : Int) ≤ (s : Int) ∧ (s : Int) ≤ 3 := by omega
  have hk2 : -24 ≤ (kk : Int) - 24 ∧ (kk : Int) - 24 ≤ 48 := by omega
  unfold ctOk fcS lcS
  rcases (by omega : d = 0 ∨ d = 1) with rfl | rfl
  · rw [if_neg (by decide), if_pos rfl, if_pos rfl, hi_mx hs2 hk2 hb p1, lo_mn hs2 hk2 hb p0]
    omega
  · rw [if_pos (show ((1 : Nat) : Int) = 1 from rfl), if_neg (by decide), if_neg (by decide), hi_mx hs2 hk2 hb p0, lo_mn hs2 hk2 hb p1]
    omega
theorem sm_cnt {a b : Int} (ha : -24 ≤ a) : ∀ n : Nat, (sm (fun kk => ib (a ≤ (kk : Int) - 24 ∧ (kk : Int) - 24 ≤ b)) n) = max 0 (min b ((n : Int) - 25) - a + 1)
  | 0 => by rw [sm_0]; omega
  | n + 1 => by
    rw [sm_s, sm_cnt ha n]
    by_cases z : a ≤ (n : Int) - 24 ∧ (n : Int) - 24 ≤ b
    · rw [ib_t z]; omega
    · rw [ib_f z]; omega
abbrev cuO (N : Nat) (F : Nat → Int) (S : lys) (s d kk : Nat) : Prop := fcS N F S s d ≤ (kk : Int) - 24 ∧ (kk : Int) - 24 ≤ lcS N F S s d
theorem cutN_sm (N : Nat) (F : Nat → Int) (S : lys) : sm (fun s => sm (fun kk => sm (fun d => ib (cuO N F S s d kk)) 2) 73) 4 = cutN N F S := by
  unfold cutN
  refine sm_c (fun s _ => ?_)
  have e : sm (fun kk => sm (fun d => ib (cuO N F S s d kk)) 2) 73 = sm (fun kk => ib (cuO N F S s 0 kk) + ib (cuO N F S s 1 kk)) 73 := sm_c (fun kk _ => by rw [sm_s, sm_s, sm_0]; omega)
  have h : ∀ d, sm (fun kk => ib (cuO N F S s d kk)) 73 = max 0 (lcS N F S s d - fcS N F S s d + 1) := by
    intro d
    rw [sm_cnt (show -24 ≤ fcS N F S s d by unfold fcS; omega) 73]
    have : lcS N F S s d ≤ 48 := by unfold lcS; omega
    omega
  rw [e, sm_add, h, h, sm_s, sm_s, sm_0]
  omega
/-- the first cut told, so far -/
def beS (P : Nat → Prop) (Q : Nat → Prop) (b : Int) : Prop := (b = -99999 ∧ ∀ t, Q t → ¬ P t) ∨ (∃ t : Nat, b = (t : Int) ∧ t < 584 ∧ Q t ∧ P t ∧ ∀ j, Q j → P j → t ≤ j)
theorem beS.rg {P Q : Nat → Prop} {b : Int} (h : beS P Q b) : -99999 ≤ b ∧ b ≤ 584 := by
  rcases h with ⟨h, _⟩ | ⟨t, h, _⟩ <;> omega
theorem beS.cong {P Q Q' : Nat → Prop} {b : Int} (h : beS P Q b) (e : ∀ t, t < 584 → (Q t ↔ Q' t)) (hQ : ∀ t, Q t → t < 584) (hQ' : ∀ t, Q' t → t < 584) : beS P Q' b := by
  have ee : ∀ t, Q t ↔ Q' t := fun t => ⟨fun z => (e t (hQ t z)).mp z, fun z => (e t (hQ' t z)).mpr z⟩
  rcases h with ⟨h1, h2⟩ | ⟨t, h1, h2, h3, h4, h5⟩
  · exact Or.inl ⟨h1, fun t hq => h2 t ((ee t).mpr hq)⟩
  · exact Or.inr ⟨t, h1, h2, (ee t).mp h3, h4, fun j hj => h5 j ((ee j).mpr hj)⟩
theorem beS.no {P Q : Nat → Prop} {b : Int} {t0 : Nat} (h : beS P Q b) (hp : ¬ P t0) : beS P (fun t => Q t ∨ t = t0) b := by
  rcases h with ⟨h1, h2⟩ | ⟨t, h1, h2, h3, h4, h5⟩
  · exact Or.inl ⟨h1, fun t hq hpt => by rcases hq with z | z; exact h2 t z hpt; subst z; exact hp hpt⟩
  · exact Or.inr ⟨t, h1, h2, Or.inl h3, h4, fun j hj hpj => by rcases hj with z | z; exact h5 j z hpj; subst z; exact absurd hpj hp⟩
theorem beS.keep {P Q : Nat → Prop} {b : Int} {t0 : Nat} (h : beS P Q b) (h1 : b ≠ -99999) (h2 : ¬ (t0 : Int) < b) : beS P (fun t => Q t ∨ t = t0) b := by
  rcases h with ⟨z, _⟩ | ⟨t, q1, q2, q3, q4, q5⟩
  · exact absurd z h1
  · exact Or.inr ⟨t, q1, q2, Or.inl q3, q4, fun j hj hpj => by rcases hj with z | z; exact q5 j z hpj; omega⟩
theorem beS.take {P Q : Nat → Prop} {b : Int} {t0 : Nat} (h : beS P Q b) (hp : P t0) (ht : t0 < 584) (h2 : b = -99999 ∨ (t0 : Int) < b) : beS P (fun t => Q t ∨ t = t0) (t0 : Int) := by
  refine Or.inr ⟨t0, rfl, ht, Or.inr rfl, hp, fun j hj hpj => ?_⟩
  rcases hj with z | z
  · rcases h with ⟨_, q2⟩ | ⟨t, q1, q2, q3, q4, q5⟩
    · exact absurd hpj (q2 j z)
    · have := q5 j z hpj
      omega
  · omega
theorem beS.first {N : Nat} {F : Nat → Int} {S : lys} {b : Int} (h : beS (cutOk N F S) (fun t => t < 584) b) (hc : 0 < cutN N F S) : b = ((lstT (cutOk N F S) 584 : Nat) : Int) := by
  rcases h with ⟨_, h2⟩ | ⟨t, h1, h2, h3, h4, h5⟩
  · exfalso
    rw [← cutN_sm] at hc
    obtain ⟨s, hs, h6⟩ := sm_pos 4 hc
    obtain ⟨kk, hk, h7⟩ := sm_pos 73 h6
    obtain ⟨d, hd, h8⟩ := sm_pos 2 h7
    have h9 : cuO N F S s d kk := by
      apply Decidable.byContradiction
      intro z
      rw [ib_f z] at h8
      omega
    obtain ⟨e1, e2, e3⟩ := T_dec (kk := kk) hs hd
    exact h2 (8 * kk + 2 * s + d) (by omega) (by unfold cutOk; rw [e1, e2, e3]; exact h9)
  · rw [h1, lstT_is h4 (fun j hj hpj => by have := h5 j (by omega) hpj; omega) 584 h2]
theorem cutN_0 {N : Nat} {F : Nat → Int} {S : lys} (h : ¬ 0 < cutN N F S) : cutN N F S = 0 := by
  have := cutN_rg N F S
  omega
/-- where a place is marked -/
def pI (p : pl) : Int := 4 * (64 * (p.2.1 + 32) + p.1 + 32) + p.2.2
theorem pI_rg {p : pl} (h : okp 31 p) : 0 ≤ pI p ∧ pI p < 16384 := by
  unfold pI; omega
theorem pI_inj {p r : pl} (h : okp 31 p) (h2 : okp 31 r) (e : pI p = pI r) : p = r := by
  obtain ⟨x, y, q⟩ := p
  obtain ⟨x2, y2, q2⟩ := r
  simp only [pI, okp] at h h2 e
  have e1 : x = x2 := by omega
  have e2 : y = y2 := by omega
  have e3 : q = q2 := by omega
  rw [e1, e2, e3]
def mkO (F : Nat → Int) (Tr : lys) (st : Int) (mk : Nat → Int) (f : Nat) : Prop := (∀ p : Nat, p < 16384 → 0 ≤ mk p ∧ mk p ≤ st + 1) ∧ ∀ p : Nat, p < 16384 → (mk p < st ∧ ∀ g, g < f → pI (Tr g) ≠ (p : Int)) ∨ (∃ g, g < f ∧ pI (Tr g) = (p : Int) ∧ mk p = st + F g)
def cnO (F : Nat → Int) (Tr : lys) (f : Nat) : Prop := ∀ g h, g < f → h < f → Tr g = Tr h → F g = F h
theorem mkO.step {F : Nat → Int} {Tr : lys} {st : Int} {mk : Nat → Int} {f p N : Nat} (h : mkO F Tr st mk f) (hf : f < N) (hF : ∀ f, f < N → F f = 0 ∨ F f = 1) (hst : 0 ≤ st) (hp : pI (Tr f) = (p : Int)) : mkO F Tr st (w1 mk p (st + F f)) (f + 1) := by
  have hFf := hF f hf
  refine ⟨fun r hr => ?_, fun r hr => ?_⟩
  · by_cases z : r = p
    · subst z; simp only [w1, if_true]; omega
    · simp only [w1, z, if_false]; exact h.1 r hr
  · by_cases z : r = p
    · subst z
      exact Or.inr ⟨f, by omega, hp, by simp [w1]⟩
    · rcases h.2 r hr with ⟨q1, q2⟩ | ⟨g, q1, q2, q3⟩
      · refine Or.inl ⟨by simp only [w1, z, if_false]; exact q1, fun g hg => ?_⟩
        rcases Nat.lt_succ_iff_lt_or_eq.mp hg with q | q
        · exact q2 g q
        · subst q; omega
      · exact Or.inr ⟨g, by omega, q2, by simp only [w1, z, if_false]; exact q3⟩
theorem mkO.fit {F : Nat → Int} {Tr : lys} {st : Int} {mk : Nat → Int} {f p N : Nat} (h : mkO F Tr st mk f) (hc : cnO F Tr f) (hf : f < N) (hF : ∀ f, f < N → F f = 0 ∨ F f = 1) (hb : ∀ g, g < N → okp 31 (Tr g)) (hp : pI (Tr f) = (p : Int)) (hp2 : p < 16384) : (mk p < st ∨ mk p = st + F f) ↔ cnO F Tr (f + 1) := by
  have key : (mk p < st ∨ mk p = st + F f) ↔ ∀ g, g < f → Tr g = Tr f → F g = F f := by
    rcases h.2 p hp2 with ⟨q1, q2⟩ | ⟨g, q1, q2, q3⟩
    · exact ⟨fun _ g hg e => absurd (by rw [e]; exact hp) (q2 g hg), fun _ => Or.inl q1⟩
    · have eg : Tr g = Tr f := pI_inj (hb g (by omega)) (hb f hf) (by omega)
      have := hF g (by omega)
      constructor
      · intro z g2 hg2 e2
        have h5 := hc g2 g hg2 q1 (e2.trans eg.symm)
        omega
      · intro z
        have := z g q1 eg
        right
        omega
  rw [key]
  constructor
  · intro z g h2 hg hh e
    rcases Nat.lt_succ_iff_lt_or_eq.mp hg with a | a <;> rcases Nat.lt_succ_iff_lt_or_eq.mp hh with b | b
    · exact hc g h2 a b e
    · subst b; exact z g a e
    · subst a; exact (z h2 b e.symm).symm
    · subst a; subst b; rfl
  · intro z g hg e
    exact z g f (by omega) (by omega) e
theorem mkO.zero {F : Nat → Int} {Tr : lys} {st : Int} {mk : Nat → Int} (h : ∀ p : Nat, p < 16384 → 0 ≤ mk p ∧ mk p < st) : mkO F Tr st mk 0 := ⟨fun p hp => by have := h p hp; omega, fun p hp => Or.inl ⟨(h p hp).2, fun g hg => absurd hg (Nat.not_lt_zero _)⟩⟩
theorem cnO.zero (F : Nat → Int) (Tr : lys) : cnO F Tr 0 := fun g _ hg => absurd hg (Nat.not_lt_zero _)
theorem cnO.mono {F : Nat → Int} {Tr : lys} {f N : Nat} (h : cnO F Tr N) (hf : f ≤ N) : cnO F Tr f := fun g h2 a b e => h g h2 (by omega) (by omega) e
theorem cnO_fit {R : Int} {N t : Nat} {F : Nat → Int} {S : lys} (hb : BOX R N S) (hc : CNS N F S) : cnO F (nxS S t) N ↔ fitS N F S (tS t : Int) (tK t) := by
  have hs : (0 : Int) ≤ (tS t : Int) ∧ (tS t : Int) ≤ 3 := by have := tS_rg t; omega
  have hd : (tD t : Int) = 0 ∨ (tD t : Int) = 1 := by have := tD_rg t; omega
  constructor
  · intro h
    exact CNS.of hb hs hd (d := (tD t : Int)) (fun f g hf hg e => h f g hf hg e)
  · intro h
    have h1 := CNS.trk (d := (tD t : Int)) hb hc hs h
    exact fun f g hf hg e => h1 f g hf hg e
