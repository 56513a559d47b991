/-! ===== both worlds: what they have in common ===== -/
def pP (w : wd) (a : Nat) : lys := fun k => (w a k, w (a + 1) k, w (a + 2) k)
def HTW (N : Nat) (w : wd) : Prop := ∀ s, s < 1024 → w 11 s = sm (fun k => ib (psp w k = (s : Int))) N
theorem GEO.c {n m : Nat} {S S2 : lys} {l u cr l2 u2 cr2 : Nat → Int} (h : GEO n m S l u cr) (e : ∀ k, k < 4 * n * n → S2 k = S k ∧ l2 k = l k ∧ u2 k = u k) (ec : ∀ k e, k < 4 * n * n → e < 3 → cr2 (3 * k + e) = cr (3 * k + e)) : GEO n m S2 l2 u2 cr2 := by
  obtain ⟨hb, hl, ht, hu, hc⟩ := h
  have hcn : ∀ p, cnS (4 * n * n) S2 p = cnS (4 * n * n) S p := fun p => sm_c (fun j hj => by rw [(e j hj).1])
  refine ⟨⟨fun f hf => by rw [(e f hf).1]; exact hb.1 f hf, fun f g hf hg => by rw [(e f hf).1, (e g hg).1]; exact hb.2 f g hf hg⟩, fun k hk => ?_, fun k hk => ?_, fun k hk => by rw [(e k hk).2.2]; exact hu k hk, fun k e9 g hk he hg hnb => ?_⟩
  · rw [(e k hk).1, (e k hk).2.1, hcn]; exact hl k hk
  · obtain ⟨⟨j, a, b, c⟩, ⟨i, a2, b2, c2⟩⟩ := ht k hk
    refine ⟨⟨j, a, ?_, ?_⟩, ⟨i, a2, ?_, ?_⟩⟩
    · rw [(e j a).1, (e k hk).1]; exact b
    · rw [(e j a).2.1]; exact c
    · rw [(e i a2).1, (e k hk).1]; exact b2
    · rw [(e i a2).2.1, (e k hk).1, hcn]; exact c2
  · have h9 := hc k e9 g hk he hg hnb
    unfold CRR knd at h9 ⊢
    rw [(e k hk).1, (e k hk).2.1, (e k hk).2.2, (e g hg).1, (e g hg).2.1, (e g hg).2.2, ec k e9 hk he]
    exact h9
theorem cn_le {N : Nat} {S : lys} {p : pl} : cnS N S p ≤ N := (sm_b (f := fun j => ib (S j = p)) (fun _ => ib_01) N).2
theorem toN {s : Int} (h : 0 ≤ s) : ((s.toNat : Nat) : Int) = s := Int.toNat_of_nonneg h
theorem psp_spt (w : wd) (k : Nat) : psp w k = spt (pP w 6 k) := rfl
theorem nrp_15 {p r : pl} (h : nrp 5 p r) : nrp 15 p r := by unfold nrp at *; omega
theorem ht_cn {R : Int} {N : Nat} {w : wd} (hh : HTW N w) (hb : BOX R N (pP w 6)) {k : Nat} (hk : k < N) : w 11 (psp w k).toNat = cnS N (pP w 6) (pP w 6 k) := by
  have hr := spt_rg (pP w 6 k)
  have h9 : (psp w k).toNat < 1024 := by rw [psp_spt]; omega
  rw [hh _ h9]
  refine sm_c (fun j hj => ib_c ?_)
  rw [toN (by rw [psp_spt]; omega)]
  constructor
  · intro e
    exact spt_inj (hb.1 j hj).2.2 (hb.1 k hk).2.2 (nrp_15 (hb.2 j k hj hk)) e
  · intro e
    rw [psp_spt, psp_spt, e]
theorem ht_mr {R : Int} {N : Nat} {w : wd} {s L : Int} (hh : HTW N w) (hb : BOX R N (pP w 6)) (hs : 0 ≤ s ∧ s ≤ 3) (hc : crS N (pP w 6) s L) {k : Nat} (hk : k < N) : w 11 (msp s L w k).toNat = cnS N (pP w 6) (mir s L (pP w 6 k)) := by
  have hr := spt_rg (mir s L (pP w 6 k))
  have e0 : msp s L w k = spt (mir s L (pP w 6 k)) := rfl
  have h9 : (msp s L w k).toNat < 1024 := by rw [e0]; omega
  rw [hh _ h9]
  refine sm_c (fun j hj => ib_c ?_)
  rw [toN (by rw [e0]; omega), e0]
  constructor
  · intro e
    exact (spt_inj (mir_q (hb.1 k hk).2.2) (hb.1 j hj).2.2 (hb.nrm hs hc hk hj) e.symm).symm
  · intro e
    rw [psp_spt, e]
theorem pon_mv {s L d : Int} {w : wd} {k : Nat} : pon s L d w k ↔ mvS (pP w 6) s L d k := Iff.rfl
theorem ron_mv {s L d : Int} {w : wd} {k : Nat} : ron s L d w k ↔ mvS (pP w 55) s L d k := Iff.rfl
/-- the class's fold, leaf by leaf -/
theorem tur_at {N : Nat} {s L d ov : Int} {w : wd} {k : Nat} (hk : k < N) : pP (turW N s L d ov w) 6 k = trS (pP w 6) s L d k ∧ turW N s L d ov w 9 k = layB s L d ov w k ∧ turW N s L d ov w 10 k = fdU (pP w 6) s L d (w 10) k := by
  have e1 : ∀ i, pon s L d (layP s L d ov w N) i ↔ pon s L d w i := fun i => Iff.rfl
  refine ⟨?_, ?_, ?_⟩
  · unfold trS trn
    by_cases z : pon s L d w k
    · have z2 : isOn (stp s (pP w 6 k)) L d := z
      rw [if_pos z2]
      have z3 : k < N ∧ pon s L d (layP s L d ov w N) k := ⟨hk, z⟩
      simp only [pP, turW, mesP, flpP]
      simp [z3, layP, mir]
    · have z2 : ¬ isOn (stp s (pP w 6 k)) L d := z
      rw [if_neg z2]
      have z3 : ¬ (k < N ∧ pon s L d (layP s L d ov w N) k) := fun q => z q.2
      simp only [pP, turW, mesP, flpP]
      simp [z3, layP]
  · simp only [turW, mesP, flpP]
    simp [layP, hk]
  · unfold fdU
    by_cases z : pon s L d w k
    · have z2 : mvS (pP w 6) s L d k := z
      rw [if_pos z2]
      have z3 : k < N ∧ pon s L d (layP s L d ov w N) k := ⟨hk, z⟩
      simp only [turW, mesP, flpP]
      simp [z3, layP]
    · have z2 : ¬ mvS (pP w 6) s L d k := z
      rw [if_neg z2]
      have z3 : ¬ (k < N ∧ pon s L d (layP s L d ov w N) k) := fun q => z q.2
      simp only [turW, mesP, flpP]
      simp [z3, layP]
theorem tur_far {N : Nat} {s L d ov : Int} {w : wd} {o k : Nat} (h : (o ≠ 11 ∧ N ≤ k) ∨ (o = 11 ∧ 1024 ≤ k)) : turW N s L d ov w o k = w o k := by
  simp only [turW, mesP, flpP, layP]
  rcases h with ⟨h1, h2⟩ | ⟨h1, h2⟩
  · rw [if_neg (fun q => h1 q.1), if_neg (by omega), if_neg (by omega)]
  · subst h1
    rw [if_neg (by omega)]
    simp
theorem mes_ht {N : Nat} {u : wd} : HTW N (mesP u N) := by
  intro s hs
  have e : ∀ k, psp (mesP u N) k = psp u k := fun k => by simp [psp, mesP]
  simp only [mesP]
  rw [if_pos ⟨trivial, hs⟩]
  refine sm_c (fun k hk => ?_)
  have := e k
  simp only [psp, mesP] at this ⊢
  rfl
theorem lay_fd {n m : Nat} {w : wd} {cr : Nat → Int} {s L d ov : Int} (h : GEO n m (pP w 6) (w 9) (w 10) cr) (hh : HTW (4 * n * n) w) (hs : 0 ≤ s ∧ s ≤ 3) (hc : crS (4 * n * n) (pP w 6) s L) {k : Nat} (hk : k < 4 * n * n) : layB s L d ov w k = fdL (4 * n * n) (pP w 6) s L d ov (w 9) k := by
  have e1 := ht_cn hh h.1 hk
  have e2 := ht_mr hh h.1 hs hc hk
  unfold layB fdL
  rw [e1, e2]
  by_cases z : pon s L d w k
  · rw [if_pos z, if_pos (show mvS (pP w 6) s L d k from z)]
    split <;> omega
  · rw [if_neg z, if_neg (show ¬ mvS (pP w 6) s L d k from z)]
    split <;> omega
/-- turning looks at the pile alone -/
theorem mes_c {N : Nat} {u v : wd} (e : ∀ o, 6 ≤ o → o ≤ 11 → u o = v o) : ∀ o, 6 ≤ o → o ≤ 11 → mesP u N o = mesP v N o := by
  intro o h1 h2
  have e6 := e 6 (by decide) (by decide)
  have e7 := e 7 (by decide) (by decide)
  have e8 := e 8 (by decide) (by decide)
  have eo := e o h1 h2
  funext i
  unfold mesP psp
  rw [e6, e7, e8, eo]
theorem flp_c {N : Nat} {s L d : Int} {u v : wd} (e : ∀ o, 6 ≤ o → o ≤ 11 → u o = v o) : ∀ o, 6 ≤ o → o ≤ 11 → flpP s L d u N o = flpP s L d v N o := by
  intro o h1 h2
  have e6 := e 6 (by decide) (by decide)
  have e7 := e 7 (by decide) (by decide)
  have e8 := e 8 (by decide) (by decide)
  have e10 := e 10 (by decide) (by decide)
  have eo := e o h1 h2
  funext i
  unfold flpP pon pst
  rw [e6, e7, e8, e10, eo]
theorem layB_c {s L d ov : Int} {u v : wd} {i : Nat} (e : ∀ o, 6 ≤ o → o ≤ 11 → u o = v o) : layB s L d ov u i = layB s L d ov v i := by
  have e6 := e 6 (by decide) (by decide)
  have e7 := e 7 (by decide) (by decide)
  have e8 := e 8 (by decide) (by decide)
  have e9 := e 9 (by decide) (by decide)
  have e11 := e 11 (by decide) (by decide)
  unfold layB pon pst psp msp
  rw [e6, e7, e8, e9, e11]
theorem lay_c {N : Nat} {s L d ov : Int} {u v : wd} (e : ∀ o, 6 ≤ o → o ≤ 11 → u o = v o) : ∀ o, 6 ≤ o → o ≤ 11 → layP s L d ov u N o = layP s L d ov v N o := by
  intro o h1 h2
  have eo := e o h1 h2
  funext i
  unfold layP
  rw [layB_c e, eo]
theorem tur_c {N : Nat} {s L d ov : Int} {u v : wd} (e : ∀ o, 6 ≤ o → o ≤ 11 → u o = v o) : ∀ o, 6 ≤ o → o ≤ 11 → turW N s L d ov u o = turW N s L d ov v o := mes_c (flp_c (lay_c e))
theorem redo_c {N M : Nat} {u v : wd} (e : ∀ o, 6 ≤ o → o ≤ 11 → u o = v o) (f : ∀ o i, 12 ≤ o → o ≤ 15 → i < M → u o i = v o i) : ∀ i, i ≤ M → ∀ o, 6 ≤ o → o ≤ 11 → redo N u i o = redo N v i o
  | 0, _, o, h1, h2 => e o h1 h2
  | i + 1, hi, o, h1, h2 => by
    show turW N (u 12 i) (u 13 i) (u 14 i) (u 15 i) (redo N u i) o = turW N (v 12 i) (v 13 i) (v 14 i) (v 15 i) (redo N v i) o
    rw [f 12 i (by decide) (by decide) (by omega), f 13 i (by decide) (by decide) (by omega), f 14 i (by decide) (by decide) (by omega), f 15 i (by decide) (by decide) (by omega)]
    exact tur_c (fun o a b => redo_c e f i (by omega) o a b) o h1 h2
/-- flattening forgets what was turned -/
theorem flat_of {n : Nat} {u v : wd} (hk : ∀ o k, 6 ≤ o → o ≤ 10 → 4 * n * n ≤ k → u o k = v o k) (hs : ∀ s, 1024 ≤ s → u 11 s = v 11 s) : ∀ o, 6 ≤ o → o ≤ 11 → flatW n u o = flatW n v o := by
  intro o h1 h2
  have hsp : ∀ (w : wd) (k : Nat), k < 4 * n * n → psp (sprP n (4 * n * n) w) k = spot (lx n k) (ly n k) (lq k) := fun w k h => by
    simp [psp, sprP, h]
  funext i
  by_cases ho : o = 11
  · subst ho
    by_cases hi : i < 1024
    · simp only [flatW, mesP]
      rw [if_pos ⟨trivial, hi⟩, if_pos ⟨trivial, hi⟩]
      exact sm_c (fun k hk => by rw [hsp u k hk, hsp v k hk])
    · simp only [flatW, mesP]
      rw [if_neg (by omega), if_neg (by omega)]
      simp only [sprP]
      rw [if_neg (by omega), if_neg (by omega)]
      exact hs i (by omega)
  · simp only [flatW, mesP]
    rw [if_neg (by omega), if_neg (by omega)]
    simp only [sprP]
    by_cases hi : i < 4 * n * n
    · have c : i < 4 * n * n ∧ 6 ≤ o ∧ o ≤ 10 := ⟨hi, by omega, by omega⟩
      rw [if_pos c, if_pos c]
    · have c : ¬ (i < 4 * n * n ∧ 6 ≤ o ∧ o ≤ 10) := fun q => hi q.1
      rw [if_neg c, if_neg c]
      exact hk o i (by omega) (by omega) (by omega)
theorem flat_far {n : Nat} {w : wd} {o k : Nat} (h : (o ≠ 11 ∧ 4 * n * n ≤ k) ∨ (o = 11 ∧ 1024 ≤ k)) : flatW n w o k = w o k := by
  simp only [flatW, mesP, sprP]
  rw [if_neg (by omega), if_neg (by omega)]
theorem redo_far {N : Nat} {w : wd} {o k : Nat} (h : (o ≠ 11 ∧ N ≤ k) ∨ (o = 11 ∧ 1024 ≤ k)) : ∀ i, redo N w i o k = w o k
  | 0 => rfl
  | i + 1 => (tur_far h).trans (redo_far h i)
