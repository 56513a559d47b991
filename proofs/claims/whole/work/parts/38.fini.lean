/-! ===== the reference's search: all rows, one behind the other (pure) ===== -/
theorem sm_app (f : Nat → Int) (a : Nat) : ∀ b, sm f (a + b) = sm f a + sm (fun r => f (a + r)) b
  | 0 => by rw [sm_0]; show sm f a = _; omega
  | b + 1 => by
    show sm f (a + b + 1) = _
    rw [sm_s, sm_s, sm_app f a b]
    omega
theorem sm_blk (f : Nat → Int) : ∀ m, sm f (8 * m) = sm (fun kk => sm (fun r => f (8 * kk + r)) 8) m
  | 0 => rfl
  | m + 1 => by
    rw [show 8 * (m + 1) = 8 * m + 8 by omega, sm_app, sm_blk f m]
    rfl
theorem sm_swap (f : Nat → Nat → Int) (n : Nat) : ∀ m, sm (fun a => sm (fun b => f a b) m) n = sm (fun b => sm (fun a => f a b) n) m
  | 0 => by
    rw [sm_0]
    induction n with
    | zero => rfl
    | succ n ih => rw [sm_s, ih]; rfl
  | m + 1 => by
    rw [sm_s, ← sm_swap f n m, ← sm_add]
    exact sm_c (fun k _ => rfl)
theorem sm_mul (c : Int) (f : Nat → Int) : ∀ n, sm (fun k => c * f k) n = c * sm f n
  | 0 => by rw [sm_0, sm_0]; omega
  | n + 1 => by rw [sm_s, sm_s, sm_mul c f n, Int.mul_add]
theorem sm_sh (f : Nat → Int) : ∀ n, sm f (n + 1) = f 0 + sm (fun j => f (j + 1)) n
  | 0 => by rw [sm_s, sm_0, sm_0]; omega
  | n + 1 => by rw [sm_s, sm_sh f n, sm_s]; omega
theorem st_near {s : Int} {p r : pl} (hp : 0 ≤ p.2.2 ∧ p.2.2 ≤ 3) (hr : 0 ≤ r.2.2 ∧ r.2.2 ≤ 3) (h : nrp 5 p r) : -11 ≤ stp s p - stp s r ∧ stp s p - stp s r ≤ 11 := by
  unfold stp strip
  (repeat' split) <;> omega
theorem ib_le {P Q : Prop} [Decidable P] [Decidable Q] (h : P → Q) : ib P ≤ ib Q := by
  by_cases z : P
  · rw [ib_t z, ib_t (h z)]; omega
  · rw [ib_f z]; rcases ib_01 (P := Q) with q | q <;> omega
theorem cross_le {R : Int} {N : Nat} {S : lys} (hb : BOX R N S) : sm (fun t => ib (crS N S (tS t : Int) (tK t))) 584 ≤ 176 := by
  rw [show (584 : Nat) = 8 * 73 from rfl, sm_blk]
  obtain ⟨G, hG⟩ : ∃ G : Nat → Nat → Int, ∀ kk r, G kk r = ib (max (-24) (stp ((r / 2 : Nat) : Int) (S 0) - 10) ≤ (kk : Int) - 24 ∧ (kk : Int) - 24 ≤ stp ((r / 2 : Nat) : Int) (S 0) + 11) := ⟨_, fun _ _ => rfl⟩
  have h1 : sm (fun kk => sm (fun r => ib (crS N S (tS (8 * kk + r) : Int) (tK (8 * kk + r)))) 8) 73 ≤ sm (fun kk => sm (fun r => G kk r) 8) 73 := by
    refine sm_le 73 (fun kk hk => sm_le 8 (fun r hr => ?_))
    rw [hG]
    refine ib_le (fun z => ?_)
    have e1 : tS (8 * kk + r) = r / 2 := by unfold tS; omega
    have e2 : tK (8 * kk + r) = (kk : Int) - 24 := by unfold tK; omega
    rw [e1, e2] at z
    obtain ⟨⟨u, hu, hu2⟩, ⟨v, hv, hv2⟩⟩ := z
    have a1 := st_near (s := ((r / 2 : Nat) : Int)) (hb.1 u hu).2.2 (hb.1 0 (by omega)).2.2 (hb.2 u 0 hu (by omega))
    have a2 := st_near (s := ((r / 2 : Nat) : Int)) (hb.1 v hv).2.2 (hb.1 0 (by omega)).2.2 (hb.2 v 0 hv (by omega))
    omega
  have h3 := sm_swap G 73 8
  have h2 : sm (fun r => sm (fun kk => G kk r) 73) 8 ≤ sm (fun _ => 22 * 1) 8 := by
    refine sm_le 8 (fun r _ => ?_)
    have e : sm (fun kk => G kk r) 73 = _ := sm_c (fun kk _ => hG kk r)
    rw [e, sm_cnt (by omega) 73]
    omega
  rw [sm_mul, sm_one] at h2
  omega
def bud (N : Nat) (F : Nat → Int) (d : Nat) (S : lys) : Int := match d with
  | 0 => 0
  | d + 1 => sm (fun t => 2 * ib (crS N S (tS t : Int) (tK t)) + (if goS N F S t then bud N F d (nxS S t) else 0)) 584
def bfn (N : Nat) (F : Nat → Int) (rem : Nat) (S : lys) (t : Nat) : Int := 2 * ib (crS N S (tS t : Int) (tK t)) + (if goS N F S t then bud N F rem (nxS S t) else 0)
theorem bud_s (N : Nat) (F : Nat → Int) (d : Nat) (S : lys) : bud N F (d + 1) S = sm (bfn N F d S) 584 := rfl
theorem bud_nn (N : Nat) (F : Nat → Int) : ∀ d S, 0 ≤ bud N F d S
  | 0, _ => Int.le_refl _
  | d + 1, S => by
    rw [bud_s]
    refine sm_nn _ (fun t _ => ?_)
    unfold bfn
    have h1 := ib_01 (P := crS N S (tS t : Int) (tK t))
    have h2 := bud_nn N F d (nxS S t)
    split <;> omega
theorem bfn_nn (N : Nat) (F : Nat → Int) (rem : Nat) (S : lys) (t : Nat) : 0 ≤ bfn N F rem S t := by
  unfold bfn
  have h1 := ib_01 (P := crS N S (tS t : Int) (tK t))
  have h2 := bud_nn N F rem (nxS S t)
  split <;> omega
theorem tSd (t : Nat) : (0 : Int) ≤ (tS t : Int) ∧ (tS t : Int) ≤ 3 := by have := tS_rg t; omega
theorem tDd (t : Nat) : (tD t : Int) = 0 ∨ (tD t : Int) = 1 := by have := tD_rg t; omega
theorem bud_le {N : Nat} {F : Nat → Int} : ∀ d {R : Int} {S : lys}, BOX R N S → bud N F d S ≤ 352 * sm (fun j => cnt N F j S) d
  | 0, _, _, _ => by rw [sm_0]; show (0 : Int) ≤ _; omega
  | d + 1, R, S, hb => by
    have h1 : bud N F (d + 1) S ≤ sm (fun t => 2 * ib (crS N S (tS t : Int) (tK t)) + 352 * sm (fun j => if goS N F S t then cnt N F j (nxS S t) else 0) d) 584 := by
      rw [bud_s]
      refine sm_le 584 (fun t _ => ?_)
      unfold bfn
      by_cases z : goS N F S t
      · have h2 := bud_le (N := N) (F := F) d (hb.trk (d := (tD t : Int)) (tSd t) (tDd t) z.1)
        have e : sm (fun j => if goS N F S t then cnt N F j (nxS S t) else 0) d = sm (fun j => cnt N F j (nxS S t)) d := sm_c (fun j _ => if_pos z)
        rw [if_pos z, e]
        have h3 : bud N F d (nxS S t) ≤ 352 * sm (fun j => cnt N F j (nxS S t)) d := h2
        omega
      · have e : 0 ≤ sm (fun j => if goS N F S t then cnt N F j (nxS S t) else 0) d := sm_nn _ (fun j _ => by split; exact cnt_nn _ _ _ _; exact Int.le_refl _)
        rw [if_neg z]
        omega
    rw [sm_add, sm_mul, sm_mul, sm_swap] at h1
    have h3 := cross_le hb
    have h4 : sm (fun j => sm (fun t => if goS N F S t then cnt N F j (nxS S t) else 0) 584) d = sm (fun j => cnt N F (j + 1) S) d := sm_c (fun j _ => rfl)
    rw [h4] at h1
    rw [sm_sh]
    have h5 : cnt N F 0 S = 1 := rfl
    omega
abbrev fin3 : Type := acT × (Int × Int)
def stp3 (N : Nat) (F : Nat → Int) (g rem dep : Nat) (S : lys) (r : Nat → Int) (t : Nat) (z : fin3) : fin3 := (stepW N F g rem dep S r t z.1, (z.2.1 + cfn N F rem S t, z.2.2 + bfn N F rem S t))
def rst3 (f : Nat → fin3 → fin3) (k t : Nat) (z : fin3) : fin3 := match k with
  | 0 => z
  | k + 1 => rst3 f k (t + 1) (f t z)
def lev3 (N : Nat) (F : Nat → Int) (g : Nat) (Sq : Nat → lys) (rq : Nat → Nat → Int) (d : Nat) : Nat → fin3 → fin3 := stp3 N F g (g - 1 - d) d (Sq d) (rq d)
def fini (N : Nat) (F : Nat → Int) (g : Nat) (Sq : Nat → lys) (rq : Nat → Nat → Int) (tq : Nat → Nat) (d t : Nat) (z : fin3) : fin3 := match d with
  | 0 => rst3 (lev3 N F g Sq rq 0) (584 - t) t z
  | d + 1 => fini N F g Sq rq tq d (tq d + 1) (rst3 (lev3 N F g Sq rq (d + 1)) (584 - t) t z)
theorem fini_end {N : Nat} {F : Nat → Int} {g : Nat} {Sq : Nat → lys} {rq : Nat → Nat → Int} {tq : Nat → Nat} {z : fin3} : fini N F g Sq rq tq 0 584 z = z := rfl
theorem fini_pop {N : Nat} {F : Nat → Int} {g d : Nat} {Sq : Nat → lys} {rq : Nat → Nat → Int} {tq : Nat → Nat} {z : fin3} : fini N F g Sq rq tq (d + 1) 584 z = fini N F g Sq rq tq d (tq d + 1) z := rfl
theorem fini_next {N : Nat} {F : Nat → Int} {g : Nat} {Sq : Nat → lys} {rq : Nat → Nat → Int} {tq : Nat → Nat} {d t : Nat} {z : fin3} (ht : t < 584) : fini N F g Sq rq tq d t z = fini N F g Sq rq tq d (t + 1) (lev3 N F g Sq rq d t z) := by
  have e : 584 - t = (584 - (t + 1)) + 1 := by omega
  cases d with
  | zero => simp only [fini]; rw [e]; rfl
  | succ d => simp only [fini]; rw [e]; rfl
theorem rst3_loop {N : Nat} {F : Nat → Int} {g rem dep : Nat} {S : lys} {r : Nat → Int} : ∀ k t (z : fin3) (a : acT), z.1 = loopT (stepW N F g rem dep S r) t a → rst3 (stp3 N F g rem dep S r) k t z = (loopT (stepW N F g rem dep S r) (t + k) a, (z.2.1 + sm (fun i => cfn N F rem S (t + i)) k, z.2.2 + sm (fun i => bfn N F rem S (t + i)) k))
  | 0, t, z, a, h => by
    simp only [rst3, sm_0, Nat.add_zero, Int.add_zero]
    rw [← h]
  | k + 1, t, z, a, h => by
    simp only [rst3]
    rw [rst3_loop k (t + 1) _ a (by simp only [stp3, loopT]; rw [h])]
    simp only [stp3]
    rw [sm_sh, sm_sh, show t + 1 + k = t + (k + 1) by omega]
    have e1 : ∀ f : Nat → Int, sm (fun i => f (t + 1 + i)) k = sm (fun j => f (t + (j + 1))) k := fun f => sm_c (fun i _ => by rw [show t + 1 + i = t + (i + 1) by omega])
    rw [e1, e1]
    simp only [Nat.add_zero, Int.add_assoc]
theorem rst3_all {N : Nat} {F : Nat → Int} {g rem dep : Nat} {S : lys} {r : Nat → Int} {z : fin3} (h : g - (rem + 1) = dep) : rst3 (stp3 N F g rem dep S r) 584 0 z = (accD N F g (rem + 1) S r z.1, (z.2.1 + cnt N F (rem + 1) S, z.2.2 + bud N F (rem + 1) S)) := by
  rw [rst3_loop 584 0 z z.1 rfl, accD_s h, cnt_s, bud_s]
  simp only [Nat.zero_add]
theorem fini_in {N : Nat} {F : Nat → Int} {g : Nat} {Sq : Nat → lys} {rq : Nat → Nat → Int} {tq : Nat → Nat} {d : Nat} {z : fin3} (hd : d + 1 < g) (hS : Sq (d + 1) = nxS (Sq d) (tq d)) (hr : rq (d + 1) = w1 (rq d) d ((tq d : Nat) : Int)) (hg : goS N F (Sq d) (tq d)) : fini N F g Sq rq tq (d + 1) 0 (z.1, (z.2.1, z.2.2 + 2)) = fini N F g Sq rq tq d (tq d + 1) (lev3 N F g Sq rq d (tq d) z) := by
  simp only [fini]
  have e : rst3 (lev3 N F g Sq rq (d + 1)) (584 - 0) 0 (z.1, (z.2.1, z.2.2 + 2)) = lev3 N F g Sq rq d (tq d) z := by
    simp only [lev3]
    obtain ⟨m, hm⟩ : ∃ m, g - 1 - d = m + 1 := ⟨g - 1 - d - 1, by omega⟩
    have hm2 : g - 1 - (d + 1) = m := by omega
    rw [hm, hm2, show 584 - 0 = 584 from rfl, rst3_all (by omega)]
    simp only [stp3, stepW, cfn, bfn]
    rw [if_pos hg, if_pos hg, if_pos hg, ib_t hg.1, hS, hr]
    simp only [Int.add_assoc, Int.mul_one]
  rw [e]
theorem lev3_no {N : Nat} {F : Nat → Int} {g : Nat} {Sq : Nat → lys} {rq : Nat → Nat → Int} {d t : Nat} {z : fin3} (h : ¬ goS N F (Sq d) t) : lev3 N F g Sq rq d t z = (z.1, (z.2.1, z.2.2 + 2 * ib (crS N (Sq d) (tS t : Int) (tK t)))) := by
  simp only [lev3, stp3, stepW, cfn, bfn]
  rw [if_neg h, if_neg h, if_neg h]
  simp only [Int.add_zero]
theorem lev3_leaf {N : Nat} {F : Nat → Int} {g : Nat} {Sq : Nat → lys} {rq : Nat → Nat → Int} {d t : Nat} {z : fin3} (hd : d + 1 = g) (h : goS N F (Sq d) t) : lev3 N F g Sq rq d t z = (weiS N F g (nxS (Sq d) t) (w1 (rq d) d ((t : Nat) : Int)) z.1, (z.2.1 + 1, z.2.2 + 2)) := by
  have e : g - 1 - d = 0 := by omega
  simp only [lev3, stp3, stepW, cfn, bfn]
  rw [if_pos h, if_pos h, if_pos h, ib_t h.1, e]
  rfl
theorem rst3_ge {N : Nat} {F : Nat → Int} {g rem dep : Nat} {S : lys} {r : Nat → Int} : ∀ k t (z : fin3), z.2.1 ≤ (rst3 (stp3 N F g rem dep S r) k t z).2.1 ∧ z.2.2 ≤ (rst3 (stp3 N F g rem dep S r) k t z).2.2
  | 0, _, _ => ⟨Int.le_refl _, Int.le_refl _⟩
  | k + 1, t, z => by
    have h := rst3_ge (N := N) (F := F) (g := g) (rem := rem) (dep := dep) (S := S) (r := r) k (t + 1) (stp3 N F g rem dep S r t z)
    have h1 := cfn_nn N F rem S t
    have h2 := bfn_nn N F rem S t
    simp only [rst3]
    have e1 : (stp3 N F g rem dep S r t z).2.1 = z.2.1 + cfn N F rem S t := rfl
    have e2 : (stp3 N F g rem dep S r t z).2.2 = z.2.2 + bfn N F rem S t := rfl
    omega
theorem fini_ge {N : Nat} {F : Nat → Int} {g : Nat} {Sq : Nat → lys} {rq : Nat → Nat → Int} {tq : Nat → Nat} : ∀ d t (z : fin3), z.2.1 ≤ (fini N F g Sq rq tq d t z).2.1 ∧ z.2.2 ≤ (fini N F g Sq rq tq d t z).2.2
  | 0, t, z => rst3_ge _ _ _
  | d + 1, t, z => by
    simp only [fini]
    have h1 := rst3_ge (N := N) (F := F) (g := g) (rem := g - 1 - (d + 1)) (dep := d + 1) (S := Sq (d + 1)) (r := rq (d + 1)) (584 - t) t z
    have h2 := fini_ge (N := N) (F := F) (g := g) (Sq := Sq) (rq := rq) (tq := tq) d (tq d + 1) (rst3 (lev3 N F g Sq rq (d + 1)) (584 - t) t z)
    have e : rst3 (lev3 N F g Sq rq (d + 1)) (584 - t) t z = rst3 (stp3 N F g (g - 1 - (d + 1)) (d + 1) (Sq (d + 1)) (rq (d + 1))) (584 - t) t z := rfl
    rw [e] at h2 ⊢
    omega
theorem fini_c {N : Nat} {F : Nat → Int} {g : Nat} {Sq Sq' : Nat → lys} {rq rq' : Nat → Nat → Int} {tq tq' : Nat → Nat} : ∀ d t (z : fin3), (∀ i, i ≤ d → Sq i = Sq' i ∧ rq i = rq' i) → (∀ i, i < d → tq i = tq' i) → fini N F g Sq rq tq d t z = fini N F g Sq' rq' tq' d t z
  | 0, t, z, h, _ => by simp only [fini, lev3]; rw [(h 0 (Nat.le_refl _)).1, (h 0 (Nat.le_refl _)).2]
  | d + 1, t, z, h, h2 => by
    simp only [fini]
    rw [h2 d (by omega)]
    have e : lev3 N F g Sq rq (d + 1) = lev3 N F g Sq' rq' (d + 1) := by simp only [lev3]; rw [(h (d + 1) (Nat.le_refl _)).1, (h (d + 1) (Nat.le_refl _)).2]
    rw [e]
    exact fini_c d _ _ (fun i hi => h i (by omega)) (fun i hi => h2 i (by omega))
theorem fini_all {N : Nat} {F : Nat → Int} {m : Nat} {Sq : Nat → lys} {rq : Nat → Nat → Int} {tq : Nat → Nat} {z : fin3} : fini N F (m + 1) Sq rq tq 0 0 z = (accD N F (m + 1) (m + 1) (Sq 0) (rq 0) z.1, (z.2.1 + cnt N F (m + 1) (Sq 0), z.2.2 + bud N F (m + 1) (Sq 0))) := by
  simp only [fini, lev3]
  rw [show m + 1 - 1 - 0 = m by omega, show 584 - 0 = 584 from rfl, rst3_all (by omega)]
def mu3 (d t : Nat) (tq : Nat → Nat) : Nat := if d = 0 then (585 - t) * 360000 else if d = 1 then (584 - tq 0) * 360000 + (585 - t) * 600 else (584 - tq 0) * 360000 + (584 - tq 1) * 600 + (585 - t)
