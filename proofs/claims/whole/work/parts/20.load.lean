/-! ===== load: the leaves where they lie at first ===== -/
def S0 (n : Nat) : lys := fun f => (lx n f, ly n f, lq f)
def dsF (n k j : Nat) : Int := max (if 0 ≤ lx n k - lx n j then lx n k - lx n j else -(lx n k - lx n j)) (if 0 ≤ ly n k - ly n j then ly n k - ly n j else -(ly n k - ly n j))
theorem S0_inj {n f g : Nat} (h : S0 n f = S0 n g) : f = g := by
  simp only [S0, Prod.mk.injEq, lx, ly, lq] at h
  obtain ⟨h1, h2, h3⟩ := h
  have e1 : f / 4 % n = g / 4 % n := by omega
  have e2 : f / 4 / n = g / 4 / n := by omega
  have e4 : f / 4 = g / 4 := by rw [← Nat.div_add_mod (f / 4) n, ← Nat.div_add_mod (g / 4) n, e1, e2]
  omega
theorem S0_box {n : Nat} (h : 1 ≤ n ∧ n ≤ 6) : BOX 5 (4 * n * n) (S0 n) := by
  refine ⟨fun f hf => ?_, fun f g hf hg => ?_⟩
  · have := lxy_rg h hf
    simp only [S0, okp]
    omega
  · have h1 := lxy_rg h hf
    have h2 := lxy_rg h hg
    simp only [S0, nrp]
    omega
theorem S0_cns (n : Nat) (F : Nat → Int) : CNS (4 * n * n) F (S0 n) := fun f g _ _ e => by rw [S0_inj e]
theorem sm_le {f g : Nat → Int} : ∀ n, (∀ k, k < n → f k ≤ g k) → sm f n ≤ sm g n
  | 0, _ => Int.le_refl _
  | n + 1, h => by
    have h1 := sm_le n (fun k hk => h k (by omega))
    have h2 := h n (by omega)
    rw [sm_s, sm_s]
    omega
theorem sm_lt {f g : Nat → Int} {j : Nat} : ∀ n, (∀ k, k < n → f k ≤ g k) → j < n → f j + 1 ≤ g j → sm f n + 1 ≤ sm g n
  | 0, _, h, _ => absurd h (Nat.not_lt_zero _)
  | n + 1, h, hj, h2 => by
    rw [sm_s, sm_s]
    by_cases z : j = n
    · subst z
      have h1 := sm_le (f := f) (g := g) j (fun k hk => h k (by omega))
      omega
    · have h1 := sm_lt (f := f) (g := g) n (fun k hk => h k (by omega)) (by omega) h2
      have h3 := h n (by omega)
      omega
theorem sm_add (f g : Nat → Int) : ∀ n, sm (fun k => f k + g k) n = sm f n + sm g n
  | 0 => rfl
  | n + 1 => by
    rw [sm_s, sm_s, sm_s, sm_add f g n]
    omega
theorem sm_one : ∀ n : Nat, sm (fun _ => 1) n = (n : Int)
  | 0 => rfl
  | n + 1 => by
    rw [sm_s, sm_one n]
    omega
abbrev doneP (n k0 : Nat) (b : Int) (F : Nat → Int) (ring leaf f : Nat) : Prop := F f = b ∧ (dsF n f k0 < (ring : Int) ∨ (dsF n f k0 = (ring : Int) ∧ f < leaf))
def PAI (n k0 us0 sp0 : Nat) (b : Int) (kd9 : Nat) (w : wd) (ring leaf us sp : Nat) (u : wd) : Prop :=
  LR u 24 46 us sp ∧ (∀ o, o ≠ 24 → (o < 46 ∨ 51 < o) → u o = w o) ∧ u 24 7 = w 24 7 ∧ ((kd9 : Int) = w 24 7 → sp = us) ∧
  EA u 24 46 us sp (4 * n * n) (w 22) (S0 n) ∧ (us : Int) ≤ us0 + sm (fun f => ib (doneP n k0 b (w 22) ring leaf f)) (4 * n * n) ∧
  (∀ f, f < 4 * n * n → doneP n k0 b (w 22) ring leaf f → ∃ i, i < us ∧ enw u 46 i = S0 n f ∧ tk u 24 sp i = 2 - w 22 f) ∧
  (∀ i, i < us0 → enw u 46 i = enw w 46 i ∧ tk u 24 sp i = tk w 24 sp0 i) ∧ us0 ≤ us
theorem PAI_skip {n k0 us0 sp0 : Nat} {b : Int} {kd9 : Nat} {w : wd} {ring leaf us sp : Nat} {u : wd} (h : PAI n k0 us0 sp0 b kd9 w ring leaf us sp u) (hs : ¬ (w 22 leaf = b ∧ dsF n leaf k0 = (ring : Int))) : PAI n k0 us0 sp0 b kd9 w ring (leaf + 1) us sp u := by
  obtain ⟨h1, h2, h3, h4, h5, h6, h7, h8, h9⟩ := h
  have e : ∀ f, doneP n k0 b (w 22) ring (leaf + 1) f ↔ doneP n k0 b (w 22) ring leaf f := fun f => by
    by_cases z : f = leaf
    · subst z
      constructor
      · rintro ⟨q1, q2⟩
        refine ⟨q1, ?_⟩
        rcases q2 with q2 | q2
        · exact Or.inl q2
        · exact absurd ⟨q1, q2.1⟩ hs
      · rintro ⟨q1, q2⟩
        exact ⟨q1, by omega⟩
    · constructor
      · rintro ⟨q1, q2⟩
        exact ⟨q1, by omega⟩
      · rintro ⟨q1, q2⟩
        exact ⟨q1, by omega⟩
  refine ⟨h1, h2, h3, h4, h5, ?_, fun f hf hd => h7 f hf ((e f).mp hd), h8, h9⟩
  rw [sm_c (g := fun f => ib (doneP n k0 b (w 22) ring leaf f)) (fun f _ => ib_c (e f))]
  exact h6
theorem PAI_ring {n k0 us0 sp0 : Nat} {b : Int} {kd9 : Nat} {w : wd} {ring us sp : Nat} {u : wd} (h : PAI n k0 us0 sp0 b kd9 w ring (4 * n * n) us sp u) : PAI n k0 us0 sp0 b kd9 w (ring + 1) 0 us sp u := by
  obtain ⟨h1, h2, h3, h4, h5, h6, h7, h8, h9⟩ := h
  have e : ∀ f, f < 4 * n * n → (doneP n k0 b (w 22) (ring + 1) 0 f ↔ doneP n k0 b (w 22) ring (4 * n * n) f) := fun f hf => by
    constructor
    · rintro ⟨q1, q2⟩
      exact ⟨q1, by omega⟩
    · rintro ⟨q1, q2⟩
      exact ⟨q1, by omega⟩
  refine ⟨h1, h2, h3, h4, h5, ?_, fun f hf hd => h7 f hf ((e f hf).mp hd), h8, h9⟩
  rw [sm_c (g := fun f => ib (doneP n k0 b (w 22) ring (4 * n * n) f)) (fun f hf => ib_c (e f hf))]
  exact h6
theorem PAI_lt {n k0 us0 sp0 : Nat} {b : Int} {kd9 : Nat} {w : wd} {ring leaf us sp : Nat} {u : wd} (hn : 1 ≤ n ∧ n ≤ 6) (h : PAI n k0 us0 sp0 b kd9 w ring leaf us sp u) (h0 : (us0 : Int) ≤ sm (fun f => ib (w 22 f = 1 - b)) (4 * n * n)) (hl : leaf < 4 * n * n) (hb : w 22 leaf = b) (hd : dsF n leaf k0 = (ring : Int)) : us < 144 := by
  obtain ⟨h1, h2, h3, h4, h5, h6, h7, h8, h9⟩ := h
  have hN := nn_le hn.2
  have e := sm_add (fun f => ib (w 22 f = 1 - b)) (fun f => ib (doneP n k0 b (w 22) ring leaf f)) (4 * n * n)
  have l := sm_lt (f := fun k => ib (w 22 k = 1 - b) + ib (doneP n k0 b (w 22) ring leaf k)) (g := fun _ => 1) (j := leaf) (4 * n * n) (fun k _ => by
    show ib (w 22 k = 1 - b) + ib (doneP n k0 b (w 22) ring leaf k) ≤ 1
    by_cases z : w 22 k = 1 - b
    · rw [ib_t z, ib_f (fun q => by have := q.1; omega)]; omega
    · rw [ib_f z]
      rcases ib_01 (P := doneP n k0 b (w 22) ring leaf k) with q | q <;> omega) hl (by
    show ib (w 22 leaf = 1 - b) + ib (doneP n k0 b (w 22) ring leaf leaf) + 1 ≤ 1
    rw [ib_f (by omega), ib_f (fun q => by have := q.2; omega)]
    omega)
  rw [sm_one] at l
  omega
theorem PAI_put {n k0 us0 sp0 : Nat} {b : Int} {kd9 : Nat} {w : wd} {ring leaf us sp : Nat} {u : wd} (hn : 1 ≤ n ∧ n ≤ 6) (hk : (kd9 : Int) = 2 - b) (hb01 : b = 0 ∨ b = 1) (h : PAI n k0 us0 sp0 b kd9 w ring leaf us sp u) (h0 : (us0 : Int) ≤ sm (fun f => ib (w 22 f = 1 - b)) (4 * n * n)) (hl : leaf < 4 * n * n) (hb : w 22 leaf = b) (hd : dsF n leaf k0 = (ring : Int)) : ∃ us' sp', PAI n k0 us0 sp0 b kd9 w ring (leaf + 1) us' sp' (putW u 24 46 us sp (lx n leaf) (ly n leaf) (lq leaf) kd9) := by
  have hlt := PAI_lt hn h h0 hl hb hd
  obtain ⟨h1, h2, h3, h4, h5, h6, h7, h8, h9⟩ := h
  have hbx := S0_box hn
  obtain ⟨us', sp', p1, p2, p3, p4, p5, p6, p7, p8⟩ := put_step (b := 24) (a := 46) (kd9 := kd9) (p := S0 n leaf) (by decide) h1 (Or.inl hlt) (by omega) (fun z => h4 (by rw [z, h3])) (by
      have := (hbx.1 leaf hl)
      simp only [okp] at this ⊢
      omega) (fun i hi => by
      obtain ⟨f, hf, hf2, hf3⟩ := h5 i hi
      rw [hf2]
      have := hbx.2 f leaf hf hl
      simp only [nrp] at this ⊢
      omega) (fun i hi e => by
      obtain ⟨f, hf, hf2, hf3⟩ := h5 i hi
      have : f = leaf := S0_inj (by rw [← hf2, e])
      subst this
      omega)
  refine ⟨us', sp', p1, fun o ho ho2 => ?_, by rw [← h3]; exact p6, fun z => p7 (by rw [z, h3]), fun i hi => ?_, ?_, fun f hf hdn => ?_, fun i hi => ?_, by omega⟩
  · rw [← h2 o ho ho2]
    exact putW_o ho (by omega)
  · by_cases z : i < us
    · obtain ⟨f, hf, hf2, hf3⟩ := h5 i z
      obtain ⟨e1, e2⟩ := p3 i z
      exact ⟨f, hf, by rw [← hf2]; exact e1, by rw [← hf3]; exact e2⟩
    · obtain ⟨e1, e2⟩ := p4 i (by omega) hi
      exact ⟨leaf, hl, e1, by rw [hb, ← hk]; exact e2⟩
  · have l := sm_lt (f := fun f => ib (doneP n k0 b (w 22) ring leaf f)) (g := fun f => ib (doneP n k0 b (w 22) ring (leaf + 1) f)) (j := leaf) (4 * n * n) (fun k _ => by
      show ib (doneP n k0 b (w 22) ring leaf k) ≤ ib (doneP n k0 b (w 22) ring (leaf + 1) k)
      by_cases z : doneP n k0 b (w 22) ring leaf k
      · rw [ib_t z, ib_t ⟨z.1, by have := z.2; omega⟩]; omega
      · rw [ib_f z]
        rcases ib_01 (P := doneP n k0 b (w 22) ring (leaf + 1) k) with q | q <;> omega) hl (by
      show ib (doneP n k0 b (w 22) ring leaf leaf) + 1 ≤ ib (doneP n k0 b (w 22) ring (leaf + 1) leaf)
      rw [ib_f (fun q => by have := q.2; omega), ib_t ⟨hb, Or.inr ⟨hd, by omega⟩⟩]
      omega)
    omega
  · by_cases z : f = leaf
    · subst z
      obtain ⟨i, hi, e1, e2⟩ := p5
      exact ⟨i, hi, e1, by rw [hb, ← hk]; exact e2⟩
    · obtain ⟨i, hi, e1, e2⟩ := h7 f hf ⟨hdn.1, by have := hdn.2; omega⟩
      obtain ⟨q1, q2⟩ := p3 i hi
      exact ⟨i, by omega, by rw [← e1]; exact q1, by rw [← e2]; exact q2⟩
  · obtain ⟨q1, q2⟩ := p3 i (by omega)
    obtain ⟨q3, q4⟩ := h8 i hi
    exact ⟨by rw [← q3]; exact q1, by rw [← q4]; exact q2⟩
theorem dsF_rg {n k j : Nat} (h : 1 ≤ n ∧ n ≤ 6) (hk : k < 4 * n * n) (hj : j < 4 * n * n) : 0 ≤ dsF n k j ∧ dsF n k j < n ∧ rg (dsF n k j) := by
  have h1 := lxy_rg h hk
  have h2 := lxy_rg h hj
  unfold dsF
  omega
theorem ib_fg {x : Int} (h : x = 0 ∨ x = 1) : ib (x = 1) = x := by
  rcases h with z | z <;> subst z <;> decide
set_option maxHeartbeats 4000000 in
set_option maxRecDepth 20000 in
theorem sp_X2_putAround {n k0 us0 sp0 : Nat} {b : Int} {kd9 : Nat} {w : wd} (hs0 : ShO n w) (hg0 : FgO w) (hb : b = 0 ∨ b = 1) (hk9 : (kd9 : Int) = 2 - b) (hk0 : k0 < 4 * n * n) (h0 : (us0 : Int) ≤ sm (fun f => ib (w 22 f = 1 - b)) (4 * n * n)) (hP0 : PAI n k0 us0 sp0 b kd9 w 0 0 us0 sp0 w) : CalV yX2_putAround cX2_putAround 7 4 LAY w [vR 24, vR 1, vR 21, vI b, vI (k0 : Int)] (fun w' => ∃ us sp, PAI n k0 us0 sp0 b kd9 w n 0 us sp w') := by
  have hn := hs0.1
  have hN := nn_le hn.2
  refine calV_intro (ls := [some (vR 24), some (vR 1), some (vR 21), some (vI b), some (vI (k0 : Int)), none, none]) (by decide) (Nat.le_of_ble_eq_true rfl) rfl (fun κ ad X hR => ?_)
  refine j_iconst X dX2_putAround_0 ?_
  refine s_5 X dX2_putAround_1 rfl ?_
  have L_3 : ∀ (m : Nat) (ring us sp : Nat) (u : wd) (_ : PAI n k0 us0 sp0 b kd9 w ring 0 us sp u) (_ : ring ≤ n) (_ : n - ring < m), J κ LAY ad 0 0 3 [some (vR 24), some (vR 1), some (vR 21), some (vI b), some (vI (k0 : Int)), some (vI (ring : Int)), none] [] u := by
    intro m
    induction m with
    | zero => intro ring us sp u hP h1 h2; exact absurd h2 (Nat.not_lt_zero _)
    | succ m ih3 =>
      intro ring us sp u hP h1 h2
      have hn3 : u 1 3 = (n : Int) := by rw [hP.2.1 1 (by decide) (by decide)]; exact hs0.2.1
      refine j_iload X dX2_putAround_3 rfl ?_
      refine j_aload_n X dX2_putAround_5 rfl ?_
      refine j_getI X dX2_putAround_6 ff_X2_59 rfl rfl ?_
      refine j_icmp_ge (tgt := 90) X dX2_putAround_9 (by decide) ⟨by omega, by omega⟩ ⟨by omega, by omega⟩ (fun h_9 => ?_) (fun h_9 => ?_)
      · exact j_return X hR dX2_putAround_90 ⟨us, sp, by rw [show ring = n by omega] at hP; exact hP⟩
      · refine j_iconst X dX2_putAround_12 ?_
        refine s_6 X dX2_putAround_13 rfl ?_
        have L_15 : ∀ (m : Nat) (leaf us sp : Nat) (u : wd) (_ : PAI n k0 us0 sp0 b kd9 w ring leaf us sp u) (_ : leaf ≤ 4 * n * n) (_ : 4 * n * n - leaf < m), J κ LAY ad 0 0 15 [some (vR 24), some (vR 1), some (vR 21), some (vI b), some (vI (k0 : Int)), some (vI (ring : Int)), some (vI (leaf : Int))] [] u := by
          intro m
          induction m with
          | zero => intro leaf us sp u hP h1 h2; exact absurd h2 (Nat.not_lt_zero _)
          | succ m ih15 =>
            intro leaf us sp u hP h3 h4
            have hs : ShO n u := hs0.keep (fun o ho => hP.2.1 o (by omega) (by omega))
            have hn4 : u 1 4 = ((4 * n * n : Nat) : Int) := hs.2.2.1
            have e22 : u 22 = w 22 := hP.2.1 22 (by decide) (by decide)
            have hg : FgO u := fun k hk => by rw [e22]; exact hg0 k hk
            refine j_iload X dX2_putAround_15 rfl ?_
            refine j_aload_n X dX2_putAround_17 rfl ?_
            refine j_getI X dX2_putAround_18 ff_X2_42 rfl rfl ?_
            have hn4b : u 1 4 = ((4 * n * n : Nat) : Int) := hn4
            refine j_icmp_ge (tgt := 84) X dX2_putAround_21 (by decide) ⟨by omega, by omega⟩ ⟨by omega, by omega⟩ (fun h_21 => ?_) (fun h_21 => ?_)
            · refine inc_5 X dX2_putAround_84 rfl ?_
              refine j_goto (tgt := 3) X dX2_putAround_87 (by decide) ?_
              refine fg_6 ?_
              exact ih3 (ring + 1) us sp u (PAI_ring (by rw [show 4 * n * n = leaf by omega]; exact hP)) (by omega) (by omega)
            · refine j_aload_n X dX2_putAround_24 rfl ?_
              refine j_iload X dX2_putAround_25 rfl ?_
              refine cV1i X mf_X1_has mv_X1_has ml_X2_62 (by decide) rfl rfl (Nat.le_of_ble_eq_true rfl) dX2_putAround_27 (sp_X1_has hg (by omega)) (fun a_27 w_27 h_27 => ?_)
              obtain ⟨_, _⟩ := h_27
              subst a_27
              subst w_27
              refine j_iload_n X dX2_putAround_30 rfl ?_
              rw [show ib (u 22 leaf = 1) = w 22 leaf by rw [e22]; exact ib_fg (hg0 leaf (by omega))]
              have hgl := hg0 leaf (by omega)
              refine j_icmp_ne (tgt := 78) X dX2_putAround_31 (by decide) ⟨by omega, by omega⟩ ⟨by omega, by omega⟩ (fun h_31 => ?_) (fun h_31 => ?_)
              · refine inc_6 X dX2_putAround_78 rfl ?_
                refine j_goto (tgt := 15) X dX2_putAround_81 (by decide) ?_
                exact ih15 (leaf + 1) us sp u (PAI_skip hP (fun z => h_31 z.1)) (by omega) (by omega)
              · refine j_aload_n X dX2_putAround_34 rfl ?_
                refine j_iload X dX2_putAround_35 rfl ?_
                refine j_iload X dX2_putAround_37 rfl ?_
                refine cV2i X mf_X7_distance mv_X7_distance ml_X2_66 (by decide) rfl rfl (Nat.le_of_ble_eq_true rfl) dX2_putAround_39 (sp_X7_distance hs (by omega) hk0) (fun a_39 w_39 h_39 => ?_)
                obtain ⟨h9, h10⟩ := h_39
                change a_39 = dsF n leaf k0 at h9
                subst a_39
                subst w_39
                refine j_iload X dX2_putAround_42 rfl ?_
                have hb9 : w 22 leaf = b := by first | exact h_31 | omega
                have hl9 : leaf < 4 * n * n := by omega
                refine j_icmp_ne (tgt := 78) X dX2_putAround_44 (by decide) (dsF_rg hn hl9 hk0).2.2 ⟨by omega, by omega⟩ (fun h_44 => ?_) (fun h_44 => ?_)
                · refine inc_6 X dX2_putAround_78 rfl ?_
                  refine j_goto (tgt := 15) X dX2_putAround_81 (by decide) ?_
                  exact ih15 (leaf + 1) us sp u (PAI_skip hP (fun z => h_44 z.2)) (by omega) (by omega)
                · have hd9 : dsF n leaf k0 = (ring : Int) := by first | exact h_44 | omega
                  have hxy := lxy_rg hn hl9
                  refine j_aload_n X dX2_putAround_47 rfl ?_
                  refine j_aload_n X dX2_putAround_48 rfl ?_
                  refine j_iload X dX2_putAround_49 rfl ?_
                  refine cV1i X mf_X7_x mv_X7_x ml_X2_70 (by decide) rfl rfl (Nat.le_of_ble_eq_true rfl) dX2_putAround_51 (sp_X7_x hs (by omega)) (fun a_51 w_51 h_51 => ?_)
                  obtain ⟨_, _⟩ := h_51
                  subst a_51
                  subst w_51
                  refine j_aload_n X dX2_putAround_54 rfl ?_
                  refine j_iload X dX2_putAround_55 rfl ?_
                  refine cV1i X mf_X7_y mv_X7_y ml_X2_74 (by decide) rfl rfl (Nat.le_of_ble_eq_true rfl) dX2_putAround_57 (sp_X7_y hs (by omega)) (fun a_57 w_57 h_57 => ?_)
                  obtain ⟨_, _⟩ := h_57
                  subst a_57
                  subst w_57
                  refine j_aload_n X dX2_putAround_60 rfl ?_
                  refine j_iload X dX2_putAround_61 rfl ?_
                  refine cV1i X mf_X7_quarter mv_X7_quarter ml_X2_77 (by decide) rfl rfl (Nat.le_of_ble_eq_true rfl) dX2_putAround_63 (sp_X7_quarter) (fun a_63 w_63 h_63 => ?_)
                  obtain ⟨_, _⟩ := h_63
                  subst a_63
                  subst w_63
                  refine j_iload_n X dX2_putAround_66 rfl ?_
                  refine j_if_eq (tgt := 74) X dX2_putAround_67 (by decide) ⟨by omega, by omega⟩ (fun h_67 => ?_) (fun h_67 => ?_)
                  · have hkk : kd9 = 2 := by omega
                    subst hkk
                    refine j_iconst X dX2_putAround_74 ?_
                    refine cV4v X mf_X2_put mv_X2_put ml_X2_80 (by decide) rfl rfl (Nat.le_of_ble_eq_true rfl) dX2_putAround_75 (sp_X2_put_24 (us := us) (kd9 := 2) (sp := (sp : Int)) hP.1.1.1 hP.1.1.2.1 (PAI_lt hn hP h0 hl9 hb9 hd9) hP.1.1.2.2.2.2 hP.1.2.1.1 hP.1.2.2.2.1 (by decide) ⟨by omega, by omega⟩ ⟨by omega, by omega⟩ ⟨by omega, by omega⟩) (fun w_75 h_75 => ?_)
                    change _ = _ at h_75
                    obtain ⟨us9, sp9, hP9⟩ : ∃ us9 sp9, PAI n k0 us0 sp0 b _ w ring (leaf + 1) us9 sp9 w_75 := by
                      rw [h_75]
                      exact PAI_put hn hk9 hb hP h0 hl9 hb9 hd9
                    refine inc_6 X dX2_putAround_78 rfl ?_
                    refine j_goto (tgt := 15) X dX2_putAround_81 (by decide) ?_
                    exact ih15 (leaf + 1) us9 sp9 w_75 hP9 (by omega) (by omega)
                  · have hkk : kd9 = 1 := by omega
                    subst hkk
                    refine j_iconst X dX2_putAround_70 ?_
                    refine j_goto (tgt := 75) X dX2_putAround_71 (by decide) ?_
                    refine cV4v X mf_X2_put mv_X2_put ml_X2_80 (by decide) rfl rfl (Nat.le_of_ble_eq_true rfl) dX2_putAround_75 (sp_X2_put_24 (us := us) (kd9 := 1) (sp := (sp : Int)) hP.1.1.1 hP.1.1.2.1 (PAI_lt hn hP h0 hl9 hb9 hd9) hP.1.1.2.2.2.2 hP.1.2.1.1 hP.1.2.2.2.1 (by decide) ⟨by omega, by omega⟩ ⟨by omega, by omega⟩ ⟨by omega, by omega⟩) (fun w_75 h_75 => ?_)
                    change _ = _ at h_75
                    obtain ⟨us9, sp9, hP9⟩ : ∃ us9 sp9, PAI n k0 us0 sp0 b _ w ring (leaf + 1) us9 sp9 w_75 := by
                      rw [h_75]
                      exact PAI_put hn hk9 hb hP h0 hl9 hb9 hd9
                    refine inc_6 X dX2_putAround_78 rfl ?_
                    refine j_goto (tgt := 15) X dX2_putAround_81 (by decide) ?_
                    exact ih15 (leaf + 1) us9 sp9 w_75 hP9 (by omega) (by omega)
        exact L_15 (4 * n * n + 1) 0 us sp u hP (by omega) (by omega)
  exact L_3 (n + 1) 0 us0 sp0 w hP0 (by omega) (by omega)
