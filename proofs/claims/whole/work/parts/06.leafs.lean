/-! ===== truth values, and the leaves of both systems ===== -/
def ib (P : Prop) [Decidable P] : Int := if P then 1 else 0
theorem ib_01 {P : Prop} [Decidable P] : ib P = 0 ∨ ib P = 1 := by
  unfold ib
  split <;> simp
theorem ib_rg {P : Prop} [Decidable P] : rg (ib P) := by
  unfold ib
  split <;> exact ⟨by decide, by decide⟩
theorem ib_t {P : Prop} [Decidable P] (h : P) : ib P = 1 := if_pos h
theorem ib_f {P : Prop} [Decidable P] (h : ¬ P) : ib P = 0 := if_neg h
theorem ib_c {P Q : Prop} [Decidable P] [Decidable Q] (h : P ↔ Q) : ib P = ib Q := by
  by_cases q : P
  · rw [ib_t q, ib_t (h.mp q)]
  · rw [ib_f q, ib_f (fun z => q (h.mpr z))]
theorem CalI.mono {y : MethodName} {cc : ByteArray} {nL : Nat} {ty : FieldType} {d : Nat} {lay : lyT} {w : wd} {avs : List av} {P P' : Int → wd → Prop} (h : CalI y cc nL ty d lay w avs P) (hp : ∀ a w', P a w' → P' a w') : CalI y cc nL ty d lay w avs P' := by
  intro l D cI cZ ad sz
  refine MetFree.mono (h l D cI cZ ad sz) (fun _ _ q => q) (fun _ _ _ _ _ q => q) (fun a s o t _ q => ⟨?_, q.2⟩)
  obtain ⟨⟨⟨r, u, e1, ⟨b, e2, hb⟩, e3⟩, hF⟩, -⟩ := q
  exact ⟨⟨r, u, e1, ⟨b, e2, hp b u hb⟩, e3⟩, hF⟩
theorem CalV.mono {y : MethodName} {cc : ByteArray} {nL : Nat} {d : Nat} {lay : lyT} {w : wd} {avs : List av} {P P' : wd → Prop} (h : CalV y cc nL d lay w avs P) (hp : ∀ w', P w' → P' w') : CalV y cc nL d lay w avs P' := by
  intro l D cI cZ ad sz
  refine MetFree.mono (h l D cI cZ ad sz) (fun _ _ q => q) (fun _ _ _ _ _ q => q) (fun a s o t _ q => ⟨?_, q.2⟩)
  obtain ⟨⟨u, e1, hb, e3⟩, hF⟩ := q.1
  exact ⟨⟨u, e1, hp u hb, e3⟩, hF⟩
theorem zt_rg {i : Int} (h : rg i) : i ≤ 2147483647 := by omega
section JB
variable {κ : KT} {cc : ByteArray} {own : String} {fr : Nat} {lay : lyT} {ad : Nat → Nat} {cn sn pc : Nat} {ls : List (Option av)} {st : List av} {w : wd}
theorem jb_eq (X : Okk κ cc own fr) {P : Prop} [Decidable P] {off : Int} {tgt : Nat} (hd : decode cc pc = .ok (.ifCond .eq off, 3)) (ht : (pc : Int) + off = (tgt : Int)) (kt : ¬ P → J κ lay ad cn sn tgt ls st w) (kf : P → J κ lay ad cn sn (pc + 3) ls st w) : J κ lay ad cn sn pc ls (vI (ib P) :: st) w :=
  j_if_eq X hd ht ib_rg (fun h => kt (fun q => by rw [ib_t q] at h; exact absurd h (by decide))) (fun h => kf (Decidable.byContradiction (fun q => h (ib_f q))))
theorem jb_ne (X : Okk κ cc own fr) {P : Prop} [Decidable P] {off : Int} {tgt : Nat} (hd : decode cc pc = .ok (.ifCond .ne off, 3)) (ht : (pc : Int) + off = (tgt : Int)) (kt : P → J κ lay ad cn sn tgt ls st w) (kf : ¬ P → J κ lay ad cn sn (pc + 3) ls st w) : J κ lay ad cn sn pc ls (vI (ib P) :: st) w :=
  j_if_ne X hd ht ib_rg (fun h => kt (Decidable.byContradiction (fun q => h (ib_f q)))) (fun h => kf (fun q => by rw [ib_t q] at h; exact absurd h (by decide)))
end JB
def rget (f : Nat → Int) (n : Nat) (i : Int) : Int := if 0 ≤ i ∧ i < n then f i.toNat else 0
def wpt (w : wd) (o n : Nat) (i v : Int) : wd := if 0 ≤ i ∧ i < n then wst w o i.toNat v else w
def sm (f : Nat → Int) (n : Nat) : Int := match n with
  | 0 => 0
  | k + 1 => sm f k + f k
theorem sm_s (f : Nat → Int) (n : Nat) : sm f (n + 1) = sm f n + f n := rfl
theorem sm_0 (f : Nat → Int) : sm f 0 = 0 := rfl
theorem sm_c {f g : Nat → Int} : ∀ {n : Nat}, (∀ k, k < n → f k = g k) → sm f n = sm g n
  | 0, _ => rfl
  | n + 1, h => by rw [sm_s, sm_s, sm_c (fun k hk => h k (by omega)), h n (by omega)]
theorem acc_t {f : Nat → Int} {c d : Int} {e : Nat} (hd : d = c + sm f e) (h : f e = 1) : d + 1 = c + sm f (e + 1) := by
  rw [sm_s, hd, h]
  exact Int.add_assoc _ _ _
theorem acc_f {f : Nat → Int} {c d : Int} {e : Nat} (hd : d = c + sm f e) (h : f e = 0) : d + 0 = c + sm f (e + 1) := by
  rw [sm_s, hd, h]
  exact Int.add_assoc _ _ _
theorem ac0_t {f : Nat → Int} {d : Int} {e : Nat} (hd : d = sm f e) (h : f e = 1) : d + 1 = sm f (e + 1) := by
  rw [sm_s, hd, h]
theorem ac0_f {f : Nat → Int} {d : Int} {e : Nat} (hd : d = sm f e) (h : f e = 0) : d + 0 = sm f (e + 1) := by
  rw [sm_s, hd, h]
theorem sm_b {f : Nat → Int} (h : ∀ k, f k = 0 ∨ f k = 1) : ∀ n, 0 ≤ sm f n ∧ sm f n ≤ n
  | 0 => ⟨by rw [sm_0]; exact Int.le_refl _, by rw [sm_0]; exact Int.le_refl _⟩
  | n + 1 => by
    have h1 := sm_b h n
    have h2 := h n
    rw [sm_s]
    omega
def wfl (w : wd) (o n : Nat) (v : Int) : wd := fun k i => if k = o ∧ i < n then v else w k i
theorem wfl_0 (w : wd) (o : Nat) (v : Int) : wfl w o 0 v = w := by
  funext k i
  simp [wfl]
theorem wfl_s (w : wd) (o n : Nat) (v : Int) : wst (wfl w o n v) o n v = wfl w o (n + 1) v := by
  funext k i
  by_cases hk : k = o
  · subst hk
    by_cases hi : i = n
    · subst hi
      simp [wst, w1, wfl]
    · have : i < n ↔ i < n + 1 := by omega
      simp [wst, w1, wfl, hi, this]
  · simp [wst, wfl, hk]
set_option maxHeartbeats 4000000 in
set_option maxRecDepth 20000 in
theorem sp_X5_get {o n : Nat} {i : Int} {w : wd} (hl : LAY[o]? = some (.inr (false, n))) (hn : n < 2147483648) (hi : rg i) : CalI yX5_get cX5_get 2 .int 1 LAY w [vR o, vI i] (fun a w' => a = rget (w o) n i ∧ w' = w) := by
  refine calI_intro (ls := [some (vR o), some (vI i)]) (by decide) (Nat.le_of_ble_eq_true rfl) rfl (fun κ ad X hR => ?_)
  refine j_aload_n X dX5_get_0 rfl ?_
  refine j_ifnull X dX5_get_1 ?_
  refine j_iload_n X dX5_get_4 rfl ?_
  refine j_if_lt (tgt := 20) X dX5_get_5 (by decide) hi (fun h_5 => ?_) (fun h_5 => ?_)
  · refine j_iconst X dX5_get_20 ?_
    exact j_ireturn X hR dX5_get_21 ⟨by unfold rget; rw [if_neg (by omega)], rfl⟩
  · have h_5n : 0 ≤ i := by omega
    refine j_iload_n X dX5_get_8 rfl ?_
    refine j_aload_n X dX5_get_9 rfl ?_
    refine j_alen X dX5_get_10 hl ?_
    refine j_icmp_ge (tgt := 20) X dX5_get_11 (by decide) hi ⟨by omega, by omega⟩ (fun h_11 => ?_) (fun h_11 => ?_)
    · refine j_iconst X dX5_get_20 ?_
      exact j_ireturn X hR dX5_get_21 ⟨by unfold rget; rw [if_neg (by omega)], rfl⟩
    · have h_11n : i < n := by omega
      refine j_aload_n X dX5_get_14 rfl ?_
      refine j_iload_n X dX5_get_15 rfl ?_
      refine j_iald X dX5_get_16 hl h_5n h_11n (by omega) ?_
      refine j_goto (tgt := 21) X dX5_get_17 (by decide) ?_
      exact j_ireturn X hR dX5_get_21 ⟨by unfold rget; rw [if_pos ⟨h_5n, h_11n⟩], rfl⟩
theorem sp_getk {o n k : Nat} {w : wd} (hl : LAY[o]? = some (.inr (false, n))) (hn : n < 2147483648) (hk : k < n) : CalI yX5_get cX5_get 2 .int 1 LAY w [vR o, vI (k : Int)] (fun a w' => a = w o k ∧ w' = w) := by
  refine (sp_X5_get hl hn ⟨by omega, by omega⟩).mono (fun a w' h => ⟨h.1.trans ?_, h.2⟩)
  unfold rget
  rw [if_pos (by omega)]
  rfl
set_option maxHeartbeats 4000000 in
set_option maxRecDepth 20000 in
theorem sp_X5_put {o n : Nat} {i v : Int} {w : wd} (hl : LAY[o]? = some (.inr (false, n))) (hn : n < 2147483648) (hi : rg i) : CalV yX5_put cX5_put 3 1 LAY w [vR o, vI i, vI v] (fun w' => w' = wpt w o n i v) := by
  refine calV_intro (ls := [some (vR o), some (vI i), some (vI v)]) (by decide) (Nat.le_of_ble_eq_true rfl) rfl (fun κ ad X hR => ?_)
  refine j_aload_n X dX5_put_0 rfl ?_
  refine j_ifnull X dX5_put_1 ?_
  refine j_iload_n X dX5_put_4 rfl ?_
  refine j_if_lt (tgt := 18) X dX5_put_5 (by decide) hi (fun h_5 => ?_) (fun h_5 => ?_)
  · exact j_return X hR dX5_put_18 (by unfold wpt; rw [if_neg (by omega)])
  · have h_5n : 0 ≤ i := by omega
    refine j_iload_n X dX5_put_8 rfl ?_
    refine j_aload_n X dX5_put_9 rfl ?_
    refine j_alen X dX5_put_10 hl ?_
    refine j_icmp_ge (tgt := 18) X dX5_put_11 (by decide) hi ⟨by omega, by omega⟩ (fun h_11 => ?_) (fun h_11 => ?_)
    · exact j_return X hR dX5_put_18 (by unfold wpt; rw [if_neg (by omega)])
    · have h_11n : i < n := by omega
      refine j_aload_n X dX5_put_14 rfl ?_
      refine j_iload_n X dX5_put_15 rfl ?_
      refine j_iload_n X dX5_put_16 rfl ?_
      refine j_iast X dX5_put_17 hl h_5n h_11n (by omega) ?_
      exact j_return X hR dX5_put_18 (by unfold wpt; rw [if_pos ⟨h_5n, h_11n⟩])
theorem sp_putk {o n k : Nat} {v : Int} {w : wd} (hl : LAY[o]? = some (.inr (false, n))) (hn : n < 2147483648) (hk : k < n) : CalV yX5_put cX5_put 3 1 LAY w [vR o, vI (k : Int), vI v] (fun w' => w' = wst w o k v) := by
  refine (sp_X5_put hl hn ⟨by omega, by omega⟩).mono (fun w' h => h.trans ?_)
  unfold wpt
  rw [if_pos (by omega)]
  rfl
set_option maxHeartbeats 4000000 in
set_option maxRecDepth 20000 in
theorem sp_J7_fill_53178 {o n : Nat} {v : Int} {w : wd} (hl : LAY[o]? = some (.inr (false, n))) (hn : n < 2147483647) : CalV yJ7_fill_53178 cJ7_fill_53178 4 1 LAY w [vR o, vI v] (fun w' => w' = wfl w o n v) := by
  refine calV_intro (ls := [some (vR o), some (vI v), none, none]) (by decide) (Nat.le_of_ble_eq_true rfl) rfl (fun κ ad X hR => ?_)
  refine j_iconst X dJ7_fill_53178_0 ?_
  refine s_2 X dJ7_fill_53178_1 rfl ?_
  refine j_aload_n X dJ7_fill_53178_2 rfl ?_
  refine j_alen X dJ7_fill_53178_3 hl ?_
  refine s_3 X dJ7_fill_53178_4 rfl ?_
  have L_5 : ∀ (m : Nat) (i : Nat) (_ : i ≤ n) (_ : n - i < m), J κ LAY ad 0 0 5 [some (vR o), some (vI v), some (vI (i : Int)), some (vI (n : Int))] [] (wfl w o i v) := by
    intro m
    induction m with
    | zero => intro i h1 h2; omega
    | succ m ih5 =>
      intro i h1 h2
      refine j_iload_n X dJ7_fill_53178_5 rfl ?_
      refine j_iload_n X dJ7_fill_53178_6 rfl ?_
      refine j_icmp_ge (tgt := 20) X dJ7_fill_53178_7 (by decide) ⟨by omega, by omega⟩ ⟨by omega, by omega⟩ (fun h_7 => ?_) (fun h_7 => ?_)
      · exact j_return X hR dJ7_fill_53178_20 (by rw [show n = i by omega])
      · refine j_aload_n X dJ7_fill_53178_10 rfl ?_
        refine j_iload_n X dJ7_fill_53178_11 rfl ?_
        refine j_iload_n X dJ7_fill_53178_12 rfl ?_
        refine j_iast X dJ7_fill_53178_13 hl (by omega) (by omega) (by omega) ?_
        refine inc_2 X dJ7_fill_53178_14 rfl ?_
        refine j_goto (tgt := 5) X dJ7_fill_53178_17 (by decide) ?_
        rw [Int.toNat_natCast, wfl_s]; exact ih5 (i + 1) (by omega) (by omega)
  have h0 := L_5 (n + 1) 0 (by omega) (by omega)
  rw [wfl_0] at h0
  exact h0
set_option maxHeartbeats 4000000 in
set_option maxRecDepth 20000 in
theorem sp_X5_fill {o n : Nat} {v : Int} {w : wd} (hl : LAY[o]? = some (.inr (false, n))) (hn : n < 2147483647) : CalV yX5_fill cX5_fill 2 2 LAY w [vR o, vI v] (fun w' => w' = wfl w o n v) := by
  refine calV_intro (ls := [some (vR o), some (vI v)]) (by decide) (Nat.le_of_ble_eq_true rfl) rfl (fun κ ad X hR => ?_)
  refine j_aload_n X dX5_fill_0 rfl ?_
  refine j_ifnull X dX5_fill_1 ?_
  refine j_aload_n X dX5_fill_4 rfl ?_
  refine j_iload_n X dX5_fill_5 rfl ?_
  refine cS2v X mf_J7_fill_53178 ms_J7_fill_53178 ml_X5_7 (by decide) (Nat.le_of_ble_eq_true rfl) dX5_fill_6 (sp_J7_fill_53178 hl hn) (fun w_6 h_6 => ?_)
  change _ = _ at h_6
  subst w_6
  exact j_return X hR dX5_fill_9 rfl
section JMATH
variable {κ : KT} {cc : ByteArray} {own : String} {fr : Nat} {lay : lyT} {ad : Nat → Nat} {cn sn pc : Nat} {ls : List (Option av)} {st : List av} {w : wd} {a b : Int} {idx : Nat}
theorem j_mmax (X : Okk κ cc own fr) (hcs : csOk κ cn sn) (hl : Cond.methodLink own idx yJ9_max_7cf53 ∈ TB) (hf : 1 ≤ fr) (hr : ((st.map (cv ad)).map fun v => v.category).sum ≤ 8) (hd : decode cc pc = .ok (.invokestatic idx, 3)) (ha : rg a) (hb2 : rg b) (k : J κ lay ad cn sn (pc + 3) ls (vI (max a b) :: st) w) : J κ lay ad cn sn pc ls (vI b :: vI a :: st) w := by
  obtain ⟨p, l, e, R, s, m, args, below, meth, c, D, cI, cZ, A, Q⟩ := κ
  obtain ⟨hx, hb, hown, hts, hK, hN, hA, hlk, hfr, hlo⟩ := X
  intro H locs arr hP hD hS hL
  refine va_mmax (x := zI a) (y := zI b) hx hb hL.1.symm hown (hts _ hl) (hts _ ms_J9_max_7cf53) (hts _ mf_J9_max_7cf53.2.1) (hts _ mf_J9_max_7cf53.1) (by omega) (by omega) hcs.1 hcs.2 hd ?_
  have e2 : (if zI a < zI b then zI b else zI a) = zI (max a b) := by
    have h1 := zI_lt ha hb2
    have h2 := zI_lt hb2 ha
    split
    · rename_i q
      simp only [h1, h2] at q
      exact congrArg zI (by omega)
    · rename_i q
      simp only [h1, h2] at q
      exact congrArg zI (by omega)
  rw [e2]
  exact k H locs arr hP hD hS hL
theorem j_mmin (X : Okk κ cc own fr) (hcs : csOk κ cn sn) (hl : Cond.methodLink own idx yJ9_min_7cf53 ∈ TB) (hf : 1 ≤ fr) (hr : ((st.map (cv ad)).map fun v => v.category).sum ≤ 8) (hd : decode cc pc = .ok (.invokestatic idx, 3)) (ha : rg a) (hb2 : rg b) (k : J κ lay ad cn sn (pc + 3) ls (vI (min a b) :: st) w) : J κ lay ad cn sn pc ls (vI b :: vI a :: st) w := by
  obtain ⟨p, l, e, R, s, m, args, below, meth, c, D, cI, cZ, A, Q⟩ := κ
  obtain ⟨hx, hb, hown, hts, hK, hN, hA, hlk, hfr, hlo⟩ := X
  intro H locs arr hP hD hS hL
  refine va_mmin (x := zI a) (y := zI b) hx hb hL.1.symm hown (hts _ hl) (hts _ ms_J9_min_7cf53) (hts _ mf_J9_min_7cf53.2.1) (hts _ mf_J9_min_7cf53.1) (by omega) (by omega) hcs.1 hcs.2 hd ?_
  have e2 : (if zI b < zI a then zI b else zI a) = zI (min a b) := by
    have h1 := zI_lt ha hb2
    have h2 := zI_lt hb2 ha
    split
    · rename_i q
      simp only [h1, h2] at q
      exact congrArg zI (by omega)
    · rename_i q
      simp only [h1, h2] at q
      exact congrArg zI (by omega)
  rw [e2]
  exact k H locs arr hP hD hS hL
theorem j_mabs (X : Okk κ cc own fr) (hcs : csOk κ cn sn) (hl : Cond.methodLink own idx yJ9_abs_0f7a4 ∈ TB) (hf : 1 ≤ fr) (hr : ((st.map (cv ad)).map fun v => v.category).sum ≤ 8) (hd : decode cc pc = .ok (.invokestatic idx, 3)) (ha : rg a) (k : J κ lay ad cn sn (pc + 3) ls (vI (if 0 ≤ a then a else -a) :: st) w) : J κ lay ad cn sn pc ls (vI a :: st) w := by
  obtain ⟨p, l, e, R, s, m, args, below, meth, c, D, cI, cZ, A, Q⟩ := κ
  obtain ⟨hx, hb, hown, hts, hK, hN, hA, hlk, hfr, hlo⟩ := X
  intro H locs arr hP hD hS hL
  refine va_mabs (x := zI a) hx hb hL.1.symm hown (hts _ hl) (hts _ ms_J9_abs_0f7a4) (hts _ mf_J9_abs_0f7a4.2.1) (hts _ mf_J9_abs_0f7a4.1) (by omega) (by omega) hcs.1 hcs.2 hd ?_
  have e2 : (if 0 ≤ zI a then zI a else 0 - zI a) = zI (if 0 ≤ a then a else -a) := by
    have h1 : (0 ≤ zI a) ↔ 0 ≤ a := zI_le (a := 0) ⟨by decide, by decide⟩ ha
    by_cases q : 0 ≤ a
    · rw [if_pos (h1.mpr q), if_pos q]
    · rw [if_neg (fun z => q (h1.mp z)), if_neg q, ← zI_0, ← zI_sub]
      exact congrArg zI (by omega)
  rw [e2]
  exact k H locs arr hP hD hS hL
end JMATH
set_option maxRecDepth 10000 in
theorem mt_X4_150 : Cond.methodLink RX4 150 yJ9_max_7cf53 ∈ TB := (tbt3 29 rfl rfl)
set_option maxRecDepth 10000 in
theorem mt_X4_166 : Cond.methodLink RX4 166 yJ9_min_7cf53 ∈ TB := (tbt3 44 rfl rfl)
set_option maxRecDepth 10000 in
theorem mt_X7_58 : Cond.methodLink RX7 58 yJ9_abs_0f7a4 ∈ TB := (tbt4 36 rfl rfl)
set_option maxRecDepth 10000 in
theorem mt_X7_66 : Cond.methodLink RX7 66 yJ9_max_7cf53 ∈ TB := (tbt4 40 rfl rfl)
set_option maxRecDepth 10000 in
theorem mt_X2_124 : Cond.methodLink RX2 124 yJ9_min_7cf53 ∈ TB := (tbt4 57 rfl rfl)
set_option maxRecDepth 10000 in
theorem mt_X2_129 : Cond.methodLink RX2 129 yJ9_max_7cf53 ∈ TB := (tbt4 58 rfl rfl)
set_option maxRecDepth 10000 in
theorem mt_X6_89 : Cond.methodLink RX6 89 yJ9_min_7cf53 ∈ TB := (tbt4 99 rfl rfl)
set_option maxRecDepth 10000 in
theorem mt_X6_98 : Cond.methodLink RX6 98 yJ9_max_7cf53 ∈ TB := (tbt4 108 rfl rfl)
set_option maxHeartbeats 4000000 in
set_option maxRecDepth 20000 in
theorem sp_X9_yes {b : Int} {w : wd} (hb : b = 0 ∨ b = 1) : CalI yX9_yes cX9_yes 1 .int 1 LAY w [vI b] (fun a w' => a = b ∧ w' = w) := by
  refine calI_intro (ls := [some (vI b)]) (by decide) (Nat.le_of_ble_eq_true rfl) rfl (fun κ ad X hR => ?_)
  refine j_iload_n X dX9_yes_0 rfl ?_
  refine j_if_eq (tgt := 8) X dX9_yes_1 (by decide) ⟨by omega, by omega⟩ (fun h_1 => ?_) (fun h_1 => ?_)
  · refine j_iconst X dX9_yes_8 ?_
    exact j_ireturn X hR dX9_yes_9 ⟨by omega, rfl⟩
  · refine j_iconst X dX9_yes_4 ?_
    refine j_goto (tgt := 9) X dX9_yes_5 (by decide) ?_
    exact j_ireturn X hR dX9_yes_9 ⟨by omega, rfl⟩
set_option maxHeartbeats 4000000 in
set_option maxRecDepth 20000 in
theorem sp_X9_isEdge {e : Int} {w : wd} (he : rg e) : CalI yX9_isEdge cX9_isEdge 1 .boolean 1 LAY w [vI e] (fun a w' => a = ib (0 ≤ e ∧ e ≤ 2) ∧ w' = w) := by
  refine calI_intro (ls := [some (vI e)]) (by decide) (Nat.le_of_ble_eq_true rfl) rfl (fun κ ad X hR => ?_)
  refine j_iload_n X dX9_isEdge_0 rfl ?_
  refine j_if_lt (tgt := 13) X dX9_isEdge_1 (by decide) ⟨by omega, by omega⟩ (fun h_1 => ?_) (fun h_1 => ?_)
  · refine j_iconst X dX9_isEdge_13 ?_
    exact j_zreturn X hR dX9_isEdge_14 (by first | exact Or.inl rfl | exact Or.inr rfl | exact ib_01) ⟨by first | exact (ib_t (by omega)).symm | exact (ib_f (by omega)).symm, rfl⟩
  · refine j_iload_n X dX9_isEdge_4 rfl ?_
    refine j_iconst X dX9_isEdge_5 ?_
    refine j_icmp_gt (tgt := 13) X dX9_isEdge_6 (by decide) ⟨by omega, by omega⟩ ⟨by omega, by omega⟩ (fun h_6 => ?_) (fun h_6 => ?_)
    · refine j_iconst X dX9_isEdge_13 ?_
      exact j_zreturn X hR dX9_isEdge_14 (by first | exact Or.inl rfl | exact Or.inr rfl | exact ib_01) ⟨by first | exact (ib_t (by omega)).symm | exact (ib_f (by omega)).symm, rfl⟩
    · refine j_iconst X dX9_isEdge_9 ?_
      refine j_goto (tgt := 14) X dX9_isEdge_10 (by decide) ?_
      exact j_zreturn X hR dX9_isEdge_14 (by first | exact Or.inl rfl | exact Or.inr rfl | exact ib_01) ⟨by first | exact (ib_t (by omega)).symm | exact (ib_f (by omega)).symm, rfl⟩
set_option maxHeartbeats 4000000 in
set_option maxRecDepth 20000 in
theorem sp_X9_isWayLength {e : Int} {w : wd} (he : rg e) : CalI yX9_isWayLength cX9_isWayLength 1 .boolean 1 LAY w [vI e] (fun a w' => a = ib (0 ≤ e ∧ e ≤ 3) ∧ w' = w) := by
  refine calI_intro (ls := [some (vI e)]) (by decide) (Nat.le_of_ble_eq_true rfl) rfl (fun κ ad X hR => ?_)
  refine j_iload_n X dX9_isWayLength_0 rfl ?_
  refine j_if_lt (tgt := 13) X dX9_isWayLength_1 (by decide) ⟨by omega, by omega⟩ (fun h_1 => ?_) (fun h_1 => ?_)
  · refine j_iconst X dX9_isWayLength_13 ?_
    exact j_zreturn X hR dX9_isWayLength_14 (by first | exact Or.inl rfl | exact Or.inr rfl | exact ib_01) ⟨by first | exact (ib_t (by omega)).symm | exact (ib_f (by omega)).symm, rfl⟩
  · refine j_iload_n X dX9_isWayLength_4 rfl ?_
    refine j_iconst X dX9_isWayLength_5 ?_
    refine j_icmp_gt (tgt := 13) X dX9_isWayLength_6 (by decide) ⟨by omega, by omega⟩ ⟨by omega, by omega⟩ (fun h_6 => ?_) (fun h_6 => ?_)
    · refine j_iconst X dX9_isWayLength_13 ?_
      exact j_zreturn X hR dX9_isWayLength_14 (by first | exact Or.inl rfl | exact Or.inr rfl | exact ib_01) ⟨by first | exact (ib_t (by omega)).symm | exact (ib_f (by omega)).symm, rfl⟩
    · refine j_iconst X dX9_isWayLength_9 ?_
      refine j_goto (tgt := 14) X dX9_isWayLength_10 (by decide) ?_
      exact j_zreturn X hR dX9_isWayLength_14 (by first | exact Or.inl rfl | exact Or.inr rfl | exact ib_01) ⟨by first | exact (ib_t (by omega)).symm | exact (ib_f (by omega)).symm, rfl⟩
abbrev isLine (sort k : Int) : Prop := (0 ≤ sort ∧ sort ≤ 3) ∧ (-24 ≤ k ∧ k ≤ 48)
abbrev isSide (side : Int) : Prop := side = 0 ∨ side = 1
def strip (sort x y q : Int) : Int := if sort = 0 then x else if sort = 1 then y else if sort = 2 then (if q < 2 then x - y else x - y - 1) else (if q = 0 ∨ q = 3 then x + y else x + y + 1)
abbrev isOn (s k side : Int) : Prop := (side = 0 ∧ s < k) ∨ (side ≠ 0 ∧ k ≤ s)
def mirX (sort k x y : Int) : Int := if sort = 0 then 2 * k - 1 - x else if sort = 1 then x else if sort = 2 then y + k else k - 1 - y
def mirY (sort k x y : Int) : Int := if sort = 0 then y else if sort = 1 then 2 * k - 1 - y else if sort = 2 then x - k else k - 1 - x
def mirQ (sort q : Int) : Int := if sort = 0 then (4 - q) % 4 else if sort = 1 then (2 - q) % 4 else if sort = 2 then 3 - q else (1 - q) % 4
abbrev touch (sort k x y q : Int) : Prop := (sort = 0 ∧ ((q = 1 ∧ x + 1 = k) ∨ (q = 3 ∧ x = k))) ∨ (sort = 1 ∧ ((q = 2 ∧ y + 1 = k) ∨ (q = 0 ∧ y = k))) ∨ (sort = 2 ∧ x - y = k) ∨ ((sort < 0 ∨ 2 < sort) ∧ x + y + 1 = k)
def spot (x y q : Int) : Int := (x % 16) * 64 + (y % 16) * 4 + q % 4
theorem spot_lt (x y q : Int) : 0 ≤ spot x y q ∧ spot x y q < 1024 := by
  unfold spot
  omega
theorem z_nat (n : Nat) : zI (n : Int) = nI n := Int32.ofInt_eq_ofNat
theorem z_and {a : Int} (k : Nat) (hk : k ≤ 30) : zI a &&& zI (((2 ^ k - 1 : Nat)) : Int) = zI (a % ((2 ^ k : Nat) : Int)) := by
  have hp : 0 < 2 ^ k := Nat.pow_pos (by decide)
  have hk2 : 2 ^ k ∣ 2 ^ 32 := Nat.pow_dvd_pow 2 (by omega)
  have hlt : 2 ^ k ≤ 2 ^ 30 := Nat.pow_le_pow_right (by decide) hk
  rw [z_nat]
  rw [pk_and (zI a) k (by rw [pk_tn (by omega)])]
  have e : ((zI a).toBitVec.toNat % 2 ^ k : Nat) = (a % ((2 ^ k : Nat) : Int)).toNat := by
    have e1 : (zI a).toBitVec.toNat = (a % (2 ^ 32 : Nat)).toNat := by
      show (BitVec.ofInt 32 a).toNat = _
      rw [BitVec.toNat_ofInt]
    rw [e1]
    have h0 : 0 ≤ a % ((2 ^ 32 : Nat) : Int) := Int.emod_nonneg _ (by decide)
    have h1 : 0 ≤ a % ((2 ^ k : Nat) : Int) := Int.emod_nonneg _ (by omega)
    apply Int.ofNat.inj
    show (((a % ((2 ^ 32 : Nat) : Int)).toNat % 2 ^ k : Nat) : Int) = ((a % ((2 ^ k : Nat) : Int)).toNat : Int)
    rw [Int.natCast_emod, Int.toNat_of_nonneg h0, Int.toNat_of_nonneg h1]
    exact Int.emod_emod_of_dvd a (Int.natCast_dvd_natCast.mpr hk2)
  rw [e, ← z_nat, Int.toNat_of_nonneg (Int.emod_nonneg _ (by omega))]
theorem z_and3 (a : Int) : zI a &&& zI 3 = zI (a % 4) := z_and 2 (by decide)
theorem z_and15 (a : Int) : zI a &&& zI 15 = zI (a % 16) := z_and 4 (by decide)
theorem z_shl {a : Int} (k : Nat) (h0 : 0 ≤ a) (h1 : a < 1024) (hk : k ≤ 10) (s : Int32) (hs : (s.toBitVec.smod 32).toNat = k) : zI a <<< s = zI (a * ((2 ^ k : Nat) : Int)) := by
  have hlt : 2 ^ k ≤ 2 ^ 10 := Nat.pow_le_pow_right (by decide) hk
  obtain ⟨n, rfl⟩ := Int.eq_ofNat_of_zero_le h0
  have hn : n < 1024 := by omega
  have h2 : n * 2 ^ k < 2 ^ 32 := by
    have := Nat.mul_le_mul (Nat.le_of_lt_succ (by omega : n < 1024 + 1)) hlt
    omega
  rw [z_nat, pk_shlN s k hs h2, ← z_nat]
  congr 1
theorem z_or {a b : Int} (k : Nat) (ha : 0 ≤ a) (ha2 : a < ((2 ^ k : Nat) : Int)) (hb : 0 ≤ b) : zI (b * ((2 ^ k : Nat) : Int)) ||| zI a = zI (b * ((2 ^ k : Nat) : Int) + a) := by
  obtain ⟨n, rfl⟩ := Int.eq_ofNat_of_zero_le ha
  obtain ⟨m, rfl⟩ := Int.eq_ofNat_of_zero_le hb
  have hn : n < 2 ^ k := by omega
  have e1 : ((m : Int) * ((2 ^ k : Nat) : Int)) = ((2 ^ k * m : Nat) : Int) := by rw [Nat.mul_comm]; exact (Int.natCast_mul m (2 ^ k)).symm
  rw [e1, ← Int.natCast_add, z_nat, z_nat, z_nat]
  rw [Nat.two_pow_add_eq_or_of_lt hn]
  apply Int32.toBitVec_inj.mp
  show BitVec.ofNat 32 (2 ^ k * m) ||| BitVec.ofNat 32 n = BitVec.ofNat 32 (2 ^ k * m ||| n)
  exact (BitVec.ofNat_or ..).symm
set_option maxHeartbeats 4000000 in
set_option maxRecDepth 20000 in
theorem sp_X3_isLine {sort k : Int} {w : wd} (hs : rg sort) (hk : rg k) : CalI yX3_isLine cX3_isLine 2 .boolean 1 LAY w [vI sort, vI k] (fun a w' => a = ib (isLine sort k) ∧ w' = w) := by
  refine calI_intro (ls := [some (vI sort), some (vI k)]) (by decide) (Nat.le_of_ble_eq_true rfl) rfl (fun κ ad X hR => ?_)
  refine j_iload_n X dX3_isLine_0 rfl ?_
  refine j_if_lt (tgt := 25) X dX3_isLine_1 (by decide) ⟨by omega, by omega⟩ (fun h_1 => ?_) (fun h_1 => ?_)
  · refine j_iconst X dX3_isLine_25 ?_
    exact j_zreturn X hR dX3_isLine_26 (by first | exact Or.inl rfl | exact Or.inr rfl | exact ib_01) ⟨by first | exact (ib_t (by omega)).symm | exact (ib_f (by omega)).symm, rfl⟩
  · refine j_iload_n X dX3_isLine_4 rfl ?_
    refine j_iconst X dX3_isLine_5 ?_
    refine j_icmp_ge (tgt := 25) X dX3_isLine_6 (by decide) ⟨by omega, by omega⟩ ⟨by omega, by omega⟩ (fun h_6 => ?_) (fun h_6 => ?_)
    · refine j_iconst X dX3_isLine_25 ?_
      exact j_zreturn X hR dX3_isLine_26 (by first | exact Or.inl rfl | exact Or.inr rfl | exact ib_01) ⟨by first | exact (ib_t (by omega)).symm | exact (ib_f (by omega)).symm, rfl⟩
    · refine j_iload_n X dX3_isLine_9 rfl ?_
      refine j_bipush X dX3_isLine_10 (by decide +kernel) ?_
      refine j_icmp_lt (tgt := 25) X dX3_isLine_12 (by decide) ⟨by omega, by omega⟩ ⟨by omega, by omega⟩ (fun h_12 => ?_) (fun h_12 => ?_)
      · refine j_iconst X dX3_isLine_25 ?_
        exact j_zreturn X hR dX3_isLine_26 (by first | exact Or.inl rfl | exact Or.inr rfl | exact ib_01) ⟨by first | exact (ib_t (by omega)).symm | exact (ib_f (by omega)).symm, rfl⟩
      · refine j_iload_n X dX3_isLine_15 rfl ?_
        refine j_bipush X dX3_isLine_16 (by decide +kernel) ?_
        refine j_icmp_gt (tgt := 25) X dX3_isLine_18 (by decide) ⟨by omega, by omega⟩ ⟨by omega, by omega⟩ (fun h_18 => ?_) (fun h_18 => ?_)
        · refine j_iconst X dX3_isLine_25 ?_
          exact j_zreturn X hR dX3_isLine_26 (by first | exact Or.inl rfl | exact Or.inr rfl | exact ib_01) ⟨by first | exact (ib_t (by omega)).symm | exact (ib_f (by omega)).symm, rfl⟩
        · refine j_iconst X dX3_isLine_21 ?_
          refine j_goto (tgt := 26) X dX3_isLine_22 (by decide) ?_
          exact j_zreturn X hR dX3_isLine_26 (by first | exact Or.inl rfl | exact Or.inr rfl | exact ib_01) ⟨by first | exact (ib_t (by omega)).symm | exact (ib_f (by omega)).symm, rfl⟩
set_option maxHeartbeats 4000000 in
set_option maxRecDepth 20000 in
theorem sp_X3_isSide {side : Int} {w : wd} (hs : rg side) : CalI yX3_isSide cX3_isSide 1 .boolean 1 LAY w [vI side] (fun a w' => a = ib (isSide side) ∧ w' = w) := by
  refine calI_intro (ls := [some (vI side)]) (by decide) (Nat.le_of_ble_eq_true rfl) rfl (fun κ ad X hR => ?_)
  refine j_iload_n X dX3_isSide_0 rfl ?_
  refine j_if_eq (tgt := 9) X dX3_isSide_1 (by decide) ⟨by omega, by omega⟩ (fun h_1 => ?_) (fun h_1 => ?_)
  · refine j_iconst X dX3_isSide_9 ?_
    refine j_goto (tgt := 14) X dX3_isSide_10 (by decide) ?_
    exact j_zreturn X hR dX3_isSide_14 (by first | exact Or.inl rfl | exact Or.inr rfl | exact ib_01) ⟨by first | exact (ib_t (by omega)).symm | exact (ib_f (by omega)).symm, rfl⟩
  · refine j_iload_n X dX3_isSide_4 rfl ?_
    refine j_iconst X dX3_isSide_5 ?_
    refine j_icmp_ne (tgt := 13) X dX3_isSide_6 (by decide) ⟨by omega, by omega⟩ ⟨by omega, by omega⟩ (fun h_6 => ?_) (fun h_6 => ?_)
    · refine j_iconst X dX3_isSide_13 ?_
      exact j_zreturn X hR dX3_isSide_14 (by first | exact Or.inl rfl | exact Or.inr rfl | exact ib_01) ⟨by first | exact (ib_t (by omega)).symm | exact (ib_f (by omega)).symm, rfl⟩
    · refine j_iconst X dX3_isSide_9 ?_
      refine j_goto (tgt := 14) X dX3_isSide_10 (by decide) ?_
      exact j_zreturn X hR dX3_isSide_14 (by first | exact Or.inl rfl | exact Or.inr rfl | exact ib_01) ⟨by first | exact (ib_t (by omega)).symm | exact (ib_f (by omega)).symm, rfl⟩
set_option maxHeartbeats 4000000 in
set_option maxRecDepth 20000 in
theorem sp_X3_strip {sort x y q : Int} {w : wd} (hs : rg sort) (hq : rg q) : CalI yX3_strip cX3_strip 4 .int 1 LAY w [vI sort, vI x, vI y, vI q] (fun a w' => a = strip sort x y q ∧ w' = w) := by
  refine calI_intro (ls := [some (vI sort), some (vI x), some (vI y), some (vI q)]) (by decide) (Nat.le_of_ble_eq_true rfl) rfl (fun κ ad X hR => ?_)
  refine j_iload_n X dX3_strip_0 rfl ?_
  rcases (by omega : sort = 0 ∨ sort = 1 ∨ sort = 2 ∨ (sort < 0 ∨ 2 < sort)) with rfl | rfl | rfl | hsw
  · refine j_tabIn (off := 27) (tgt := 28) X dX3_strip_1 ⟨by decide, by decide⟩ (by decide) (by decide) rfl (by decide) ?_
    refine j_iload_n X dX3_strip_28 rfl ?_
    exact j_ireturn X hR dX3_strip_29 ⟨by unfold strip; (repeat' split) <;> omega, rfl⟩
  · refine j_tabIn (off := 29) (tgt := 30) X dX3_strip_1 ⟨by decide, by decide⟩ (by decide) (by decide) rfl (by decide) ?_
    refine j_iload_n X dX3_strip_30 rfl ?_
    exact j_ireturn X hR dX3_strip_31 ⟨by unfold strip; (repeat' split) <;> omega, rfl⟩
  · refine j_tabIn (off := 31) (tgt := 32) X dX3_strip_1 ⟨by decide, by decide⟩ (by decide) (by decide) rfl (by decide) ?_
    refine j_iload_n X dX3_strip_32 rfl ?_
    refine j_iconst X dX3_strip_33 ?_
    refine j_icmp_ge (tgt := 43) X dX3_strip_34 (by decide) ⟨by omega, by omega⟩ ⟨by omega, by omega⟩ (fun h_34 => ?_) (fun h_34 => ?_)
    · refine j_iload_n X dX3_strip_43 rfl ?_
      refine j_iload_n X dX3_strip_44 rfl ?_
      refine j_isub X dX3_strip_45 ?_
      refine j_iconst X dX3_strip_46 ?_
      refine j_isub X dX3_strip_47 ?_
      exact j_ireturn X hR dX3_strip_48 ⟨by unfold strip; (repeat' split) <;> omega, rfl⟩
    · refine j_iload_n X dX3_strip_37 rfl ?_
      refine j_iload_n X dX3_strip_38 rfl ?_
      refine j_isub X dX3_strip_39 ?_
      refine j_goto (tgt := 48) X dX3_strip_40 (by decide) ?_
      exact j_ireturn X hR dX3_strip_48 ⟨by unfold strip; (repeat' split) <;> omega, rfl⟩
  · refine j_tabOut (tgt := 49) X dX3_strip_1 ⟨by omega, by omega⟩ hsw (by decide) ?_
    refine j_iload_n X dX3_strip_49 rfl ?_
    refine j_if_eq (tgt := 58) X dX3_strip_50 (by decide) ⟨by omega, by omega⟩ (fun h_50 => ?_) (fun h_50 => ?_)
    · refine j_iload_n X dX3_strip_58 rfl ?_
      refine j_iload_n X dX3_strip_59 rfl ?_
      refine j_iadd X dX3_strip_60 ?_
      refine j_goto (tgt := 69) X dX3_strip_61 (by decide) ?_
      exact j_ireturn X hR dX3_strip_69 ⟨by unfold strip; (repeat' split) <;> omega, rfl⟩
    · refine j_iload_n X dX3_strip_53 rfl ?_
      refine j_iconst X dX3_strip_54 ?_
      refine j_icmp_ne (tgt := 64) X dX3_strip_55 (by decide) ⟨by omega, by omega⟩ ⟨by omega, by omega⟩ (fun h_55 => ?_) (fun h_55 => ?_)
      · refine j_iload_n X dX3_strip_64 rfl ?_
        refine j_iload_n X dX3_strip_65 rfl ?_
        refine j_iadd X dX3_strip_66 ?_
        refine j_iconst X dX3_strip_67 ?_
        refine j_iadd X dX3_strip_68 ?_
        exact j_ireturn X hR dX3_strip_69 ⟨by unfold strip; (repeat' split) <;> omega, rfl⟩
      · refine j_iload_n X dX3_strip_58 rfl ?_
        refine j_iload_n X dX3_strip_59 rfl ?_
        refine j_iadd X dX3_strip_60 ?_
        refine j_goto (tgt := 69) X dX3_strip_61 (by decide) ?_
        exact j_ireturn X hR dX3_strip_69 ⟨by unfold strip; (repeat' split) <;> omega, rfl⟩
set_option maxHeartbeats 4000000 in
set_option maxRecDepth 20000 in
theorem sp_X3_isOn {s k side : Int} {w : wd} (hs : rg s) (hk : rg k) (hq : rg side) : CalI yX3_isOn cX3_isOn 3 .boolean 1 LAY w [vI s, vI k, vI side] (fun a w' => a = ib (isOn s k side) ∧ w' = w) := by
  refine calI_intro (ls := [some (vI s), some (vI k), some (vI side)]) (by decide) (Nat.le_of_ble_eq_true rfl) rfl (fun κ ad X hR => ?_)
  refine j_iload_n X dX3_isOn_0 rfl ?_
  refine j_if_ne (tgt := 17) X dX3_isOn_1 (by decide) ⟨by omega, by omega⟩ (fun h_1 => ?_) (fun h_1 => ?_)
  · refine j_iload_n X dX3_isOn_17 rfl ?_
    refine j_iload_n X dX3_isOn_18 rfl ?_
    refine j_icmp_lt (tgt := 26) X dX3_isOn_19 (by decide) ⟨by omega, by omega⟩ ⟨by omega, by omega⟩ (fun h_19 => ?_) (fun h_19 => ?_)
    · refine j_iconst X dX3_isOn_26 ?_
      exact j_zreturn X hR dX3_isOn_27 (by first | exact Or.inl rfl | exact Or.inr rfl | exact ib_01) ⟨by first | exact (ib_t (by omega)).symm | exact (ib_f (by omega)).symm, rfl⟩
    · refine j_iconst X dX3_isOn_22 ?_
      refine j_goto (tgt := 27) X dX3_isOn_23 (by decide) ?_
      exact j_zreturn X hR dX3_isOn_27 (by first | exact Or.inl rfl | exact Or.inr rfl | exact ib_01) ⟨by first | exact (ib_t (by omega)).symm | exact (ib_f (by omega)).symm, rfl⟩
  · refine j_iload_n X dX3_isOn_4 rfl ?_
    refine j_iload_n X dX3_isOn_5 rfl ?_
    refine j_icmp_ge (tgt := 13) X dX3_isOn_6 (by decide) ⟨by omega, by omega⟩ ⟨by omega, by omega⟩ (fun h_6 => ?_) (fun h_6 => ?_)
    · refine j_iconst X dX3_isOn_13 ?_
      refine j_goto (tgt := 27) X dX3_isOn_14 (by decide) ?_
      exact j_zreturn X hR dX3_isOn_27 (by first | exact Or.inl rfl | exact Or.inr rfl | exact ib_01) ⟨by first | exact (ib_t (by omega)).symm | exact (ib_f (by omega)).symm, rfl⟩
    · refine j_iconst X dX3_isOn_9 ?_
      refine j_goto (tgt := 27) X dX3_isOn_10 (by decide) ?_
      exact j_zreturn X hR dX3_isOn_27 (by first | exact Or.inl rfl | exact Or.inr rfl | exact ib_01) ⟨by first | exact (ib_t (by omega)).symm | exact (ib_f (by omega)).symm, rfl⟩
set_option maxHeartbeats 4000000 in
set_option maxRecDepth 20000 in
theorem sp_X3_mirrorX {sort k x y : Int} {w : wd} (hs : rg sort) : CalI yX3_mirrorX cX3_mirrorX 4 .int 1 LAY w [vI sort, vI k, vI x, vI y] (fun a w' => a = mirX sort k x y ∧ w' = w) := by
  refine calI_intro (ls := [some (vI sort), some (vI k), some (vI x), some (vI y)]) (by decide) (Nat.le_of_ble_eq_true rfl) rfl (fun κ ad X hR => ?_)
  refine j_iload_n X dX3_mirrorX_0 rfl ?_
  rcases (by omega : sort = 0 ∨ sort = 1 ∨ sort = 2 ∨ (sort < 0 ∨ 2 < sort)) with rfl | rfl | rfl | hsw
  · refine j_tabIn (off := 27) (tgt := 28) X dX3_mirrorX_1 ⟨by decide, by decide⟩ (by decide) (by decide) rfl (by decide) ?_
    refine j_iconst X dX3_mirrorX_28 ?_
    refine j_iload_n X dX3_mirrorX_29 rfl ?_
    refine j_imul X dX3_mirrorX_30 ?_
    refine j_iconst X dX3_mirrorX_31 ?_
    refine j_isub X dX3_mirrorX_32 ?_
    refine j_iload_n X dX3_mirrorX_33 rfl ?_
    refine j_isub X dX3_mirrorX_34 ?_
    exact j_ireturn X hR dX3_mirrorX_35 ⟨by unfold mirX; (repeat' split) <;> omega, rfl⟩
  · refine j_tabIn (off := 35) (tgt := 36) X dX3_mirrorX_1 ⟨by decide, by decide⟩ (by decide) (by decide) rfl (by decide) ?_
    refine j_iload_n X dX3_mirrorX_36 rfl ?_
    exact j_ireturn X hR dX3_mirrorX_37 ⟨by unfold mirX; (repeat' split) <;> omega, rfl⟩
  · refine j_tabIn (off := 37) (tgt := 38) X dX3_mirrorX_1 ⟨by decide, by decide⟩ (by decide) (by decide) rfl (by decide) ?_
    refine j_iload_n X dX3_mirrorX_38 rfl ?_
    refine j_iload_n X dX3_mirrorX_39 rfl ?_
    refine j_iadd X dX3_mirrorX_40 ?_
    exact j_ireturn X hR dX3_mirrorX_41 ⟨by unfold mirX; (repeat' split) <;> omega, rfl⟩
  · refine j_tabOut (tgt := 42) X dX3_mirrorX_1 ⟨by omega, by omega⟩ hsw (by decide) ?_
    refine j_iload_n X dX3_mirrorX_42 rfl ?_
    refine j_iconst X dX3_mirrorX_43 ?_
    refine j_isub X dX3_mirrorX_44 ?_
    refine j_iload_n X dX3_mirrorX_45 rfl ?_
    refine j_isub X dX3_mirrorX_46 ?_
    exact j_ireturn X hR dX3_mirrorX_47 ⟨by unfold mirX; (repeat' split) <;> omega, rfl⟩
set_option maxHeartbeats 4000000 in
set_option maxRecDepth 20000 in
theorem sp_X3_mirrorY {sort k x y : Int} {w : wd} (hs : rg sort) : CalI yX3_mirrorY cX3_mirrorY 4 .int 1 LAY w [vI sort, vI k, vI x, vI y] (fun a w' => a = mirY sort k x y ∧ w' = w) := by
  refine calI_intro (ls := [some (vI sort), some (vI k), some (vI x), some (vI y)]) (by decide) (Nat.le_of_ble_eq_true rfl) rfl (fun κ ad X hR => ?_)
  refine j_iload_n X dX3_mirrorY_0 rfl ?_
  rcases (by omega : sort = 0 ∨ sort = 1 ∨ sort = 2 ∨ (sort < 0 ∨ 2 < sort)) with rfl | rfl | rfl | hsw
  · refine j_tabIn (off := 27) (tgt := 28) X dX3_mirrorY_1 ⟨by decide, by decide⟩ (by decide) (by decide) rfl (by decide) ?_
    refine j_iload_n X dX3_mirrorY_28 rfl ?_
    exact j_ireturn X hR dX3_mirrorY_29 ⟨by unfold mirY; (repeat' split) <;> omega, rfl⟩
  · refine j_tabIn (off := 29) (tgt := 30) X dX3_mirrorY_1 ⟨by decide, by decide⟩ (by decide) (by decide) rfl (by decide) ?_
    refine j_iconst X dX3_mirrorY_30 ?_
    refine j_iload_n X dX3_mirrorY_31 rfl ?_
    refine j_imul X dX3_mirrorY_32 ?_
    refine j_iconst X dX3_mirrorY_33 ?_
    refine j_isub X dX3_mirrorY_34 ?_
    refine j_iload_n X dX3_mirrorY_35 rfl ?_
    refine j_isub X dX3_mirrorY_36 ?_
    exact j_ireturn X hR dX3_mirrorY_37 ⟨by unfold mirY; (repeat' split) <;> omega, rfl⟩
  · refine j_tabIn (off := 37) (tgt := 38) X dX3_mirrorY_1 ⟨by decide, by decide⟩ (by decide) (by decide) rfl (by decide) ?_
    refine j_iload_n X dX3_mirrorY_38 rfl ?_
    refine j_iload_n X dX3_mirrorY_39 rfl ?_
    refine j_isub X dX3_mirrorY_40 ?_
    exact j_ireturn X hR dX3_mirrorY_41 ⟨by unfold mirY; (repeat' split) <;> omega, rfl⟩
  · refine j_tabOut (tgt := 42) X dX3_mirrorY_1 ⟨by omega, by omega⟩ hsw (by decide) ?_
    refine j_iload_n X dX3_mirrorY_42 rfl ?_
    refine j_iconst X dX3_mirrorY_43 ?_
    refine j_isub X dX3_mirrorY_44 ?_
    refine j_iload_n X dX3_mirrorY_45 rfl ?_
    refine j_isub X dX3_mirrorY_46 ?_
    exact j_ireturn X hR dX3_mirrorY_47 ⟨by unfold mirY; (repeat' split) <;> omega, rfl⟩
set_option maxHeartbeats 4000000 in
set_option maxRecDepth 20000 in
theorem sp_X3_mirrorQuarter {sort q : Int} {w : wd} (hs : rg sort) : CalI yX3_mirrorQuarter cX3_mirrorQuarter 2 .int 1 LAY w [vI sort, vI q] (fun a w' => a = mirQ sort q ∧ w' = w) := by
  refine calI_intro (ls := [some (vI sort), some (vI q)]) (by decide) (Nat.le_of_ble_eq_true rfl) rfl (fun κ ad X hR => ?_)
  refine j_iload_n X dX3_mirrorQuarter_0 rfl ?_
  rcases (by omega : sort = 0 ∨ sort = 1 ∨ sort = 2 ∨ (sort < 0 ∨ 2 < sort)) with rfl | rfl | rfl | hsw
  · refine j_tabIn (off := 27) (tgt := 28) X dX3_mirrorQuarter_1 ⟨by decide, by decide⟩ (by decide) (by decide) rfl (by decide) ?_
    refine j_iconst X dX3_mirrorQuarter_28 ?_
    refine j_iload_n X dX3_mirrorQuarter_29 rfl ?_
    refine j_isub X dX3_mirrorQuarter_30 ?_
    refine j_iconst X dX3_mirrorQuarter_31 ?_
    refine j_iand X dX3_mirrorQuarter_32 (z_and3 _) ?_
    exact j_ireturn X hR dX3_mirrorQuarter_33 ⟨by unfold mirQ; (repeat' split) <;> omega, rfl⟩
  · refine j_tabIn (off := 33) (tgt := 34) X dX3_mirrorQuarter_1 ⟨by decide, by decide⟩ (by decide) (by decide) rfl (by decide) ?_
    refine j_iconst X dX3_mirrorQuarter_34 ?_
    refine j_iload_n X dX3_mirrorQuarter_35 rfl ?_
    refine j_isub X dX3_mirrorQuarter_36 ?_
    refine j_iconst X dX3_mirrorQuarter_37 ?_
    refine j_iand X dX3_mirrorQuarter_38 (z_and3 _) ?_
    exact j_ireturn X hR dX3_mirrorQuarter_39 ⟨by unfold mirQ; (repeat' split) <;> omega, rfl⟩
  · refine j_tabIn (off := 39) (tgt := 40) X dX3_mirrorQuarter_1 ⟨by decide, by decide⟩ (by decide) (by decide) rfl (by decide) ?_
    refine j_iconst X dX3_mirrorQuarter_40 ?_
    refine j_iload_n X dX3_mirrorQuarter_41 rfl ?_
    refine j_isub X dX3_mirrorQuarter_42 ?_
    exact j_ireturn X hR dX3_mirrorQuarter_43 ⟨by unfold mirQ; (repeat' split) <;> omega, rfl⟩
  · refine j_tabOut (tgt := 44) X dX3_mirrorQuarter_1 ⟨by omega, by omega⟩ hsw (by decide) ?_
    refine j_iconst X dX3_mirrorQuarter_44 ?_
    refine j_iload_n X dX3_mirrorQuarter_45 rfl ?_
    refine j_isub X dX3_mirrorQuarter_46 ?_
    refine j_iconst X dX3_mirrorQuarter_47 ?_
    refine j_iand X dX3_mirrorQuarter_48 (z_and3 _) ?_
    exact j_ireturn X hR dX3_mirrorQuarter_49 ⟨by unfold mirQ; (repeat' split) <;> omega, rfl⟩
set_option maxHeartbeats 4000000 in
set_option maxRecDepth 20000 in
theorem sp_X3_touches {sort k x y q : Int} {w : wd} (hs : rg sort) (hk : rg k) (hx : -1000 ≤ x ∧ x ≤ 1000) (hy : -1000 ≤ y ∧ y ≤ 1000) (hq : rg q) : CalI yX3_touches cX3_touches 5 .boolean 1 LAY w [vI sort, vI k, vI x, vI y, vI q] (fun a w' => a = ib (touch sort k x y q) ∧ w' = w) := by
  refine calI_intro (ls := [some (vI sort), some (vI k), some (vI x), some (vI y), some (vI q)]) (by decide) (Nat.le_of_ble_eq_true rfl) rfl (fun κ ad X hR => ?_)
  refine j_iload_n X dX3_touches_0 rfl ?_
  rcases (by omega : sort = 0 ∨ sort = 1 ∨ sort = 2 ∨ (sort < 0 ∨ 2 < sort)) with rfl | rfl | rfl | hsw
  · refine j_tabIn (off := 27) (tgt := 28) X dX3_touches_1 ⟨by decide, by decide⟩ (by decide) (by decide) rfl (by decide) ?_
    refine j_iload X dX3_touches_28 rfl ?_
    refine j_iconst X dX3_touches_30 ?_
    refine j_icmp_ne (tgt := 41) X dX3_touches_31 (by decide) ⟨by omega, by omega⟩ ⟨by omega, by omega⟩ (fun h_31 => ?_) (fun h_31 => ?_)
    · refine j_iload X dX3_touches_41 rfl ?_
      refine j_iconst X dX3_touches_43 ?_
      refine j_icmp_ne (tgt := 56) X dX3_touches_44 (by decide) ⟨by omega, by omega⟩ ⟨by omega, by omega⟩ (fun h_44 => ?_) (fun h_44 => ?_)
      · refine j_iconst X dX3_touches_56 ?_
        exact j_zreturn X hR dX3_touches_57 (by first | exact Or.inl rfl | exact Or.inr rfl | exact ib_01) ⟨by first | exact (ib_t (by omega)).symm | exact (ib_f (by omega)).symm, rfl⟩
      · refine j_iload_n X dX3_touches_47 rfl ?_
        refine j_iload_n X dX3_touches_48 rfl ?_
        refine j_icmp_ne (tgt := 56) X dX3_touches_49 (by decide) ⟨by omega, by omega⟩ ⟨by omega, by omega⟩ (fun h_49 => ?_) (fun h_49 => ?_)
        · refine j_iconst X dX3_touches_56 ?_
          exact j_zreturn X hR dX3_touches_57 (by first | exact Or.inl rfl | exact Or.inr rfl | exact ib_01) ⟨by first | exact (ib_t (by omega)).symm | exact (ib_f (by omega)).symm, rfl⟩
        · refine j_iconst X dX3_touches_52 ?_
          refine j_goto (tgt := 57) X dX3_touches_53 (by decide) ?_
          exact j_zreturn X hR dX3_touches_57 (by first | exact Or.inl rfl | exact Or.inr rfl | exact ib_01) ⟨by first | exact (ib_t (by omega)).symm | exact (ib_f (by omega)).symm, rfl⟩
    · refine j_iload_n X dX3_touches_34 rfl ?_
      refine j_iconst X dX3_touches_35 ?_
      refine j_iadd X dX3_touches_36 ?_
      refine j_iload_n X dX3_touches_37 rfl ?_
      refine j_icmp_eq (tgt := 52) X dX3_touches_38 (by decide) ⟨by omega, by omega⟩ ⟨by omega, by omega⟩ (fun h_38 => ?_) (fun h_38 => ?_)
      · refine j_iconst X dX3_touches_52 ?_
        refine j_goto (tgt := 57) X dX3_touches_53 (by decide) ?_
        exact j_zreturn X hR dX3_touches_57 (by first | exact Or.inl rfl | exact Or.inr rfl | exact ib_01) ⟨by first | exact (ib_t (by omega)).symm | exact (ib_f (by omega)).symm, rfl⟩
      · refine j_iload X dX3_touches_41 rfl ?_
        refine j_iconst X dX3_touches_43 ?_
        refine j_icmp_ne (tgt := 56) X dX3_touches_44 (by decide) ⟨by omega, by omega⟩ ⟨by omega, by omega⟩ (fun h_44 => ?_) (fun h_44 => ?_)
        · refine j_iconst X dX3_touches_56 ?_
          exact j_zreturn X hR dX3_touches_57 (by first | exact Or.inl rfl | exact Or.inr rfl | exact ib_01) ⟨by first | exact (ib_t (by omega)).symm | exact (ib_f (by omega)).symm, rfl⟩
        · refine j_iload_n X dX3_touches_47 rfl ?_
          refine j_iload_n X dX3_touches_48 rfl ?_
          refine j_icmp_ne (tgt := 56) X dX3_touches_49 (by decide) ⟨by omega, by omega⟩ ⟨by omega, by omega⟩ (fun h_49 => ?_) (fun h_49 => ?_)
          · refine j_iconst X dX3_touches_56 ?_
            exact j_zreturn X hR dX3_touches_57 (by first | exact Or.inl rfl | exact Or.inr rfl | exact ib_01) ⟨by first | exact (ib_t (by omega)).symm | exact (ib_f (by omega)).symm, rfl⟩
          · refine j_iconst X dX3_touches_52 ?_
            refine j_goto (tgt := 57) X dX3_touches_53 (by decide) ?_
            exact j_zreturn X hR dX3_touches_57 (by first | exact Or.inl rfl | exact Or.inr rfl | exact ib_01) ⟨by first | exact (ib_t (by omega)).symm | exact (ib_f (by omega)).symm, rfl⟩
  · refine j_tabIn (off := 57) (tgt := 58) X dX3_touches_1 ⟨by decide, by decide⟩ (by decide) (by decide) rfl (by decide) ?_
    refine j_iload X dX3_touches_58 rfl ?_
    refine j_iconst X dX3_touches_60 ?_
    refine j_icmp_ne (tgt := 71) X dX3_touches_61 (by decide) ⟨by omega, by omega⟩ ⟨by omega, by omega⟩ (fun h_61 => ?_) (fun h_61 => ?_)
    · refine j_iload X dX3_touches_71 rfl ?_
      refine j_if_ne (tgt := 85) X dX3_touches_73 (by decide) ⟨by omega, by omega⟩ (fun h_73 => ?_) (fun h_73 => ?_)
      · refine j_iconst X dX3_touches_85 ?_
        exact j_zreturn X hR dX3_touches_86 (by first | exact Or.inl rfl | exact Or.inr rfl | exact ib_01) ⟨by first | exact (ib_t (by omega)).symm | exact (ib_f (by omega)).symm, rfl⟩
      · refine j_iload_n X dX3_touches_76 rfl ?_
        refine j_iload_n X dX3_touches_77 rfl ?_
        refine j_icmp_ne (tgt := 85) X dX3_touches_78 (by decide) ⟨by omega, by omega⟩ ⟨by omega, by omega⟩ (fun h_78 => ?_) (fun h_78 => ?_)
        · refine j_iconst X dX3_touches_85 ?_
          exact j_zreturn X hR dX3_touches_86 (by first | exact Or.inl rfl | exact Or.inr rfl | exact ib_01) ⟨by first | exact (ib_t (by omega)).symm | exact (ib_f (by omega)).symm, rfl⟩
        · refine j_iconst X dX3_touches_81 ?_
          refine j_goto (tgt := 86) X dX3_touches_82 (by decide) ?_
          exact j_zreturn X hR dX3_touches_86 (by first | exact Or.inl rfl | exact Or.inr rfl | exact ib_01) ⟨by first | exact (ib_t (by omega)).symm | exact (ib_f (by omega)).symm, rfl⟩
    · refine j_iload_n X dX3_touches_64 rfl ?_
      refine j_iconst X dX3_touches_65 ?_
      refine j_iadd X dX3_touches_66 ?_
      refine j_iload_n X dX3_touches_67 rfl ?_
      refine j_icmp_eq (tgt := 81) X dX3_touches_68 (by decide) ⟨by omega, by omega⟩ ⟨by omega, by omega⟩ (fun h_68 => ?_) (fun h_68 => ?_)
      · refine j_iconst X dX3_touches_81 ?_
        refine j_goto (tgt := 86) X dX3_touches_82 (by decide) ?_
        exact j_zreturn X hR dX3_touches_86 (by first | exact Or.inl rfl | exact Or.inr rfl | exact ib_01) ⟨by first | exact (ib_t (by omega)).symm | exact (ib_f (by omega)).symm, rfl⟩
      · refine j_iload X dX3_touches_71 rfl ?_
        refine j_if_ne (tgt := 85) X dX3_touches_73 (by decide) ⟨by omega, by omega⟩ (fun h_73 => ?_) (fun h_73 => ?_)
        · refine j_iconst X dX3_touches_85 ?_
          exact j_zreturn X hR dX3_touches_86 (by first | exact Or.inl rfl | exact Or.inr rfl | exact ib_01) ⟨by first | exact (ib_t (by omega)).symm | exact (ib_f (by omega)).symm, rfl⟩
        · refine j_iload_n X dX3_touches_76 rfl ?_
          refine j_iload_n X dX3_touches_77 rfl ?_
          refine j_icmp_ne (tgt := 85) X dX3_touches_78 (by decide) ⟨by omega, by omega⟩ ⟨by omega, by omega⟩ (fun h_78 => ?_) (fun h_78 => ?_)
          · refine j_iconst X dX3_touches_85 ?_
            exact j_zreturn X hR dX3_touches_86 (by first | exact Or.inl rfl | exact Or.inr rfl | exact ib_01) ⟨by first | exact (ib_t (by omega)).symm | exact (ib_f (by omega)).symm, rfl⟩
          · refine j_iconst X dX3_touches_81 ?_
            refine j_goto (tgt := 86) X dX3_touches_82 (by decide) ?_
            exact j_zreturn X hR dX3_touches_86 (by first | exact Or.inl rfl | exact Or.inr rfl | exact ib_01) ⟨by first | exact (ib_t (by omega)).symm | exact (ib_f (by omega)).symm, rfl⟩
  · refine j_tabIn (off := 86) (tgt := 87) X dX3_touches_1 ⟨by decide, by decide⟩ (by decide) (by decide) rfl (by decide) ?_
    refine j_iload_n X dX3_touches_87 rfl ?_
    refine j_iload_n X dX3_touches_88 rfl ?_
    refine j_isub X dX3_touches_89 ?_
    refine j_iload_n X dX3_touches_90 rfl ?_
    refine j_icmp_ne (tgt := 98) X dX3_touches_91 (by decide) ⟨by omega, by omega⟩ ⟨by omega, by omega⟩ (fun h_91 => ?_) (fun h_91 => ?_)
    · refine j_iconst X dX3_touches_98 ?_
      exact j_zreturn X hR dX3_touches_99 (by first | exact Or.inl rfl | exact Or.inr rfl | exact ib_01) ⟨by first | exact (ib_t (by omega)).symm | exact (ib_f (by omega)).symm, rfl⟩
    · refine j_iconst X dX3_touches_94 ?_
      refine j_goto (tgt := 99) X dX3_touches_95 (by decide) ?_
      exact j_zreturn X hR dX3_touches_99 (by first | exact Or.inl rfl | exact Or.inr rfl | exact ib_01) ⟨by first | exact (ib_t (by omega)).symm | exact (ib_f (by omega)).symm, rfl⟩
  · refine j_tabOut (tgt := 100) X dX3_touches_1 ⟨by omega, by omega⟩ hsw (by decide) ?_
    refine j_iload_n X dX3_touches_100 rfl ?_
    refine j_iload_n X dX3_touches_101 rfl ?_
    refine j_iadd X dX3_touches_102 ?_
    refine j_iconst X dX3_touches_103 ?_
    refine j_iadd X dX3_touches_104 ?_
    refine j_iload_n X dX3_touches_105 rfl ?_
    refine j_icmp_ne (tgt := 113) X dX3_touches_106 (by decide) ⟨by omega, by omega⟩ ⟨by omega, by omega⟩ (fun h_106 => ?_) (fun h_106 => ?_)
    · refine j_iconst X dX3_touches_113 ?_
      exact j_zreturn X hR dX3_touches_114 (by first | exact Or.inl rfl | exact Or.inr rfl | exact ib_01) ⟨by first | exact (ib_t (by omega)).symm | exact (ib_f (by omega)).symm, rfl⟩
    · refine j_iconst X dX3_touches_109 ?_
      refine j_goto (tgt := 114) X dX3_touches_110 (by decide) ?_
      exact j_zreturn X hR dX3_touches_114 (by first | exact Or.inl rfl | exact Or.inr rfl | exact ib_01) ⟨by first | exact (ib_t (by omega)).symm | exact (ib_f (by omega)).symm, rfl⟩
set_option maxHeartbeats 4000000 in
set_option maxRecDepth 20000 in
theorem sp_X3_spot {x y q : Int} {w : wd} : CalI yX3_spot cX3_spot 3 .int 1 LAY w [vI x, vI y, vI q] (fun a w' => a = spot x y q ∧ w' = w) := by
  refine calI_intro (ls := [some (vI x), some (vI y), some (vI q)]) (by decide) (Nat.le_of_ble_eq_true rfl) rfl (fun κ ad X hR => ?_)
  refine j_iload_n X dX3_spot_0 rfl ?_
  refine j_bipush X dX3_spot_1 (by decide +kernel) ?_
  refine j_iand X dX3_spot_3 (z_and15 _) ?_
  refine j_bipush X dX3_spot_4 (by decide +kernel) ?_
  refine j_ishl X dX3_spot_6 (z_shl 6 (by omega) (by omega) (by decide) _ (by decide +kernel)) ?_
  refine j_iload_n X dX3_spot_7 rfl ?_
  refine j_bipush X dX3_spot_8 (by decide +kernel) ?_
  refine j_iand X dX3_spot_10 (z_and15 _) ?_
  refine j_iconst X dX3_spot_11 ?_
  refine j_ishl X dX3_spot_12 (z_shl 2 (by omega) (by omega) (by decide) _ (by decide +kernel)) ?_
  refine j_ior X dX3_spot_13 (z_or 6 (by omega) (by omega) (by omega)) ?_
  refine j_iload_n X dX3_spot_14 rfl ?_
  refine j_iconst X dX3_spot_15 ?_
  refine j_iand X dX3_spot_16 (z_and3 _) ?_
  rw [show x % 16 * ((2 ^ 6 : Nat) : Int) + y % 16 * ((2 ^ 2 : Nat) : Int) = ((x % 16) * 16 + y % 16) * ((2 ^ 2 : Nat) : Int) by omega]
  refine j_ior X dX3_spot_17 ((show zI (((x % 16) * 16 + y % 16) * ((2 ^ 2 : Nat) : Int)) ||| zI (q % 4) = _ from z_or 2 (by omega) (by omega) (by omega))) ?_
  exact j_ireturn X hR dX3_spot_18 ⟨by unfold spot; omega, rfl⟩
theorem j_fg {κ : KT} {lay : lyT} {ad : Nat → Nat} {cn sn pc : Nat} {ls ls' : List (Option av)} {st : List av} {w : wd} (hlen : ls'.length ≤ ls.length) (hle : ∀ (k : Nat) (v : av), ls'[k]? = some (some v) → ls[k]? = some (some v)) (k : J κ lay ad cn sn pc ls' st w) : J κ lay ad cn sn pc ls st w := by
  obtain ⟨p, l, e, R, s, m, args, below, meth, c, D, cI, cZ, A, Q⟩ := κ
  intro H locs arr hP hD hS hL
  exact k H locs arr hP hD hS ⟨hL.1, Nat.le_trans hlen hL.2.1, hL.2.2.1, fun k v h => hL.2.2.2 k v (hle k v h)⟩
theorem fg_set {a : Option av} {r : List (Option av)} : ∀ (pre : List (Option av)) (k : Nat) (v : av), (pre ++ none :: r)[k]? = some (some v) → (pre ++ a :: r)[k]? = some (some v)
  | [], 0, v, h => by simp at h
  | [], k + 1, v, h => by simpa using h
  | x :: pre, 0, v, h => by simpa using h
  | x :: pre, k + 1, v, h => by
    simp only [List.cons_append, List.getElem?_cons_succ] at h ⊢
    exact fg_set pre k v h
theorem fg_0 {κ : KT} {lay : lyT} {ad : Nat → Nat} {cn sn pc : Nat} {st : List av} {w : wd} {a0 : Option av} {r : List (Option av)} (k : J κ lay ad cn sn pc (none :: r) st w) : J κ lay ad cn sn pc (a0 :: r) st w := j_fg (by simp) (fg_set []) k
theorem fg_1 {κ : KT} {lay : lyT} {ad : Nat → Nat} {cn sn pc : Nat} {st : List av} {w : wd} {a0 : Option av} {a1 : Option av} {r : List (Option av)} (k : J κ lay ad cn sn pc (a0 :: none :: r) st w) : J κ lay ad cn sn pc (a0 :: a1 :: r) st w := j_fg (by simp) (fg_set [a0]) k
theorem fg_2 {κ : KT} {lay : lyT} {ad : Nat → Nat} {cn sn pc : Nat} {st : List av} {w : wd} {a0 a1 : Option av} {a2 : Option av} {r : List (Option av)} (k : J κ lay ad cn sn pc (a0 :: a1 :: none :: r) st w) : J κ lay ad cn sn pc (a0 :: a1 :: a2 :: r) st w := j_fg (by simp) (fg_set [a0, a1]) k
theorem fg_3 {κ : KT} {lay : lyT} {ad : Nat → Nat} {cn sn pc : Nat} {st : List av} {w : wd} {a0 a1 a2 : Option av} {a3 : Option av} {r : List (Option av)} (k : J κ lay ad cn sn pc (a0 :: a1 :: a2 :: none :: r) st w) : J κ lay ad cn sn pc (a0 :: a1 :: a2 :: a3 :: r) st w := j_fg (by simp) (fg_set [a0, a1, a2]) k
theorem fg_4 {κ : KT} {lay : lyT} {ad : Nat → Nat} {cn sn pc : Nat} {st : List av} {w : wd} {a0 a1 a2 a3 : Option av} {a4 : Option av} {r : List (Option av)} (k : J κ lay ad cn sn pc (a0 :: a1 :: a2 :: a3 :: none :: r) st w) : J κ lay ad cn sn pc (a0 :: a1 :: a2 :: a3 :: a4 :: r) st w := j_fg (by simp) (fg_set [a0, a1, a2, a3]) k
theorem fg_5 {κ : KT} {lay : lyT} {ad : Nat → Nat} {cn sn pc : Nat} {st : List av} {w : wd} {a0 a1 a2 a3 a4 : Option av} {a5 : Option av} {r : List (Option av)} (k : J κ lay ad cn sn pc (a0 :: a1 :: a2 :: a3 :: a4 :: none :: r) st w) : J κ lay ad cn sn pc (a0 :: a1 :: a2 :: a3 :: a4 :: a5 :: r) st w := j_fg (by simp) (fg_set [a0, a1, a2, a3, a4]) k
theorem fg_6 {κ : KT} {lay : lyT} {ad : Nat → Nat} {cn sn pc : Nat} {st : List av} {w : wd} {a0 a1 a2 a3 a4 a5 : Option av} {a6 : Option av} {r : List (Option av)} (k : J κ lay ad cn sn pc (a0 :: a1 :: a2 :: a3 :: a4 :: a5 :: none :: r) st w) : J κ lay ad cn sn pc (a0 :: a1 :: a2 :: a3 :: a4 :: a5 :: a6 :: r) st w := j_fg (by simp) (fg_set [a0, a1, a2, a3, a4, a5]) k
theorem fg_7 {κ : KT} {lay : lyT} {ad : Nat → Nat} {cn sn pc : Nat} {st : List av} {w : wd} {a0 a1 a2 a3 a4 a5 a6 : Option av} {a7 : Option av} {r : List (Option av)} (k : J κ lay ad cn sn pc (a0 :: a1 :: a2 :: a3 :: a4 :: a5 :: a6 :: none :: r) st w) : J κ lay ad cn sn pc (a0 :: a1 :: a2 :: a3 :: a4 :: a5 :: a6 :: a7 :: r) st w := j_fg (by simp) (fg_set [a0, a1, a2, a3, a4, a5, a6]) k
theorem fg_8 {κ : KT} {lay : lyT} {ad : Nat → Nat} {cn sn pc : Nat} {st : List av} {w : wd} {a0 a1 a2 a3 a4 a5 a6 a7 : Option av} {a8 : Option av} {r : List (Option av)} (k : J κ lay ad cn sn pc (a0 :: a1 :: a2 :: a3 :: a4 :: a5 :: a6 :: a7 :: none :: r) st w) : J κ lay ad cn sn pc (a0 :: a1 :: a2 :: a3 :: a4 :: a5 :: a6 :: a7 :: a8 :: r) st w := j_fg (by simp) (fg_set [a0, a1, a2, a3, a4, a5, a6, a7]) k
theorem fg_9 {κ : KT} {lay : lyT} {ad : Nat → Nat} {cn sn pc : Nat} {st : List av} {w : wd} {a0 a1 a2 a3 a4 a5 a6 a7 a8 : Option av} {a9 : Option av} {r : List (Option av)} (k : J κ lay ad cn sn pc (a0 :: a1 :: a2 :: a3 :: a4 :: a5 :: a6 :: a7 :: a8 :: none :: r) st w) : J κ lay ad cn sn pc (a0 :: a1 :: a2 :: a3 :: a4 :: a5 :: a6 :: a7 :: a8 :: a9 :: r) st w := j_fg (by simp) (fg_set [a0, a1, a2, a3, a4, a5, a6, a7, a8]) k
theorem fg_10 {κ : KT} {lay : lyT} {ad : Nat → Nat} {cn sn pc : Nat} {st : List av} {w : wd} {a0 a1 a2 a3 a4 a5 a6 a7 a8 a9 : Option av} {a10 : Option av} {r : List (Option av)} (k : J κ lay ad cn sn pc (a0 :: a1 :: a2 :: a3 :: a4 :: a5 :: a6 :: a7 :: a8 :: a9 :: none :: r) st w) : J κ lay ad cn sn pc (a0 :: a1 :: a2 :: a3 :: a4 :: a5 :: a6 :: a7 :: a8 :: a9 :: a10 :: r) st w := j_fg (by simp) (fg_set [a0, a1, a2, a3, a4, a5, a6, a7, a8, a9]) k
theorem fg_11 {κ : KT} {lay : lyT} {ad : Nat → Nat} {cn sn pc : Nat} {st : List av} {w : wd} {a0 a1 a2 a3 a4 a5 a6 a7 a8 a9 a10 : Option av} {a11 : Option av} {r : List (Option av)} (k : J κ lay ad cn sn pc (a0 :: a1 :: a2 :: a3 :: a4 :: a5 :: a6 :: a7 :: a8 :: a9 :: a10 :: none :: r) st w) : J κ lay ad cn sn pc (a0 :: a1 :: a2 :: a3 :: a4 :: a5 :: a6 :: a7 :: a8 :: a9 :: a10 :: a11 :: r) st w := j_fg (by simp) (fg_set [a0, a1, a2, a3, a4, a5, a6, a7, a8, a9, a10]) k
theorem fg_12 {κ : KT} {lay : lyT} {ad : Nat → Nat} {cn sn pc : Nat} {st : List av} {w : wd} {a0 a1 a2 a3 a4 a5 a6 a7 a8 a9 a10 a11 : Option av} {a12 : Option av} {r : List (Option av)} (k : J κ lay ad cn sn pc (a0 :: a1 :: a2 :: a3 :: a4 :: a5 :: a6 :: a7 :: a8 :: a9 :: a10 :: a11 :: none :: r) st w) : J κ lay ad cn sn pc (a0 :: a1 :: a2 :: a3 :: a4 :: a5 :: a6 :: a7 :: a8 :: a9 :: a10 :: a11 :: a12 :: r) st w := j_fg (by simp) (fg_set [a0, a1, a2, a3, a4, a5, a6, a7, a8, a9, a10, a11]) k
theorem fg_13 {κ : KT} {lay : lyT} {ad : Nat → Nat} {cn sn pc : Nat} {st : List av} {w : wd} {a0 a1 a2 a3 a4 a5 a6 a7 a8 a9 a10 a11 a12 : Option av} {a13 : Option av} {r : List (Option av)} (k : J κ lay ad cn sn pc (a0 :: a1 :: a2 :: a3 :: a4 :: a5 :: a6 :: a7 :: a8 :: a9 :: a10 :: a11 :: a12 :: none :: r) st w) : J κ lay ad cn sn pc (a0 :: a1 :: a2 :: a3 :: a4 :: a5 :: a6 :: a7 :: a8 :: a9 :: a10 :: a11 :: a12 :: a13 :: r) st w := j_fg (by simp) (fg_set [a0, a1, a2, a3, a4, a5, a6, a7, a8, a9, a10, a11, a12]) k
