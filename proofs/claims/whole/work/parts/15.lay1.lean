section JKN
variable {κ : KT} {cc : ByteArray} {own : String} {fr : Nat} {lay : lyT} {ad : Nat → Nat} {cn sn pc : Nat} {ls : List (Option av)} {st : List av} {w : wd}
theorem jt_icmp_eq (X : Okk κ cc own fr) {a b : Int} {off : Int} {tgt : Nat} (hd : decode cc pc = .ok (.if_icmp .eq off, 3)) (ht : (pc : Int) + off = (tgt : Int)) (ha : rg a) (hb2 : rg b) (h : a = b) (k : J κ lay ad cn sn tgt ls st w) : J κ lay ad cn sn pc ls (vI b :: vI a :: st) w := j_icmp_eq X hd ht ha hb2 (fun _ => k) (fun q => absurd h q)
theorem jf_icmp_eq (X : Okk κ cc own fr) {a b : Int} {off : Int} {tgt : Nat} (hd : decode cc pc = .ok (.if_icmp .eq off, 3)) (ht : (pc : Int) + off = (tgt : Int)) (ha : rg a) (hb2 : rg b) (h : ¬ a = b) (k : J κ lay ad cn sn (pc + 3) ls st w) : J κ lay ad cn sn pc ls (vI b :: vI a :: st) w := j_icmp_eq X hd ht ha hb2 (fun q => absurd q h) (fun _ => k)
theorem jt_if_eq (X : Okk κ cc own fr) {a : Int} {off : Int} {tgt : Nat} (hd : decode cc pc = .ok (.ifCond .eq off, 3)) (ht : (pc : Int) + off = (tgt : Int)) (ha : rg a) (h : a = (0 : Int)) (k : J κ lay ad cn sn tgt ls st w) : J κ lay ad cn sn pc ls (vI a :: st) w := j_if_eq X hd ht ha (fun _ => k) (fun q => absurd h q)
theorem jf_if_eq (X : Okk κ cc own fr) {a : Int} {off : Int} {tgt : Nat} (hd : decode cc pc = .ok (.ifCond .eq off, 3)) (ht : (pc : Int) + off = (tgt : Int)) (ha : rg a) (h : ¬ a = (0 : Int)) (k : J κ lay ad cn sn (pc + 3) ls st w) : J κ lay ad cn sn pc ls (vI a :: st) w := j_if_eq X hd ht ha (fun q => absurd q h) (fun _ => k)
theorem jt_icmp_ne (X : Okk κ cc own fr) {a b : Int} {off : Int} {tgt : Nat} (hd : decode cc pc = .ok (.if_icmp .ne off, 3)) (ht : (pc : Int) + off = (tgt : Int)) (ha : rg a) (hb2 : rg b) (h : a ≠ b) (k : J κ lay ad cn sn tgt ls st w) : J κ lay ad cn sn pc ls (vI b :: vI a :: st) w := j_icmp_ne X hd ht ha hb2 (fun _ => k) (fun q => absurd h (fun z => z q))
theorem jf_icmp_ne (X : Okk κ cc own fr) {a b : Int} {off : Int} {tgt : Nat} (hd : decode cc pc = .ok (.if_icmp .ne off, 3)) (ht : (pc : Int) + off = (tgt : Int)) (ha : rg a) (hb2 : rg b) (h : a = b) (k : J κ lay ad cn sn (pc + 3) ls st w) : J κ lay ad cn sn pc ls (vI b :: vI a :: st) w := j_icmp_ne X hd ht ha hb2 (fun q => absurd h q) (fun _ => k)
theorem jt_if_ne (X : Okk κ cc own fr) {a : Int} {off : Int} {tgt : Nat} (hd : decode cc pc = .ok (.ifCond .ne off, 3)) (ht : (pc : Int) + off = (tgt : Int)) (ha : rg a) (h : a ≠ (0 : Int)) (k : J κ lay ad cn sn tgt ls st w) : J κ lay ad cn sn pc ls (vI a :: st) w := j_if_ne X hd ht ha (fun _ => k) (fun q => absurd h (fun z => z q))
theorem jf_if_ne (X : Okk κ cc own fr) {a : Int} {off : Int} {tgt : Nat} (hd : decode cc pc = .ok (.ifCond .ne off, 3)) (ht : (pc : Int) + off = (tgt : Int)) (ha : rg a) (h : a = (0 : Int)) (k : J κ lay ad cn sn (pc + 3) ls st w) : J κ lay ad cn sn pc ls (vI a :: st) w := j_if_ne X hd ht ha (fun q => absurd h q) (fun _ => k)
theorem jt_icmp_lt (X : Okk κ cc own fr) {a b : Int} {off : Int} {tgt : Nat} (hd : decode cc pc = .ok (.if_icmp .lt off, 3)) (ht : (pc : Int) + off = (tgt : Int)) (ha : rg a) (hb2 : rg b) (h : a < b) (k : J κ lay ad cn sn tgt ls st w) : J κ lay ad cn sn pc ls (vI b :: vI a :: st) w := j_icmp_lt X hd ht ha hb2 (fun _ => k) (fun q => absurd h q)
theorem jf_icmp_lt (X : Okk κ cc own fr) {a b : Int} {off : Int} {tgt : Nat} (hd : decode cc pc = .ok (.if_icmp .lt off, 3)) (ht : (pc : Int) + off = (tgt : Int)) (ha : rg a) (hb2 : rg b) (h : ¬ a < b) (k : J κ lay ad cn sn (pc + 3) ls st w) : J κ lay ad cn sn pc ls (vI b :: vI a :: st) w := j_icmp_lt X hd ht ha hb2 (fun q => absurd q h) (fun _ => k)
theorem jt_if_lt (X : Okk κ cc own fr) {a : Int} {off : Int} {tgt : Nat} (hd : decode cc pc = .ok (.ifCond .lt off, 3)) (ht : (pc : Int) + off = (tgt : Int)) (ha : rg a) (h : a < (0 : Int)) (k : J κ lay ad cn sn tgt ls st w) : J κ lay ad cn sn pc ls (vI a :: st) w := j_if_lt X hd ht ha (fun _ => k) (fun q => absurd h q)
theorem jf_if_lt (X : Okk κ cc own fr) {a : Int} {off : Int} {tgt : Nat} (hd : decode cc pc = .ok (.ifCond .lt off, 3)) (ht : (pc : Int) + off = (tgt : Int)) (ha : rg a) (h : ¬ a < (0 : Int)) (k : J κ lay ad cn sn (pc + 3) ls st w) : J κ lay ad cn sn pc ls (vI a :: st) w := j_if_lt X hd ht ha (fun q => absurd q h) (fun _ => k)
theorem jt_icmp_ge (X : Okk κ cc own fr) {a b : Int} {off : Int} {tgt : Nat} (hd : decode cc pc = .ok (.if_icmp .ge off, 3)) (ht : (pc : Int) + off = (tgt : Int)) (ha : rg a) (hb2 : rg b) (h : a ≥ b) (k : J κ lay ad cn sn tgt ls st w) : J κ lay ad cn sn pc ls (vI b :: vI a :: st) w := j_icmp_ge X hd ht ha hb2 (fun _ => k) (fun q => absurd h q)
theorem jf_icmp_ge (X : Okk κ cc own fr) {a b : Int} {off : Int} {tgt : Nat} (hd : decode cc pc = .ok (.if_icmp .ge off, 3)) (ht : (pc : Int) + off = (tgt : Int)) (ha : rg a) (hb2 : rg b) (h : ¬ a ≥ b) (k : J κ lay ad cn sn (pc + 3) ls st w) : J κ lay ad cn sn pc ls (vI b :: vI a :: st) w := j_icmp_ge X hd ht ha hb2 (fun q => absurd q h) (fun _ => k)
theorem jt_if_ge (X : Okk κ cc own fr) {a : Int} {off : Int} {tgt : Nat} (hd : decode cc pc = .ok (.ifCond .ge off, 3)) (ht : (pc : Int) + off = (tgt : Int)) (ha : rg a) (h : a ≥ (0 : Int)) (k : J κ lay ad cn sn tgt ls st w) : J κ lay ad cn sn pc ls (vI a :: st) w := j_if_ge X hd ht ha (fun _ => k) (fun q => absurd h q)
theorem jf_if_ge (X : Okk κ cc own fr) {a : Int} {off : Int} {tgt : Nat} (hd : decode cc pc = .ok (.ifCond .ge off, 3)) (ht : (pc : Int) + off = (tgt : Int)) (ha : rg a) (h : ¬ a ≥ (0 : Int)) (k : J κ lay ad cn sn (pc + 3) ls st w) : J κ lay ad cn sn pc ls (vI a :: st) w := j_if_ge X hd ht ha (fun q => absurd q h) (fun _ => k)
theorem jt_icmp_gt (X : Okk κ cc own fr) {a b : Int} {off : Int} {tgt : Nat} (hd : decode cc pc = .ok (.if_icmp .gt off, 3)) (ht : (pc : Int) + off = (tgt : Int)) (ha : rg a) (hb2 : rg b) (h : a > b) (k : J κ lay ad cn sn tgt ls st w) : J κ lay ad cn sn pc ls (vI b :: vI a :: st) w := j_icmp_gt X hd ht ha hb2 (fun _ => k) (fun q => absurd h q)
theorem jf_icmp_gt (X : Okk κ cc own fr) {a b : Int} {off : Int} {tgt : Nat} (hd : decode cc pc = .ok (.if_icmp .gt off, 3)) (ht : (pc : Int) + off = (tgt : Int)) (ha : rg a) (hb2 : rg b) (h : ¬ a > b) (k : J κ lay ad cn sn (pc + 3) ls st w) : J κ lay ad cn sn pc ls (vI b :: vI a :: st) w := j_icmp_gt X hd ht ha hb2 (fun q => absurd q h) (fun _ => k)
theorem jt_if_gt (X : Okk κ cc own fr) {a : Int} {off : Int} {tgt : Nat} (hd : decode cc pc = .ok (.ifCond .gt off, 3)) (ht : (pc : Int) + off = (tgt : Int)) (ha : rg a) (h : a > (0 : Int)) (k : J κ lay ad cn sn tgt ls st w) : J κ lay ad cn sn pc ls (vI a :: st) w := j_if_gt X hd ht ha (fun _ => k) (fun q => absurd h q)
theorem jf_if_gt (X : Okk κ cc own fr) {a : Int} {off : Int} {tgt : Nat} (hd : decode cc pc = .ok (.ifCond .gt off, 3)) (ht : (pc : Int) + off = (tgt : Int)) (ha : rg a) (h : ¬ a > (0 : Int)) (k : J κ lay ad cn sn (pc + 3) ls st w) : J κ lay ad cn sn pc ls (vI a :: st) w := j_if_gt X hd ht ha (fun q => absurd q h) (fun _ => k)
theorem jt_icmp_le (X : Okk κ cc own fr) {a b : Int} {off : Int} {tgt : Nat} (hd : decode cc pc = .ok (.if_icmp .le off, 3)) (ht : (pc : Int) + off = (tgt : Int)) (ha : rg a) (hb2 : rg b) (h : a ≤ b) (k : J κ lay ad cn sn tgt ls st w) : J κ lay ad cn sn pc ls (vI b :: vI a :: st) w := j_icmp_le X hd ht ha hb2 (fun _ => k) (fun q => absurd h q)
theorem jf_icmp_le (X : Okk κ cc own fr) {a b : Int} {off : Int} {tgt : Nat} (hd : decode cc pc = .ok (.if_icmp .le off, 3)) (ht : (pc : Int) + off = (tgt : Int)) (ha : rg a) (hb2 : rg b) (h : ¬ a ≤ b) (k : J κ lay ad cn sn (pc + 3) ls st w) : J κ lay ad cn sn pc ls (vI b :: vI a :: st) w := j_icmp_le X hd ht ha hb2 (fun q => absurd q h) (fun _ => k)
theorem jt_if_le (X : Okk κ cc own fr) {a : Int} {off : Int} {tgt : Nat} (hd : decode cc pc = .ok (.ifCond .le off, 3)) (ht : (pc : Int) + off = (tgt : Int)) (ha : rg a) (h : a ≤ (0 : Int)) (k : J κ lay ad cn sn tgt ls st w) : J κ lay ad cn sn pc ls (vI a :: st) w := j_if_le X hd ht ha (fun _ => k) (fun q => absurd h q)
theorem jf_if_le (X : Okk κ cc own fr) {a : Int} {off : Int} {tgt : Nat} (hd : decode cc pc = .ok (.ifCond .le off, 3)) (ht : (pc : Int) + off = (tgt : Int)) (ha : rg a) (h : ¬ a ≤ (0 : Int)) (k : J κ lay ad cn sn (pc + 3) ls st w) : J κ lay ad cn sn pc ls (vI a :: st) w := j_if_le X hd ht ha (fun q => absurd q h) (fun _ => k)
end JKN
/-! ===== a layout: the object b, its rows from a on ===== -/
def LzO (w : wd) (a : Nat) : Prop := ∀ r, r < 12 → (-1000 ≤ w (a + 4) r ∧ w (a + 4) r ≤ 1000) ∧ (-1000 ≤ w (a + 5) r ∧ w (a + 5) r ≤ 1000)
def lsF (w : wd) (a s : Nat) : Int := min (w (a + 4) (4 + s)) (w (a + 4) (8 + s))
def grF (w : wd) (a s : Nat) : Int := max (w (a + 5) (4 + s)) (w (a + 5) (8 + s))
def fstP (w : wd) (a m : Nat) : Int := match m with
  | 0 => 1000
  | s + 1 => min (fstP w a s) (lsF w a s)
def lstP (w : wd) (a m : Nat) : Int := match m with
  | 0 => -1000
  | s + 1 => max (lstP w a s) (grF w a s)
theorem lg_rg {w : wd} {a : Nat} (h : LzO w a) {s : Nat} (hs : s < 4) : (-1000 ≤ lsF w a s ∧ lsF w a s ≤ 1000) ∧ (-1000 ≤ grF w a s ∧ grF w a s ≤ 1000) := by
  have h1 := h (4 + s) (by omega)
  have h2 := h (8 + s) (by omega)
  unfold lsF grF
  omega
theorem fl_rg {w : wd} {a : Nat} (h : LzO w a) : ∀ m, m ≤ 4 → (-1000 ≤ fstP w a m ∧ fstP w a m ≤ 1000) ∧ (-1000 ≤ lstP w a m ∧ lstP w a m ≤ 1000)
  | 0, _ => by simp only [fstP, lstP]; omega
  | m + 1, hm => by
    have h1 := fl_rg h m (by omega)
    have h2 := lg_rg h (show m < 4 by omega)
    simp only [fstP, lstP]
    omega
def fcF (w : wd) (a s d : Nat) : Int := max (-24) (w (a + 5) ((if d = 0 then 4 else 8) + s) + 1)
def lcF (w : wd) (a s d : Nat) : Int := min 48 (w (a + 4) ((if d = 0 then 8 else 4) + s))
theorem cf_rg {w : wd} {a : Nat} (h : LzO w a) {s : Nat} (hs : s < 4) (d : Nat) : (-24 ≤ fcF w a s d ∧ fcF w a s d ≤ 1001) ∧ (-1000 ≤ lcF w a s d ∧ lcF w a s d ≤ 48) := by
  have h1 := h (4 + s) (by omega)
  have h2 := h (8 + s) (by omega)
  unfold fcF lcF
  split <;> omega
def tellF (s : Nat) (k : Int) (d : Nat) : Int := 1000 + 100 * k + 10 * (s : Int) + (d : Int)
def tcI (w : wd) (a s : Nat) (c : Int) (m : Nat) : Int := match m with
  | 0 => c
  | d + 1 => if fcF w a s d ≤ lcF w a s d then min (tcI w a s c d) (tellF s (fcF w a s d) d) else tcI w a s c d
def tcP (w : wd) (a m : Nat) : Int := match m with
  | 0 => 10000
  | s + 1 => tcI w a s (tcP w a s) 2
theorem tc_rg {w : wd} {a : Nat} (h : LzO w a) {s : Nat} (hs : s < 4) {c : Int} (hc : -200000 ≤ c ∧ c ≤ 200000) : ∀ m, m ≤ 2 → -200000 ≤ tcI w a s c m ∧ tcI w a s c m ≤ 200000
  | 0, _ => hc
  | d + 1, hd => by
    have h1 := tc_rg h hs hc d (by omega)
    have h2 := cf_rg h hs d
    simp only [tcI, tellF]
    split <;> omega
theorem tcP_rg {w : wd} {a : Nat} (h : LzO w a) : ∀ m, m ≤ 4 → -200000 ≤ tcP w a m ∧ tcP w a m ≤ 200000
  | 0, _ => by simp only [tcP]; omega
  | s + 1, hs => tc_rg h (by omega) (tcP_rg h s (by omega)) 2 (by omega)
abbrev enS (w : wd) (a s : Nat) : Prop := lcF w a s 0 < fcF w a s 0 ∧ lcF w a s 1 < fcF w a s 1
abbrev enA (w : wd) (a : Nat) : Prop := enS w a 0 ∧ enS w a 1 ∧ enS w a 2 ∧ enS w a 3
theorem enA_all {w : wd} {a : Nat} (h : enA w a) : ∀ s, s < 4 → enS w a s := fun s hs => by
  rcases (by omega : s = 0 ∨ s = 1 ∨ s = 2 ∨ s = 3) with rfl | rfl | rfl | rfl
  · exact h.1
  · exact h.2.1
  · exact h.2.2.1
  · exact h.2.2.2
def skF (w : wd) (b : Nat) : Int := if w b 7 = 1 then 2 else 1
def mspL (w : wd) (a : Nat) (sort l : Int) (i : Nat) : Int := spot (mirX sort l (w a i) (w (a + 1) i)) (mirY sort l (w a i) (w (a + 1) i)) (mirQ sort (w (a + 2) i))
abbrev fitL (w : wd) (b a : Nat) (sp us : Nat) (sort l : Int) : Prop := (2 * sp ≤ us ∧ ∀ i, i < sp → w (a + 3) (mspL w a sort l i).toNat ≠ skF w b) ∨ (¬ 2 * sp ≤ us ∧ ∀ i, i < us → sp ≤ i → w (a + 3) (mspL w a sort l i).toNat ≠ w b 7)
set_option maxHeartbeats 4000000 in
set_option maxRecDepth 20000 in
theorem sp_X2_row {k s : Int} {w : wd} : CalI yX2_row cX2_row 2 .int 1 LAY w [vI k, vI s] (fun a w' => a = 4 * k + s ∧ w' = w) := by
  refine calI_intro (ls := [some (vI k), some (vI s)]) (by decide) (Nat.le_of_ble_eq_true rfl) rfl (fun κ ad X hR => ?_)
  refine j_iconst X dX2_row_0 ?_
  refine j_iload_n X dX2_row_1 rfl ?_
  refine j_imul X dX2_row_2 ?_
  refine j_iload_n X dX2_row_3 rfl ?_
  refine j_iadd X dX2_row_4 ?_
  exact j_ireturn X hR dX2_row_5 ⟨rfl, rfl⟩
set_option maxHeartbeats 4000000 in
set_option maxRecDepth 20000 in
theorem sp_X6_tell {s k d : Int} {w : wd} : CalI yX6_tell cX6_tell 3 .int 1 LAY w [vI s, vI k, vI d] (fun a w' => a = 1000 + 100 * k + 10 * s + d ∧ w' = w) := by
  refine calI_intro (ls := [some (vI s), some (vI k), some (vI d)]) (by decide) (Nat.le_of_ble_eq_true rfl) rfl (fun κ ad X hR => ?_)
  refine j_sipush X dX6_tell_0 (by decide +kernel) ?_
  refine j_bipush X dX6_tell_3 (by decide +kernel) ?_
  refine j_iload_n X dX6_tell_5 rfl ?_
  refine j_imul X dX6_tell_6 ?_
  refine j_iadd X dX6_tell_7 ?_
  refine j_bipush X dX6_tell_8 (by decide +kernel) ?_
  refine j_iload_n X dX6_tell_10 rfl ?_
  refine j_imul X dX6_tell_11 ?_
  refine j_iadd X dX6_tell_12 ?_
  refine j_iload_n X dX6_tell_13 rfl ?_
  refine j_iadd X dX6_tell_14 ?_
  exact j_ireturn X hR dX6_tell_15 ⟨rfl, rfl⟩
set_option maxHeartbeats 4000000 in
set_option maxRecDepth 20000 in
theorem sp_X2_secondKind_24 {w : wd} (hk : rg (w 24 7)) : CalI yX2_secondKind cX2_secondKind 1 .int 1 LAY w [vR 24] (fun r w' => r = skF w 24 ∧ w' = w) := by
  refine calI_intro (ls := [some (vR 24)]) (by decide) (Nat.le_of_ble_eq_true rfl) rfl (fun κ ad X hR => ?_)
  refine j_aload_n X dX2_secondKind_0 rfl ?_
  refine j_getI X dX2_secondKind_1 ff_X2_104 rfl rfl ?_
  refine j_iconst X dX2_secondKind_4 ?_
  refine j_icmp_ne (tgt := 12) X dX2_secondKind_5 (by decide) ⟨by omega, by omega⟩ ⟨by omega, by omega⟩ (fun h_5 => ?_) (fun h_5 => ?_)
  · refine j_iconst X dX2_secondKind_12 ?_
    exact j_ireturn X hR dX2_secondKind_13 ⟨by unfold skF; split <;> omega, rfl⟩
  · refine j_iconst X dX2_secondKind_8 ?_
    refine j_goto (tgt := 13) X dX2_secondKind_9 (by decide) ?_
    exact j_ireturn X hR dX2_secondKind_13 ⟨by unfold skF; split <;> omega, rfl⟩
set_option maxHeartbeats 4000000 in
set_option maxRecDepth 20000 in
theorem sp_X2_least_24 {s : Nat} {w : wd} (hz : LzO w 46) (hs : s < 4) : CalI yX2_least cX2_least 2 .int 2 LAY w [vR 24, vI (s : Int)] (fun r w' => r = lsF w 46 s ∧ w' = w) := by
  have h1 := hz (4 + s) (by omega)
  have h2 := hz (8 + s) (by omega)
  simp only [show 46 + 4 = 50 from rfl, show 46 + 5 = 51 from rfl] at h1 h2
  refine calI_intro (ls := [some (vR 24), some (vI (s : Int))]) (by decide) (Nat.le_of_ble_eq_true rfl) rfl (fun κ ad X hR => ?_)
  refine j_aload_n X dX2_least_0 rfl ?_
  refine j_getR X dX2_least_1 ff_X2_26 rfl rfl ?_
  refine j_iconst X dX2_least_4 ?_
  refine j_iload_n X dX2_least_5 rfl ?_
  refine cS2i X mf_X2_row ms_X2_row ml_X2_113 (by decide) (Nat.le_of_ble_eq_true rfl) dX2_least_6 (sp_X2_row) (fun a_6 w_6 h_6 => ?_)
  obtain ⟨_, _⟩ := h_6
  subst a_6
  subst w_6
  rw [show (4 : Int) * 1 + (s : Int) = ((4 + s : Nat) : Int) by omega]
  refine cS2i X mf_X5_get ms_X5_get ml_X2_87 (by decide) (Nat.le_of_ble_eq_true rfl) dX2_least_9 (sp_getk (k := 4 + s) rfl (by decide) (by omega)) (fun a_9 w_9 h_9 => ?_)
  obtain ⟨_, _⟩ := h_9
  subst a_9
  subst w_9
  refine j_aload_n X dX2_least_12 rfl ?_
  refine j_getR X dX2_least_13 ff_X2_26 rfl rfl ?_
  refine j_iconst X dX2_least_16 ?_
  refine j_iload_n X dX2_least_17 rfl ?_
  refine cS2i X mf_X2_row ms_X2_row ml_X2_113 (by decide) (Nat.le_of_ble_eq_true rfl) dX2_least_18 (sp_X2_row) (fun a_18 w_18 h_18 => ?_)
  obtain ⟨_, _⟩ := h_18
  subst a_18
  subst w_18
  rw [show (4 : Int) * 2 + (s : Int) = ((8 + s : Nat) : Int) by omega]
  refine cS2i X mf_X5_get ms_X5_get ml_X2_87 (by decide) (Nat.le_of_ble_eq_true rfl) dX2_least_21 (sp_getk (k := 8 + s) rfl (by decide) (by omega)) (fun a_21 w_21 h_21 => ?_)
  obtain ⟨_, _⟩ := h_21
  subst a_21
  subst w_21
  refine j_mmin X csOk_0 mt_X2_124 (by decide) (Nat.le_of_ble_eq_true rfl) dX2_least_24 ⟨by omega, by omega⟩ ⟨by omega, by omega⟩ ?_
  exact j_ireturn X hR dX2_least_27 ⟨rfl, rfl⟩
set_option maxHeartbeats 4000000 in
set_option maxRecDepth 20000 in
theorem sp_X2_greatest_24 {s : Nat} {w : wd} (hz : LzO w 46) (hs : s < 4) : CalI yX2_greatest cX2_greatest 2 .int 2 LAY w [vR 24, vI (s : Int)] (fun r w' => r = grF w 46 s ∧ w' = w) := by
  have h1 := hz (4 + s) (by omega)
  have h2 := hz (8 + s) (by omega)
  simp only [show 46 + 4 = 50 from rfl, show 46 + 5 = 51 from rfl] at h1 h2
  refine calI_intro (ls := [some (vR 24), some (vI (s : Int))]) (by decide) (Nat.le_of_ble_eq_true rfl) rfl (fun κ ad X hR => ?_)
  refine j_aload_n X dX2_greatest_0 rfl ?_
  refine j_getR X dX2_greatest_1 ff_X2_29 rfl rfl ?_
  refine j_iconst X dX2_greatest_4 ?_
  refine j_iload_n X dX2_greatest_5 rfl ?_
  refine cS2i X mf_X2_row ms_X2_row ml_X2_113 (by decide) (Nat.le_of_ble_eq_true rfl) dX2_greatest_6 (sp_X2_row) (fun a_6 w_6 h_6 => ?_)
  obtain ⟨_, _⟩ := h_6
  subst a_6
  subst w_6
  rw [show (4 : Int) * 1 + (s : Int) = ((4 + s : Nat) : Int) by omega]
  refine cS2i X mf_X5_get ms_X5_get ml_X2_87 (by decide) (Nat.le_of_ble_eq_true rfl) dX2_greatest_9 (sp_getk (k := 4 + s) rfl (by decide) (by omega)) (fun a_9 w_9 h_9 => ?_)
  obtain ⟨_, _⟩ := h_9
  subst a_9
  subst w_9
  refine j_aload_n X dX2_greatest_12 rfl ?_
  refine j_getR X dX2_greatest_13 ff_X2_29 rfl rfl ?_
  refine j_iconst X dX2_greatest_16 ?_
  refine j_iload_n X dX2_greatest_17 rfl ?_
  refine cS2i X mf_X2_row ms_X2_row ml_X2_113 (by decide) (Nat.le_of_ble_eq_true rfl) dX2_greatest_18 (sp_X2_row) (fun a_18 w_18 h_18 => ?_)
  obtain ⟨_, _⟩ := h_18
  subst a_18
  subst w_18
  rw [show (4 : Int) * 2 + (s : Int) = ((8 + s : Nat) : Int) by omega]
  refine cS2i X mf_X5_get ms_X5_get ml_X2_87 (by decide) (Nat.le_of_ble_eq_true rfl) dX2_greatest_21 (sp_getk (k := 8 + s) rfl (by decide) (by omega)) (fun a_21 w_21 h_21 => ?_)
  obtain ⟨_, _⟩ := h_21
  subst a_21
  subst w_21
  refine j_mmax X csOk_0 mt_X2_129 (by decide) (Nat.le_of_ble_eq_true rfl) dX2_greatest_24 ⟨by omega, by omega⟩ ⟨by omega, by omega⟩ ?_
  exact j_ireturn X hR dX2_greatest_27 ⟨rfl, rfl⟩
set_option maxHeartbeats 4000000 in
set_option maxRecDepth 20000 in
theorem sp_X2_firstStrip_24 {w : wd} (hz : LzO w 46) : CalI yX2_firstStrip cX2_firstStrip 3 .int 3 LAY w [vR 24] (fun r w' => r = fstP w 46 4 ∧ w' = w) := by
  refine calI_intro (ls := [some (vR 24), none, none]) (by decide) (Nat.le_of_ble_eq_true rfl) rfl (fun κ ad X hR => ?_)
  refine j_sipush X dX2_firstStrip_0 (by decide +kernel) ?_
  refine s_1 X dX2_firstStrip_3 rfl ?_
  refine j_iconst X dX2_firstStrip_4 ?_
  refine s_2 X dX2_firstStrip_5 rfl ?_
  have L_6 : ∀ (m : Nat) (s : Nat) (c : Int) (_ : c = fstP w 46 s) (_ : s ≤ 4) (_ : 4 - s < m), J κ LAY ad 0 0 6 [some (vR 24), some (vI c), some (vI (s : Int))] [] w := by
    intro m
    induction m with
    | zero => intro s c hc h1 h2; exact absurd h2 (Nat.not_lt_zero _)
    | succ m ih6 =>
      intro s c hc h1 h2
      have hr := fl_rg hz s h1
      refine j_iload_n X dX2_firstStrip_6 rfl ?_
      refine j_iconst X dX2_firstStrip_7 ?_
      refine j_icmp_ge (tgt := 27) X dX2_firstStrip_8 (by decide) ⟨by omega, by omega⟩ ⟨by omega, by omega⟩ (fun h_8 => ?_) (fun h_8 => ?_)
      · refine j_iload_n X dX2_firstStrip_27 rfl ?_
        exact j_ireturn X hR dX2_firstStrip_28 ⟨by rw [hc, show s = 4 by omega], rfl⟩
      · refine j_iload_n X dX2_firstStrip_11 rfl ?_
        have hl := lg_rg hz (show s < 4 by omega)
        refine j_aload_n X dX2_firstStrip_12 rfl ?_
        refine j_iload_n X dX2_firstStrip_13 rfl ?_
        refine cV1i X mf_X2_least mv_X2_least ml_X2_132 (by decide) rfl rfl (Nat.le_of_ble_eq_true rfl) dX2_firstStrip_14 (sp_X2_least_24 hz (by omega)) (fun a_14 w_14 h_14 => ?_)
        obtain ⟨_, _⟩ := h_14
        subst a_14
        subst w_14
        refine j_mmin X csOk_0 mt_X2_124 (by decide) (Nat.le_of_ble_eq_true rfl) dX2_firstStrip_17 ⟨by omega, by omega⟩ ⟨by omega, by omega⟩ ?_
        refine s_1 X dX2_firstStrip_20 rfl ?_
        refine inc_2 X dX2_firstStrip_21 rfl ?_
        refine j_goto (tgt := 6) X dX2_firstStrip_24 (by decide) ?_
        exact ih6 (s + 1) _ (by rw [hc]; rfl) (by omega) (by omega)
  exact L_6 5 0 _ rfl (by omega) (by omega)
set_option maxHeartbeats 4000000 in
set_option maxRecDepth 20000 in
theorem sp_X2_lastStrip_24 {w : wd} (hz : LzO w 46) : CalI yX2_lastStrip cX2_lastStrip 3 .int 3 LAY w [vR 24] (fun r w' => r = lstP w 46 4 ∧ w' = w) := by
  refine calI_intro (ls := [some (vR 24), none, none]) (by decide) (Nat.le_of_ble_eq_true rfl) rfl (fun κ ad X hR => ?_)
  refine j_sipush X dX2_lastStrip_0 (by decide +kernel) ?_
  refine s_1 X dX2_lastStrip_3 rfl ?_
  refine j_iconst X dX2_lastStrip_4 ?_
  refine s_2 X dX2_lastStrip_5 rfl ?_
  have L_6 : ∀ (m : Nat) (s : Nat) (c : Int) (_ : c = lstP w 46 s) (_ : s ≤ 4) (_ : 4 - s < m), J κ LAY ad 0 0 6 [some (vR 24), some (vI c), some (vI (s : Int))] [] w := by
    intro m
    induction m with
    | zero => intro s c hc h1 h2; exact absurd h2 (Nat.not_lt_zero _)
    | succ m ih6 =>
      intro s c hc h1 h2
      have hr := fl_rg hz s h1
      refine j_iload_n X dX2_lastStrip_6 rfl ?_
      refine j_iconst X dX2_lastStrip_7 ?_
      refine j_icmp_ge (tgt := 27) X dX2_lastStrip_8 (by decide) ⟨by omega, by omega⟩ ⟨by omega, by omega⟩ (fun h_8 => ?_) (fun h_8 => ?_)
      · refine j_iload_n X dX2_lastStrip_27 rfl ?_
        exact j_ireturn X hR dX2_lastStrip_28 ⟨by rw [hc, show s = 4 by omega], rfl⟩
      · refine j_iload_n X dX2_lastStrip_11 rfl ?_
        have hl := lg_rg hz (show s < 4 by omega)
        refine j_aload_n X dX2_lastStrip_12 rfl ?_
        refine j_iload_n X dX2_lastStrip_13 rfl ?_
        refine cV1i X mf_X2_greatest mv_X2_greatest ml_X2_135 (by decide) rfl rfl (Nat.le_of_ble_eq_true rfl) dX2_lastStrip_14 (sp_X2_greatest_24 hz (by omega)) (fun a_14 w_14 h_14 => ?_)
        obtain ⟨_, _⟩ := h_14
        subst a_14
        subst w_14
        refine j_mmax X csOk_0 mt_X2_129 (by decide) (Nat.le_of_ble_eq_true rfl) dX2_lastStrip_17 ⟨by omega, by omega⟩ ⟨by omega, by omega⟩ ?_
        refine s_1 X dX2_lastStrip_20 rfl ?_
        refine inc_2 X dX2_lastStrip_21 rfl ?_
        refine j_goto (tgt := 6) X dX2_lastStrip_24 (by decide) ?_
        exact ih6 (s + 1) _ (by rw [hc]; rfl) (by omega) (by omega)
  exact L_6 5 0 _ rfl (by omega) (by omega)
set_option maxHeartbeats 4000000 in
set_option maxRecDepth 20000 in
theorem sp_X2_isCrossed_24 {s : Nat} {k : Int} {w : wd} (hz : LzO w 46) (hs : s < 4) (hk : rg k) : CalI yX2_isCrossed cX2_isCrossed 3 .boolean 3 LAY w [vR 24, vI (s : Int), vI k] (fun r w' => r = ib (lsF w 46 s < k ∧ k ≤ grF w 46 s) ∧ w' = w) := by
  have hl := lg_rg hz hs
  refine calI_intro (ls := [some (vR 24), some (vI (s : Int)), some (vI k)]) (by decide) (Nat.le_of_ble_eq_true rfl) rfl (fun κ ad X hR => ?_)
  refine j_aload_n X dX2_isCrossed_0 rfl ?_
  refine j_iload_n X dX2_isCrossed_1 rfl ?_
  refine cV1i X mf_X2_least mv_X2_least ml_X2_132 (by decide) rfl rfl (Nat.le_of_ble_eq_true rfl) dX2_isCrossed_2 (sp_X2_least_24 hz hs) (fun a_2 w_2 h_2 => ?_)
  obtain ⟨_, _⟩ := h_2
  subst a_2
  subst w_2
  refine j_iload_n X dX2_isCrossed_5 rfl ?_
  refine j_icmp_ge (tgt := 22) X dX2_isCrossed_6 (by decide) ⟨by omega, by omega⟩ ⟨by omega, by omega⟩ (fun h_6 => ?_) (fun h_6 => ?_)
  · refine j_iconst X dX2_isCrossed_22 ?_
    exact j_zreturn X hR dX2_isCrossed_23 (by first | exact Or.inl rfl | exact Or.inr rfl | exact ib_01) ⟨by first | exact (ib_t (by omega)).symm | exact (ib_f (by omega)).symm, rfl⟩
  · refine j_aload_n X dX2_isCrossed_9 rfl ?_
    refine j_iload_n X dX2_isCrossed_10 rfl ?_
    refine cV1i X mf_X2_greatest mv_X2_greatest ml_X2_135 (by decide) rfl rfl (Nat.le_of_ble_eq_true rfl) dX2_isCrossed_11 (sp_X2_greatest_24 hz hs) (fun a_11 w_11 h_11 => ?_)
    obtain ⟨_, _⟩ := h_11
    subst a_11
    subst w_11
    refine j_iload_n X dX2_isCrossed_14 rfl ?_
    refine j_icmp_lt (tgt := 22) X dX2_isCrossed_15 (by decide) ⟨by omega, by omega⟩ ⟨by omega, by omega⟩ (fun h_15 => ?_) (fun h_15 => ?_)
    · refine j_iconst X dX2_isCrossed_22 ?_
      exact j_zreturn X hR dX2_isCrossed_23 (by first | exact Or.inl rfl | exact Or.inr rfl | exact ib_01) ⟨by first | exact (ib_t (by omega)).symm | exact (ib_f (by omega)).symm, rfl⟩
    · refine j_iconst X dX2_isCrossed_18 ?_
      refine j_goto (tgt := 23) X dX2_isCrossed_19 (by decide) ?_
      exact j_zreturn X hR dX2_isCrossed_23 (by first | exact Or.inl rfl | exact Or.inr rfl | exact ib_01) ⟨by first | exact (ib_t (by omega)).symm | exact (ib_f (by omega)).symm, rfl⟩
set_option maxHeartbeats 4000000 in
set_option maxRecDepth 20000 in
theorem sp_X2_firstCut__24 {s d : Nat} {w : wd} (hz : LzO w 46) (hs : s < 4) (hd : d < 2) : CalI yX2_firstCut_ cX2_firstCut_ 4 .int 2 LAY w [vR 24, vI (s : Int), vI (d : Int)] (fun r w' => r = fcF w 46 s d ∧ w' = w) := by
  have h1 := hz (4 + s) (by omega)
  have h2 := hz (8 + s) (by omega)
  simp only [show 46 + 4 = 50 from rfl, show 46 + 5 = 51 from rfl] at h1 h2
  refine calI_intro (ls := [some (vR 24), some (vI (s : Int)), some (vI (d : Int)), none]) (by decide) (Nat.le_of_ble_eq_true rfl) rfl (fun κ ad X hR => ?_)
  refine j_iload_n X dX2_firstCut__0 rfl ?_
  refine j_if_ne (tgt := 8) X dX2_firstCut__1 (by decide) ⟨by omega, by omega⟩ (fun h_1 => ?_) (fun h_1 => ?_)
  · refine j_iconst X dX2_firstCut__8 ?_
    refine s_3 X dX2_firstCut__9 rfl ?_
    refine j_bipush X dX2_firstCut__10 (by decide +kernel) ?_
    refine j_aload_n X dX2_firstCut__12 rfl ?_
    refine j_getR X dX2_firstCut__13 ff_X2_29 rfl rfl ?_
    refine j_iload_n X dX2_firstCut__16 rfl ?_
    refine j_iload_n X dX2_firstCut__17 rfl ?_
    refine cS2i X mf_X2_row ms_X2_row ml_X2_113 (by decide) (Nat.le_of_ble_eq_true rfl) dX2_firstCut__18 (sp_X2_row) (fun a_18 w_18 h_18 => ?_)
    obtain ⟨_, _⟩ := h_18
    subst a_18
    subst w_18
    first | rw [show (4 : Int) * 1 + (s : Int) = ((4 + s : Nat) : Int) by omega] | rw [show (4 : Int) * 2 + (s : Int) = ((8 + s : Nat) : Int) by omega]
    refine cS2i X mf_X5_get ms_X5_get ml_X2_87 (by decide) (Nat.le_of_ble_eq_true rfl) dX2_firstCut__21 (sp_getk (k := 8 + s) rfl (by decide) (by omega)) (fun a_21 w_21 h_21 => ?_)
    obtain ⟨_, _⟩ := h_21
    subst a_21
    subst w_21
    refine j_iconst X dX2_firstCut__24 ?_
    refine j_iadd X dX2_firstCut__25 ?_
    refine j_mmax X csOk_0 mt_X2_129 (by decide) (Nat.le_of_ble_eq_true rfl) dX2_firstCut__26 ⟨by omega, by omega⟩ ⟨by omega, by omega⟩ ?_
    exact j_ireturn X hR dX2_firstCut__29 ⟨by unfold fcF; rw [if_neg (by omega)], rfl⟩
  · refine j_iconst X dX2_firstCut__4 ?_
    refine j_goto (tgt := 9) X dX2_firstCut__5 (by decide) ?_
    refine s_3 X dX2_firstCut__9 rfl ?_
    refine j_bipush X dX2_firstCut__10 (by decide +kernel) ?_
    refine j_aload_n X dX2_firstCut__12 rfl ?_
    refine j_getR X dX2_firstCut__13 ff_X2_29 rfl rfl ?_
    refine j_iload_n X dX2_firstCut__16 rfl ?_
    refine j_iload_n X dX2_firstCut__17 rfl ?_
    refine cS2i X mf_X2_row ms_X2_row ml_X2_113 (by decide) (Nat.le_of_ble_eq_true rfl) dX2_firstCut__18 (sp_X2_row) (fun a_18 w_18 h_18 => ?_)
    obtain ⟨_, _⟩ := h_18
    subst a_18
    subst w_18
    first | rw [show (4 : Int) * 1 + (s : Int) = ((4 + s : Nat) : Int) by omega] | rw [show (4 : Int) * 2 + (s : Int) = ((8 + s : Nat) : Int) by omega]
    refine cS2i X mf_X5_get ms_X5_get ml_X2_87 (by decide) (Nat.le_of_ble_eq_true rfl) dX2_firstCut__21 (sp_getk (k := 4 + s) rfl (by decide) (by omega)) (fun a_21 w_21 h_21 => ?_)
    obtain ⟨_, _⟩ := h_21
    subst a_21
    subst w_21
    refine j_iconst X dX2_firstCut__24 ?_
    refine j_iadd X dX2_firstCut__25 ?_
    refine j_mmax X csOk_0 mt_X2_129 (by decide) (Nat.le_of_ble_eq_true rfl) dX2_firstCut__26 ⟨by omega, by omega⟩ ⟨by omega, by omega⟩ ?_
    exact j_ireturn X hR dX2_firstCut__29 ⟨by unfold fcF; rw [if_pos (by omega)], rfl⟩
set_option maxHeartbeats 4000000 in
set_option maxRecDepth 20000 in
theorem sp_X2_lastCut_24 {s d : Nat} {w : wd} (hz : LzO w 46) (hs : s < 4) (hd : d < 2) : CalI yX2_lastCut cX2_lastCut 4 .int 2 LAY w [vR 24, vI (s : Int), vI (d : Int)] (fun r w' => r = lcF w 46 s d ∧ w' = w) := by
  have h1 := hz (4 + s) (by omega)
  have h2 := hz (8 + s) (by omega)
  simp only [show 46 + 4 = 50 from rfl, show 46 + 5 = 51 from rfl] at h1 h2
  refine calI_intro (ls := [some (vR 24), some (vI (s : Int)), some (vI (d : Int)), none]) (by decide) (Nat.le_of_ble_eq_true rfl) rfl (fun κ ad X hR => ?_)
  refine j_iload_n X dX2_lastCut_0 rfl ?_
  refine j_if_ne (tgt := 8) X dX2_lastCut_1 (by decide) ⟨by omega, by omega⟩ (fun h_1 => ?_) (fun h_1 => ?_)
  · refine j_iconst X dX2_lastCut_8 ?_
    refine s_3 X dX2_lastCut_9 rfl ?_
    refine j_bipush X dX2_lastCut_10 (by decide +kernel) ?_
    refine j_aload_n X dX2_lastCut_12 rfl ?_
    refine j_getR X dX2_lastCut_13 ff_X2_26 rfl rfl ?_
    refine j_iload_n X dX2_lastCut_16 rfl ?_
    refine j_iload_n X dX2_lastCut_17 rfl ?_
    refine cS2i X mf_X2_row ms_X2_row ml_X2_113 (by decide) (Nat.le_of_ble_eq_true rfl) dX2_lastCut_18 (sp_X2_row) (fun a_18 w_18 h_18 => ?_)
    obtain ⟨_, _⟩ := h_18
    subst a_18
    subst w_18
    first | rw [show (4 : Int) * 1 + (s : Int) = ((4 + s : Nat) : Int) by omega] | rw [show (4 : Int) * 2 + (s : Int) = ((8 + s : Nat) : Int) by omega]
    refine cS2i X mf_X5_get ms_X5_get ml_X2_87 (by decide) (Nat.le_of_ble_eq_true rfl) dX2_lastCut_21 (sp_getk (k := 4 + s) rfl (by decide) (by omega)) (fun a_21 w_21 h_21 => ?_)
    obtain ⟨_, _⟩ := h_21
    subst a_21
    subst w_21
    refine j_mmin X csOk_0 mt_X2_124 (by decide) (Nat.le_of_ble_eq_true rfl) dX2_lastCut_24 ⟨by omega, by omega⟩ ⟨by omega, by omega⟩ ?_
    exact j_ireturn X hR dX2_lastCut_27 ⟨by unfold lcF; rw [if_neg (by omega)], rfl⟩
  · refine j_iconst X dX2_lastCut_4 ?_
    refine j_goto (tgt := 9) X dX2_lastCut_5 (by decide) ?_
    refine s_3 X dX2_lastCut_9 rfl ?_
    refine j_bipush X dX2_lastCut_10 (by decide +kernel) ?_
    refine j_aload_n X dX2_lastCut_12 rfl ?_
    refine j_getR X dX2_lastCut_13 ff_X2_26 rfl rfl ?_
    refine j_iload_n X dX2_lastCut_16 rfl ?_
    refine j_iload_n X dX2_lastCut_17 rfl ?_
    refine cS2i X mf_X2_row ms_X2_row ml_X2_113 (by decide) (Nat.le_of_ble_eq_true rfl) dX2_lastCut_18 (sp_X2_row) (fun a_18 w_18 h_18 => ?_)
    obtain ⟨_, _⟩ := h_18
    subst a_18
    subst w_18
    first | rw [show (4 : Int) * 1 + (s : Int) = ((4 + s : Nat) : Int) by omega] | rw [show (4 : Int) * 2 + (s : Int) = ((8 + s : Nat) : Int) by omega]
    refine cS2i X mf_X5_get ms_X5_get ml_X2_87 (by decide) (Nat.le_of_ble_eq_true rfl) dX2_lastCut_21 (sp_getk (k := 8 + s) rfl (by decide) (by omega)) (fun a_21 w_21 h_21 => ?_)
    obtain ⟨_, _⟩ := h_21
    subst a_21
    subst w_21
    refine j_mmin X csOk_0 mt_X2_124 (by decide) (Nat.le_of_ble_eq_true rfl) dX2_lastCut_24 ⟨by omega, by omega⟩ ⟨by omega, by omega⟩ ?_
    exact j_ireturn X hR dX2_lastCut_27 ⟨by unfold lcF; rw [if_pos (by omega)], rfl⟩
set_option maxHeartbeats 4000000 in
set_option maxRecDepth 20000 in
theorem sp_X2_isEntangled_24 {w : wd} (hz : LzO w 46) : CalI yX2_isEntangled cX2_isEntangled 2 .boolean 3 LAY w [vR 24] (fun r w' => r = ib (enA w 46) ∧ w' = w) := by
  refine calI_intro (ls := [some (vR 24), none]) (by decide) (Nat.le_of_ble_eq_true rfl) rfl (fun κ ad X hR => ?_)
  refine j_iconst X dX2_isEntangled_0 ?_
  refine s_1 X dX2_isEntangled_1 rfl ?_
  have L_2 : ∀ (m : Nat) (s : Nat) (_ : ∀ j, j < s → enS w 46 j) (_ : s ≤ 4) (_ : 4 - s < m), J κ LAY ad 0 0 2 [some (vR 24), some (vI (s : Int))] [] w := by
    intro m
    induction m with
    | zero => intro s hj h1 h2; exact absurd h2 (Nat.not_lt_zero _)
    | succ m ih2 =>
      intro s hj h1 h2
      refine j_iload_n X dX2_isEntangled_2 rfl ?_
      refine j_iconst X dX2_isEntangled_3 ?_
      refine j_icmp_ge (tgt := 45) X dX2_isEntangled_4 (by decide) ⟨by omega, by omega⟩ ⟨by omega, by omega⟩ (fun h_4 => ?_) (fun h_4 => ?_)
      · refine j_iconst X dX2_isEntangled_45 ?_
        exact j_zreturn X hR dX2_isEntangled_46 (by first | exact Or.inl rfl | exact Or.inr rfl | exact ib_01) ⟨(ib_t ⟨hj 0 (by omega), hj 1 (by omega), hj 2 (by omega), hj 3 (by omega)⟩).symm, rfl⟩
      · have c0 := cf_rg hz (show s < 4 by omega) 0
        have c1 := cf_rg hz (show s < 4 by omega) 1
        refine j_aload_n X dX2_isEntangled_7 rfl ?_
        refine j_iload_n X dX2_isEntangled_8 rfl ?_
        refine j_iconst X dX2_isEntangled_9 ?_
        refine cV2i X mf_X2_firstCut_ mv_X2_firstCut_ ml_X2_159 (by decide) rfl rfl (Nat.le_of_ble_eq_true rfl) dX2_isEntangled_10 (sp_X2_firstCut__24 (d := 0) hz (by omega) (by decide)) (fun a_10 w_10 h_10 => ?_)
        obtain ⟨_, _⟩ := h_10
        subst a_10
        subst w_10
        refine j_aload_n X dX2_isEntangled_13 rfl ?_
        refine j_iload_n X dX2_isEntangled_14 rfl ?_
        refine j_iconst X dX2_isEntangled_15 ?_
        refine cV2i X mf_X2_lastCut mv_X2_lastCut ml_X2_162 (by decide) rfl rfl (Nat.le_of_ble_eq_true rfl) dX2_isEntangled_16 (sp_X2_lastCut_24 (d := 0) hz (by omega) (by decide)) (fun a_16 w_16 h_16 => ?_)
        obtain ⟨_, _⟩ := h_16
        subst a_16
        subst w_16
        refine j_icmp_le (tgt := 37) X dX2_isEntangled_19 (by decide) ⟨by omega, by omega⟩ ⟨by omega, by omega⟩ (fun h_19 => ?_) (fun h_19 => ?_)
        · refine j_iconst X dX2_isEntangled_37 ?_
          exact j_zreturn X hR dX2_isEntangled_38 (by first | exact Or.inl rfl | exact Or.inr rfl | exact ib_01) ⟨(ib_f (fun z => by have := enA_all z s (by omega); omega)).symm, rfl⟩
        · refine j_aload_n X dX2_isEntangled_22 rfl ?_
          refine j_iload_n X dX2_isEntangled_23 rfl ?_
          refine j_iconst X dX2_isEntangled_24 ?_
          refine cV2i X mf_X2_firstCut_ mv_X2_firstCut_ ml_X2_159 (by decide) rfl rfl (Nat.le_of_ble_eq_true rfl) dX2_isEntangled_25 (sp_X2_firstCut__24 (d := 1) hz (by omega) (by decide)) (fun a_25 w_25 h_25 => ?_)
          obtain ⟨_, _⟩ := h_25
          subst a_25
          subst w_25
          refine j_aload_n X dX2_isEntangled_28 rfl ?_
          refine j_iload_n X dX2_isEntangled_29 rfl ?_
          refine j_iconst X dX2_isEntangled_30 ?_
          refine cV2i X mf_X2_lastCut mv_X2_lastCut ml_X2_162 (by decide) rfl rfl (Nat.le_of_ble_eq_true rfl) dX2_isEntangled_31 (sp_X2_lastCut_24 (d := 1) hz (by omega) (by decide)) (fun a_31 w_31 h_31 => ?_)
          obtain ⟨_, _⟩ := h_31
          subst a_31
          subst w_31
          refine j_icmp_gt (tgt := 39) X dX2_isEntangled_34 (by decide) ⟨by omega, by omega⟩ ⟨by omega, by omega⟩ (fun h_34 => ?_) (fun h_34 => ?_)
          · refine inc_1 X dX2_isEntangled_39 rfl ?_
            refine j_goto (tgt := 2) X dX2_isEntangled_42 (by decide) ?_
            exact ih2 (s + 1) (fun j h => by rcases Nat.lt_succ_iff_lt_or_eq.mp h with q1 | q1; exact hj j q1; subst q1; omega) (by omega) (by omega)
          · refine j_iconst X dX2_isEntangled_37 ?_
            exact j_zreturn X hR dX2_isEntangled_38 (by first | exact Or.inl rfl | exact Or.inr rfl | exact ib_01) ⟨(ib_f (fun z => by have := enA_all z s (by omega); omega)).symm, rfl⟩
  exact L_2 5 0 (fun j h => absurd h (Nat.not_lt_zero j)) (by omega) (by omega)
set_option maxHeartbeats 4000000 in
set_option maxRecDepth 20000 in
theorem sp_X2_cuts_24 {w : wd} (hz : LzO w 46) : CalI yX2_cuts cX2_cuts 4 .int 3 LAY w [vR 24] (fun r w' => r = sm (fun s => sm (fun d => max 0 (lcF w 46 s d - fcF w 46 s d + 1)) 2) 4 ∧ w' = w) := by
  refine calI_intro (ls := [some (vR 24), none, none, none]) (by decide) (Nat.le_of_ble_eq_true rfl) rfl (fun κ ad X hR => ?_)
  refine j_iconst X dX2_cuts_0 ?_
  refine s_1 X dX2_cuts_1 rfl ?_
  refine j_iconst X dX2_cuts_2 ?_
  refine s_2 X dX2_cuts_3 rfl ?_
  have L_4 : ∀ (m : Nat) (s : Nat) (c : Int) (_ : c = sm (fun s => sm (fun d => max 0 (lcF w 46 s d - fcF w 46 s d + 1)) 2) s) (_ : s ≤ 4) (_ : 4 - s < m), J κ LAY ad 0 0 4 [some (vR 24), some (vI c), some (vI (s : Int)), none] [] w := by
    intro m
    induction m with
    | zero => intro s c hc h1 h2; exact absurd h2 (Nat.not_lt_zero _)
    | succ m ih4 =>
      intro s c hc h1 h2
      refine j_iload_n X dX2_cuts_4 rfl ?_
      refine j_iconst X dX2_cuts_5 ?_
      refine j_icmp_ge (tgt := 50) X dX2_cuts_6 (by decide) ⟨by omega, by omega⟩ ⟨by omega, by omega⟩ (fun h_6 => ?_) (fun h_6 => ?_)
      · refine j_iload_n X dX2_cuts_50 rfl ?_
        exact j_ireturn X hR dX2_cuts_51 ⟨by rw [hc, show s = 4 by omega], rfl⟩
      · refine j_iconst X dX2_cuts_9 ?_
        refine s_3 X dX2_cuts_10 rfl ?_
        have L_11 : ∀ (m : Nat) (d : Nat) (e : Int) (_ : e = c + sm (fun d => max 0 (lcF w 46 s d - fcF w 46 s d + 1)) d) (_ : d ≤ 2) (_ : 2 - d < m), J κ LAY ad 0 0 11 [some (vR 24), some (vI e), some (vI (s : Int)), some (vI (d : Int))] [] w := by
          intro m
          induction m with
          | zero => intro d e he h3 h4; exact absurd h4 (Nat.not_lt_zero _)
          | succ m ih11 =>
            intro d e he h3 h4
            refine j_iload_n X dX2_cuts_11 rfl ?_
            refine j_iconst X dX2_cuts_12 ?_
            refine j_icmp_ge (tgt := 44) X dX2_cuts_13 (by decide) ⟨by omega, by omega⟩ ⟨by omega, by omega⟩ (fun h_13 => ?_) (fun h_13 => ?_)
            · refine inc_2 X dX2_cuts_44 rfl ?_
              refine j_goto (tgt := 4) X dX2_cuts_47 (by decide) ?_
              refine fg_3 ?_
              exact ih4 (s + 1) _ (by rw [he, sm_s, hc, show d = 2 by omega]) (by omega) (by omega)
            · have c0 := cf_rg hz (show s < 4 by omega) d
              refine j_iload_n X dX2_cuts_16 rfl ?_
              refine j_iconst X dX2_cuts_17 ?_
              refine j_aload_n X dX2_cuts_18 rfl ?_
              refine j_iload_n X dX2_cuts_19 rfl ?_
              refine j_iload_n X dX2_cuts_20 rfl ?_
              refine cV2i X mf_X2_lastCut mv_X2_lastCut ml_X2_162 (by decide) rfl rfl (Nat.le_of_ble_eq_true rfl) dX2_cuts_21 (sp_X2_lastCut_24 hz (by omega) (by omega)) (fun a_21 w_21 h_21 => ?_)
              obtain ⟨_, _⟩ := h_21
              subst a_21
              subst w_21
              refine j_aload_n X dX2_cuts_24 rfl ?_
              refine j_iload_n X dX2_cuts_25 rfl ?_
              refine j_iload_n X dX2_cuts_26 rfl ?_
              refine cV2i X mf_X2_firstCut_ mv_X2_firstCut_ ml_X2_159 (by decide) rfl rfl (Nat.le_of_ble_eq_true rfl) dX2_cuts_27 (sp_X2_firstCut__24 hz (by omega) (by omega)) (fun a_27 w_27 h_27 => ?_)
              obtain ⟨_, _⟩ := h_27
              subst a_27
              subst w_27
              refine j_isub X dX2_cuts_30 ?_
              refine j_iconst X dX2_cuts_31 ?_
              refine j_iadd X dX2_cuts_32 ?_
              refine j_mmax X csOk_0 mt_X2_129 (by decide) (Nat.le_of_ble_eq_true rfl) dX2_cuts_33 ⟨by omega, by omega⟩ ⟨by omega, by omega⟩ ?_
              refine j_iadd X dX2_cuts_36 ?_
              refine s_1 X dX2_cuts_37 rfl ?_
              refine inc_3 X dX2_cuts_38 rfl ?_
              refine j_goto (tgt := 11) X dX2_cuts_41 (by decide) ?_
              exact ih11 (d + 1) _ (by rw [sm_s, he]; exact Int.add_assoc _ _ _) (by omega) (by omega)
        exact L_11 3 0 c (by rw [sm_0]; omega) (by omega) (by omega)
  exact L_4 5 0 0 rfl (by omega) (by omega)
set_option maxHeartbeats 4000000 in
set_option maxRecDepth 20000 in
theorem sp_X2_firstCut_24 {w : wd} (hz : LzO w 46) : CalI yX2_firstCut cX2_firstCut 5 .int 3 LAY w [vR 24] (fun r w' => r = tcP w 46 4 ∧ w' = w) := by
  refine calI_intro (ls := [some (vR 24), none, none, none, none]) (by decide) (Nat.le_of_ble_eq_true rfl) rfl (fun κ ad X hR => ?_)
  refine j_sipush X dX2_firstCut_0 (by decide +kernel) ?_
  refine s_1 X dX2_firstCut_3 rfl ?_
  refine j_iconst X dX2_firstCut_4 ?_
  refine s_2 X dX2_firstCut_5 rfl ?_
  have L_6 : ∀ (m : Nat) (s : Nat) (c : Int) (_ : c = tcP w 46 s) (_ : s ≤ 4) (_ : 4 - s < m), J κ LAY ad 0 0 6 [some (vR 24), some (vI c), some (vI (s : Int)), none, none] [] w := by
    intro m
    induction m with
    | zero => intro s c hc h1 h2; exact absurd h2 (Nat.not_lt_zero _)
    | succ m ih6 =>
      intro s c hc h1 h2
      have hcr := tcP_rg hz s h1
      refine j_iload_n X dX2_firstCut_6 rfl ?_
      refine j_iconst X dX2_firstCut_7 ?_
      refine j_icmp_ge (tgt := 61) X dX2_firstCut_8 (by decide) ⟨by omega, by omega⟩ ⟨by omega, by omega⟩ (fun h_8 => ?_) (fun h_8 => ?_)
      · refine j_iload_n X dX2_firstCut_61 rfl ?_
        exact j_ireturn X hR dX2_firstCut_62 ⟨by rw [hc, show s = 4 by omega], rfl⟩
      · refine j_iconst X dX2_firstCut_11 ?_
        refine s_3 X dX2_firstCut_12 rfl ?_
        have L_13 : ∀ (m : Nat) (d : Nat) (e : Int) (_ : e = tcI w 46 s c d) (_ : d ≤ 2) (_ : 2 - d < m), J κ LAY ad 0 0 13 [some (vR 24), some (vI e), some (vI (s : Int)), some (vI (d : Int)), none] [] w := by
          intro m
          induction m with
          | zero => intro d e he h3 h4; exact absurd h4 (Nat.not_lt_zero _)
          | succ m ih13 =>
            intro d e he h3 h4
            refine j_iload_n X dX2_firstCut_13 rfl ?_
            refine j_iconst X dX2_firstCut_14 ?_
            refine j_icmp_ge (tgt := 55) X dX2_firstCut_15 (by decide) ⟨by omega, by omega⟩ ⟨by omega, by omega⟩ (fun h_15 => ?_) (fun h_15 => ?_)
            · refine inc_2 X dX2_firstCut_55 rfl ?_
              refine j_goto (tgt := 6) X dX2_firstCut_58 (by decide) ?_
              refine fg_3 ?_
              exact ih6 (s + 1) _ (by rw [he, hc, show d = 2 by omega]; rfl) (by omega) (by omega)
            · have c0 := cf_rg hz (show s < 4 by omega) d
              have her := tc_rg hz (show s < 4 by omega) (c := c) (by rw [hc]; exact hcr) d h3
              refine j_aload_n X dX2_firstCut_18 rfl ?_
              refine j_iload_n X dX2_firstCut_19 rfl ?_
              refine j_iload_n X dX2_firstCut_20 rfl ?_
              refine cV2i X mf_X2_firstCut_ mv_X2_firstCut_ ml_X2_159 (by decide) rfl rfl (Nat.le_of_ble_eq_true rfl) dX2_firstCut_21 (sp_X2_firstCut__24 hz (by omega) (by omega)) (fun a_21 w_21 h_21 => ?_)
              obtain ⟨_, _⟩ := h_21
              subst a_21
              subst w_21
              refine s_4 X dX2_firstCut_24 rfl ?_
              refine j_iload X dX2_firstCut_26 rfl ?_
              refine j_aload_n X dX2_firstCut_28 rfl ?_
              refine j_iload_n X dX2_firstCut_29 rfl ?_
              refine j_iload_n X dX2_firstCut_30 rfl ?_
              refine cV2i X mf_X2_lastCut mv_X2_lastCut ml_X2_162 (by decide) rfl rfl (Nat.le_of_ble_eq_true rfl) dX2_firstCut_31 (sp_X2_lastCut_24 hz (by omega) (by omega)) (fun a_31 w_31 h_31 => ?_)
              obtain ⟨_, _⟩ := h_31
              subst a_31
              subst w_31
              refine j_icmp_gt (tgt := 49) X dX2_firstCut_34 (by decide) ⟨by omega, by omega⟩ ⟨by omega, by omega⟩ (fun h_34 => ?_) (fun h_34 => ?_)
              · refine inc_3 X dX2_firstCut_49 rfl ?_
                refine j_goto (tgt := 13) X dX2_firstCut_52 (by decide) ?_
                refine fg_4 ?_
                exact ih13 (d + 1) _ (by rw [he]; simp only [tcI]; rw [if_neg (by omega)]) (by omega) (by omega)
              · refine j_iload_n X dX2_firstCut_37 rfl ?_
                refine j_iload_n X dX2_firstCut_38 rfl ?_
                refine j_iload X dX2_firstCut_39 rfl ?_
                refine j_iload_n X dX2_firstCut_41 rfl ?_
                refine cS3i X mf_X6_tell ms_X6_tell ml_X2_165 (by decide) (Nat.le_of_ble_eq_true rfl) dX2_firstCut_42 (sp_X6_tell) (fun a_42 w_42 h_42 => ?_)
                obtain ⟨_, _⟩ := h_42
                subst a_42
                subst w_42
                refine j_mmin X csOk_0 mt_X2_124 (by decide) (Nat.le_of_ble_eq_true rfl) dX2_firstCut_45 ⟨by omega, by omega⟩ ⟨by omega, by omega⟩ ?_
                refine s_1 X dX2_firstCut_48 rfl ?_
                refine inc_3 X dX2_firstCut_49 rfl ?_
                refine j_goto (tgt := 13) X dX2_firstCut_52 (by decide) ?_
                refine fg_4 ?_
                exact ih13 (d + 1) _ (by rw [he]; simp only [tcI, tellF]; rw [if_pos (by omega)]) (by omega) (by omega)
        exact L_13 3 0 c rfl (by omega) (by omega)
  exact L_6 5 0 _ rfl (by omega) (by omega)
set_option maxHeartbeats 4000000 in
set_option maxRecDepth 20000 in
theorem sp_X2_secondKind_25 {w : wd} (hk : rg (w 25 7)) : CalI yX2_secondKind cX2_secondKind 1 .int 1 LAY w [vR 25] (fun r w' => r = skF w 25 ∧ w' = w) := by
  refine calI_intro (ls := [some (vR 25)]) (by decide) (Nat.le_of_ble_eq_true rfl) rfl (fun κ ad X hR => ?_)
  refine j_aload_n X dX2_secondKind_0 rfl ?_
  refine j_getI X dX2_secondKind_1 ff_X2_104 rfl rfl ?_
  refine j_iconst X dX2_secondKind_4 ?_
  refine j_icmp_ne (tgt := 12) X dX2_secondKind_5 (by decide) ⟨by omega, by omega⟩ ⟨by omega, by omega⟩ (fun h_5 => ?_) (fun h_5 => ?_)
  · refine j_iconst X dX2_secondKind_12 ?_
    exact j_ireturn X hR dX2_secondKind_13 ⟨by unfold skF; split <;> omega, rfl⟩
  · refine j_iconst X dX2_secondKind_8 ?_
    refine j_goto (tgt := 13) X dX2_secondKind_9 (by decide) ?_
    exact j_ireturn X hR dX2_secondKind_13 ⟨by unfold skF; split <;> omega, rfl⟩
set_option maxHeartbeats 4000000 in
set_option maxRecDepth 20000 in
theorem sp_X2_least_25 {s : Nat} {w : wd} (hz : LzO w 40) (hs : s < 4) : CalI yX2_least cX2_least 2 .int 2 LAY w [vR 25, vI (s : Int)] (fun r w' => r = lsF w 40 s ∧ w' = w) := by
  have h1 := hz (4 + s) (by omega)
  have h2 := hz (8 + s) (by omega)
  simp only [show 40 + 4 = 44 from rfl, show 40 + 5 = 45 from rfl] at h1 h2
  refine calI_intro (ls := [some (vR 25), some (vI (s : Int))]) (by decide) (Nat.le_of_ble_eq_true rfl) rfl (fun κ ad X hR => ?_)
  refine j_aload_n X dX2_least_0 rfl ?_
  refine j_getR X dX2_least_1 ff_X2_26 rfl rfl ?_
  refine j_iconst X dX2_least_4 ?_
  refine j_iload_n X dX2_least_5 rfl ?_
  refine cS2i X mf_X2_row ms_X2_row ml_X2_113 (by decide) (Nat.le_of_ble_eq_true rfl) dX2_least_6 (sp_X2_row) (fun a_6 w_6 h_6 => ?_)
  obtain ⟨_, _⟩ := h_6
  subst a_6
  subst w_6
  rw [show (4 : Int) * 1 + (s : Int) = ((4 + s : Nat) : Int) by omega]
  refine cS2i X mf_X5_get ms_X5_get ml_X2_87 (by decide) (Nat.le_of_ble_eq_true rfl) dX2_least_9 (sp_getk (k := 4 + s) rfl (by decide) (by omega)) (fun a_9 w_9 h_9 => ?_)
  obtain ⟨_, _⟩ := h_9
  subst a_9
  subst w_9
  refine j_aload_n X dX2_least_12 rfl ?_
  refine j_getR X dX2_least_13 ff_X2_26 rfl rfl ?_
  refine j_iconst X dX2_least_16 ?_
  refine j_iload_n X dX2_least_17 rfl ?_
  refine cS2i X mf_X2_row ms_X2_row ml_X2_113 (by decide) (Nat.le_of_ble_eq_true rfl) dX2_least_18 (sp_X2_row) (fun a_18 w_18 h_18 => ?_)
  obtain ⟨_, _⟩ := h_18
  subst a_18
  subst w_18
  rw [show (4 : Int) * 2 + (s : Int) = ((8 + s : Nat) : Int) by omega]
  refine cS2i X mf_X5_get ms_X5_get ml_X2_87 (by decide) (Nat.le_of_ble_eq_true rfl) dX2_least_21 (sp_getk (k := 8 + s) rfl (by decide) (by omega)) (fun a_21 w_21 h_21 => ?_)
  obtain ⟨_, _⟩ := h_21
  subst a_21
  subst w_21
  refine j_mmin X csOk_0 mt_X2_124 (by decide) (Nat.le_of_ble_eq_true rfl) dX2_least_24 ⟨by omega, by omega⟩ ⟨by omega, by omega⟩ ?_
  exact j_ireturn X hR dX2_least_27 ⟨rfl, rfl⟩
set_option maxHeartbeats 4000000 in
set_option maxRecDepth 20000 in
theorem sp_X2_greatest_25 {s : Nat} {w : wd} (hz : LzO w 40) (hs : s < 4) : CalI yX2_greatest cX2_greatest 2 .int 2 LAY w [vR 25, vI (s : Int)] (fun r w' => r = grF w 40 s ∧ w' = w) := by
  have h1 := hz (4 + s) (by omega)
  have h2 := hz (8 + s) (by omega)
  simp only [show 40 + 4 = 44 from rfl, show 40 + 5 = 45 from rfl] at h1 h2
  refine calI_intro (ls := [some (vR 25), some (vI (s : Int))]) (by decide) (Nat.le_of_ble_eq_true rfl) rfl (fun κ ad X hR => ?_)
  refine j_aload_n X dX2_greatest_0 rfl ?_
  refine j_getR X dX2_greatest_1 ff_X2_29 rfl rfl ?_
  refine j_iconst X dX2_greatest_4 ?_
  refine j_iload_n X dX2_greatest_5 rfl ?_
  refine cS2i X mf_X2_row ms_X2_row ml_X2_113 (by decide) (Nat.le_of_ble_eq_true rfl) dX2_greatest_6 (sp_X2_row) (fun a_6 w_6 h_6 => ?_)
  obtain ⟨_, _⟩ := h_6
  subst a_6
  subst w_6
  rw [show (4 : Int) * 1 + (s : Int) = ((4 + s : Nat) : Int) by omega]
  refine cS2i X mf_X5_get ms_X5_get ml_X2_87 (by decide) (Nat.le_of_ble_eq_true rfl) dX2_greatest_9 (sp_getk (k := 4 + s) rfl (by decide) (by omega)) (fun a_9 w_9 h_9 => ?_)
  obtain ⟨_, _⟩ := h_9
  subst a_9
  subst w_9
  refine j_aload_n X dX2_greatest_12 rfl ?_
  refine j_getR X dX2_greatest_13 ff_X2_29 rfl rfl ?_
  refine j_iconst X dX2_greatest_16 ?_
  refine j_iload_n X dX2_greatest_17 rfl ?_
  refine cS2i X mf_X2_row ms_X2_row ml_X2_113 (by decide) (Nat.le_of_ble_eq_true rfl) dX2_greatest_18 (sp_X2_row) (fun a_18 w_18 h_18 => ?_)
  obtain ⟨_, _⟩ := h_18
  subst a_18
  subst w_18
  rw [show (4 : Int) * 2 + (s : Int) = ((8 + s : Nat) : Int) by omega]
  refine cS2i X mf_X5_get ms_X5_get ml_X2_87 (by decide) (Nat.le_of_ble_eq_true rfl) dX2_greatest_21 (sp_getk (k := 8 + s) rfl (by decide) (by omega)) (fun a_21 w_21 h_21 => ?_)
  obtain ⟨_, _⟩ := h_21
  subst a_21
  subst w_21
  refine j_mmax X csOk_0 mt_X2_129 (by decide) (Nat.le_of_ble_eq_true rfl) dX2_greatest_24 ⟨by omega, by omega⟩ ⟨by omega, by omega⟩ ?_
  exact j_ireturn X hR dX2_greatest_27 ⟨rfl, rfl⟩
set_option maxHeartbeats 4000000 in
set_option maxRecDepth 20000 in
theorem sp_X2_firstStrip_25 {w : wd} (hz : LzO w 40) : CalI yX2_firstStrip cX2_firstStrip 3 .int 3 LAY w [vR 25] (fun r w' => r = fstP w 40 4 ∧ w' = w) := by
  refine calI_intro (ls := [some (vR 25), none, none]) (by decide) (Nat.le_of_ble_eq_true rfl) rfl (fun κ ad X hR => ?_)
  refine j_sipush X dX2_firstStrip_0 (by decide +kernel) ?_
  refine s_1 X dX2_firstStrip_3 rfl ?_
  refine j_iconst X dX2_firstStrip_4 ?_
  refine s_2 X dX2_firstStrip_5 rfl ?_
  have L_6 : ∀ (m : Nat) (s : Nat) (c : Int) (_ : c = fstP w 40 s) (_ : s ≤ 4) (_ : 4 - s < m), J κ LAY ad 0 0 6 [some (vR 25), some (vI c), some (vI (s : Int))] [] w := by
    intro m
    induction m with
    | zero => intro s c hc h1 h2; exact absurd h2 (Nat.not_lt_zero _)
    | succ m ih6 =>
      intro s c hc h1 h2
      have hr := fl_rg hz s h1
      refine j_iload_n X dX2_firstStrip_6 rfl ?_
      refine j_iconst X dX2_firstStrip_7 ?_
      refine j_icmp_ge (tgt := 27) X dX2_firstStrip_8 (by decide) ⟨by omega, by omega⟩ ⟨by omega, by omega⟩ (fun h_8 => ?_) (fun h_8 => ?_)
      · refine j_iload_n X dX2_firstStrip_27 rfl ?_
        exact j_ireturn X hR dX2_firstStrip_28 ⟨by rw [hc, show s = 4 by omega], rfl⟩
      · refine j_iload_n X dX2_firstStrip_11 rfl ?_
        have hl := lg_rg hz (show s < 4 by omega)
        refine j_aload_n X dX2_firstStrip_12 rfl ?_
        refine j_iload_n X dX2_firstStrip_13 rfl ?_
        refine cV1i X mf_X2_least mv_X2_least ml_X2_132 (by decide) rfl rfl (Nat.le_of_ble_eq_true rfl) dX2_firstStrip_14 (sp_X2_least_25 hz (by omega)) (fun a_14 w_14 h_14 => ?_)
        obtain ⟨_, _⟩ := h_14
        subst a_14
        subst w_14
        refine j_mmin X csOk_0 mt_X2_124 (by decide) (Nat.le_of_ble_eq_true rfl) dX2_firstStrip_17 ⟨by omega, by omega⟩ ⟨by omega, by omega⟩ ?_
        refine s_1 X dX2_firstStrip_20 rfl ?_
        refine inc_2 X dX2_firstStrip_21 rfl ?_
        refine j_goto (tgt := 6) X dX2_firstStrip_24 (by decide) ?_
        exact ih6 (s + 1) _ (by rw [hc]; rfl) (by omega) (by omega)
  exact L_6 5 0 _ rfl (by omega) (by omega)
set_option maxHeartbeats 4000000 in
set_option maxRecDepth 20000 in
theorem sp_X2_lastStrip_25 {w : wd} (hz : LzO w 40) : CalI yX2_lastStrip cX2_lastStrip 3 .int 3 LAY w [vR 25] (fun r w' => r = lstP w 40 4 ∧ w' = w) := by
  refine calI_intro (ls := [some (vR 25), none, none]) (by decide) (Nat.le_of_ble_eq_true rfl) rfl (fun κ ad X hR => ?_)
  refine j_sipush X dX2_lastStrip_0 (by decide +kernel) ?_
  refine s_1 X dX2_lastStrip_3 rfl ?_
  refine j_iconst X dX2_lastStrip_4 ?_
  refine s_2 X dX2_lastStrip_5 rfl ?_
  have L_6 : ∀ (m : Nat) (s : Nat) (c : Int) (_ : c = lstP w 40 s) (_ : s ≤ 4) (_ : 4 - s < m), J κ LAY ad 0 0 6 [some (vR 25), some (vI c), some (vI (s : Int))] [] w := by
    intro m
    induction m with
    | zero => intro s c hc h1 h2; exact absurd h2 (Nat.not_lt_zero _)
    | succ m ih6 =>
      intro s c hc h1 h2
      have hr := fl_rg hz s h1
      refine j_iload_n X dX2_lastStrip_6 rfl ?_
      refine j_iconst X dX2_lastStrip_7 ?_
      refine j_icmp_ge (tgt := 27) X dX2_lastStrip_8 (by decide) ⟨by omega, by omega⟩ ⟨by omega, by omega⟩ (fun h_8 => ?_) (fun h_8 => ?_)
      · refine j_iload_n X dX2_lastStrip_27 rfl ?_
        exact j_ireturn X hR dX2_lastStrip_28 ⟨by rw [hc, show s = 4 by omega], rfl⟩
      · refine j_iload_n X dX2_lastStrip_11 rfl ?_
        have hl := lg_rg hz (show s < 4 by omega)
        refine j_aload_n X dX2_lastStrip_12 rfl ?_
        refine j_iload_n X dX2_lastStrip_13 rfl ?_
        refine cV1i X mf_X2_greatest mv_X2_greatest ml_X2_135 (by decide) rfl rfl (Nat.le_of_ble_eq_true rfl) dX2_lastStrip_14 (sp_X2_greatest_25 hz (by omega)) (fun a_14 w_14 h_14 => ?_)
        obtain ⟨_, _⟩ := h_14
        subst a_14
        subst w_14
        refine j_mmax X csOk_0 mt_X2_129 (by decide) (Nat.le_of_ble_eq_true rfl) dX2_lastStrip_17 ⟨by omega, by omega⟩ ⟨by omega, by omega⟩ ?_
        refine s_1 X dX2_lastStrip_20 rfl ?_
        refine inc_2 X dX2_lastStrip_21 rfl ?_
        refine j_goto (tgt := 6) X dX2_lastStrip_24 (by decide) ?_
        exact ih6 (s + 1) _ (by rw [hc]; rfl) (by omega) (by omega)
  exact L_6 5 0 _ rfl (by omega) (by omega)
set_option maxHeartbeats 4000000 in
set_option maxRecDepth 20000 in
theorem sp_X2_isCrossed_25 {s : Nat} {k : Int} {w : wd} (hz : LzO w 40) (hs : s < 4) (hk : rg k) : CalI yX2_isCrossed cX2_isCrossed 3 .boolean 3 LAY w [vR 25, vI (s : Int), vI k] (fun r w' => r = ib (lsF w 40 s < k ∧ k ≤ grF w 40 s) ∧ w' = w) := by
  have hl := lg_rg hz hs
  refine calI_intro (ls := [some (vR 25), some (vI (s : Int)), some (vI k)]) (by decide) (Nat.le_of_ble_eq_true rfl) rfl (fun κ ad X hR => ?_)
  refine j_aload_n X dX2_isCrossed_0 rfl ?_
  refine j_iload_n X dX2_isCrossed_1 rfl ?_
  refine cV1i X mf_X2_least mv_X2_least ml_X2_132 (by decide) rfl rfl (Nat.le_of_ble_eq_true rfl) dX2_isCrossed_2 (sp_X2_least_25 hz hs) (fun a_2 w_2 h_2 => ?_)
  obtain ⟨_, _⟩ := h_2
  subst a_2
  subst w_2
  refine j_iload_n X dX2_isCrossed_5 rfl ?_
  refine j_icmp_ge (tgt := 22) X dX2_isCrossed_6 (by decide) ⟨by omega, by omega⟩ ⟨by omega, by omega⟩ (fun h_6 => ?_) (fun h_6 => ?_)
  · refine j_iconst X dX2_isCrossed_22 ?_
    exact j_zreturn X hR dX2_isCrossed_23 (by first | exact Or.inl rfl | exact Or.inr rfl | exact ib_01) ⟨by first | exact (ib_t (by omega)).symm | exact (ib_f (by omega)).symm, rfl⟩
  · refine j_aload_n X dX2_isCrossed_9 rfl ?_
    refine j_iload_n X dX2_isCrossed_10 rfl ?_
    refine cV1i X mf_X2_greatest mv_X2_greatest ml_X2_135 (by decide) rfl rfl (Nat.le_of_ble_eq_true rfl) dX2_isCrossed_11 (sp_X2_greatest_25 hz hs) (fun a_11 w_11 h_11 => ?_)
    obtain ⟨_, _⟩ := h_11
    subst a_11
    subst w_11
    refine j_iload_n X dX2_isCrossed_14 rfl ?_
    refine j_icmp_lt (tgt := 22) X dX2_isCrossed_15 (by decide) ⟨by omega, by omega⟩ ⟨by omega, by omega⟩ (fun h_15 => ?_) (fun h_15 => ?_)
    · refine j_iconst X dX2_isCrossed_22 ?_
      exact j_zreturn X hR dX2_isCrossed_23 (by first | exact Or.inl rfl | exact Or.inr rfl | exact ib_01) ⟨by first | exact (ib_t (by omega)).symm | exact (ib_f (by omega)).symm, rfl⟩
    · refine j_iconst X dX2_isCrossed_18 ?_
      refine j_goto (tgt := 23) X dX2_isCrossed_19 (by decide) ?_
      exact j_zreturn X hR dX2_isCrossed_23 (by first | exact Or.inl rfl | exact Or.inr rfl | exact ib_01) ⟨by first | exact (ib_t (by omega)).symm | exact (ib_f (by omega)).symm, rfl⟩
set_option maxHeartbeats 4000000 in
set_option maxRecDepth 20000 in
theorem sp_X2_firstCut__25 {s d : Nat} {w : wd} (hz : LzO w 40) (hs : s < 4) (hd : d < 2) : CalI yX2_firstCut_ cX2_firstCut_ 4 .int 2 LAY w [vR 25, vI (s : Int), vI (d : Int)] (fun r w' => r = fcF w 40 s d ∧ w' = w) := by
  have h1 := hz (4 + s) (by omega)
  have h2 := hz (8 + s) (by omega)
  simp only [show 40 + 4 = 44 from rfl, show 40 + 5 = 45 from rfl] at h1 h2
  refine calI_intro (ls := [some (vR 25), some (vI (s : Int)), some (vI (d : Int)), none]) (by decide) (Nat.le_of_ble_eq_true rfl) rfl (fun κ ad X hR => ?_)
  refine j_iload_n X dX2_firstCut__0 rfl ?_
  refine j_if_ne (tgt := 8) X dX2_firstCut__1 (by decide) ⟨by omega, by omega⟩ (fun h_1 => ?_) (fun h_1 => ?_)
  · refine j_iconst X dX2_firstCut__8 ?_
    refine s_3 X dX2_firstCut__9 rfl ?_
    refine j_bipush X dX2_firstCut__10 (by decide +kernel) ?_
    refine j_aload_n X dX2_firstCut__12 rfl ?_
    refine j_getR X dX2_firstCut__13 ff_X2_29 rfl rfl ?_
    refine j_iload_n X dX2_firstCut__16 rfl ?_
    refine j_iload_n X dX2_firstCut__17 rfl ?_
    refine cS2i X mf_X2_row ms_X2_row ml_X2_113 (by decide) (Nat.le_of_ble_eq_true rfl) dX2_firstCut__18 (sp_X2_row) (fun a_18 w_18 h_18 => ?_)
    obtain ⟨_, _⟩ := h_18
    subst a_18
    subst w_18
    first | rw [show (4 : Int) * 1 + (s : Int) = ((4 + s : Nat) : Int) by omega] | rw [show (4 : Int) * 2 + (s : Int) = ((8 + s : Nat) : Int) by omega]
    refine cS2i X mf_X5_get ms_X5_get ml_X2_87 (by decide) (Nat.le_of_ble_eq_true rfl) dX2_firstCut__21 (sp_getk (k := 8 + s) rfl (by decide) (by omega)) (fun a_21 w_21 h_21 => ?_)
    obtain ⟨_, _⟩ := h_21
    subst a_21
    subst w_21
    refine j_iconst X dX2_firstCut__24 ?_
    refine j_iadd X dX2_firstCut__25 ?_
    refine j_mmax X csOk_0 mt_X2_129 (by decide) (Nat.le_of_ble_eq_true rfl) dX2_firstCut__26 ⟨by omega, by omega⟩ ⟨by omega, by omega⟩ ?_
    exact j_ireturn X hR dX2_firstCut__29 ⟨by unfold fcF; rw [if_neg (by omega)], rfl⟩
  · refine j_iconst X dX2_firstCut__4 ?_
    refine j_goto (tgt := 9) X dX2_firstCut__5 (by decide) ?_
    refine s_3 X dX2_firstCut__9 rfl ?_
    refine j_bipush X dX2_firstCut__10 (by decide +kernel) ?_
    refine j_aload_n X dX2_firstCut__12 rfl ?_
    refine j_getR X dX2_firstCut__13 ff_X2_29 rfl rfl ?_
    refine j_iload_n X dX2_firstCut__16 rfl ?_
    refine j_iload_n X dX2_firstCut__17 rfl ?_
    refine cS2i X mf_X2_row ms_X2_row ml_X2_113 (by decide) (Nat.le_of_ble_eq_true rfl) dX2_firstCut__18 (sp_X2_row) (fun a_18 w_18 h_18 => ?_)
    obtain ⟨_, _⟩ := h_18
    subst a_18
    subst w_18
    first | rw [show (4 : Int) * 1 + (s : Int) = ((4 + s : Nat) : Int) by omega] | rw [show (4 : Int) * 2 + (s : Int) = ((8 + s : Nat) : Int) by omega]
    refine cS2i X mf_X5_get ms_X5_get ml_X2_87 (by decide) (Nat.le_of_ble_eq_true rfl) dX2_firstCut__21 (sp_getk (k := 4 + s) rfl (by decide) (by omega)) (fun a_21 w_21 h_21 => ?_)
    obtain ⟨_, _⟩ := h_21
    subst a_21
    subst w_21
    refine j_iconst X dX2_firstCut__24 ?_
    refine j_iadd X dX2_firstCut__25 ?_
    refine j_mmax X csOk_0 mt_X2_129 (by decide) (Nat.le_of_ble_eq_true rfl) dX2_firstCut__26 ⟨by omega, by omega⟩ ⟨by omega, by omega⟩ ?_
    exact j_ireturn X hR dX2_firstCut__29 ⟨by unfold fcF; rw [if_pos (by omega)], rfl⟩
set_option maxHeartbeats 4000000 in
set_option maxRecDepth 20000 in
theorem sp_X2_lastCut_25 {s d : Nat} {w : wd} (hz : LzO w 40) (hs : s < 4) (hd : d < 2) : CalI yX2_lastCut cX2_lastCut 4 .int 2 LAY w [vR 25, vI (s : Int), vI (d : Int)] (fun r w' => r = lcF w 40 s d ∧ w' = w) := by
  have h1 := hz (4 + s) (by omega)
  have h2 := hz (8 + s) (by omega)
  simp only [show 40 + 4 = 44 from rfl, show 40 + 5 = 45 from rfl] at h1 h2
  refine calI_intro (ls := [some (vR 25), some (vI (s : Int)), some (vI (d : Int)), none]) (by decide) (Nat.le_of_ble_eq_true rfl) rfl (fun κ ad X hR => ?_)
  refine j_iload_n X dX2_lastCut_0 rfl ?_
  refine j_if_ne (tgt := 8) X dX2_lastCut_1 (by decide) ⟨by omega, by omega⟩ (fun h_1 => ?_) (fun h_1 => ?_)
  · refine j_iconst X dX2_lastCut_8 ?_
    refine s_3 X dX2_lastCut_9 rfl ?_
    refine j_bipush X dX2_lastCut_10 (by decide +kernel) ?_
    refine j_aload_n X dX2_lastCut_12 rfl ?_
    refine j_getR X dX2_lastCut_13 ff_X2_26 rfl rfl ?_
    refine j_iload_n X dX2_lastCut_16 rfl ?_
    refine j_iload_n X dX2_lastCut_17 rfl ?_
    refine cS2i X mf_X2_row ms_X2_row ml_X2_113 (by decide) (Nat.le_of_ble_eq_true rfl) dX2_lastCut_18 (sp_X2_row) (fun a_18 w_18 h_18 => ?_)
    obtain ⟨_, _⟩ := h_18
    subst a_18
    subst w_18
    first | rw [show (4 : Int) * 1 + (s : Int) = ((4 + s : Nat) : Int) by omega] | rw [show (4 : Int) * 2 + (s : Int) = ((8 + s : Nat) : Int) by omega]
    refine cS2i X mf_X5_get ms_X5_get ml_X2_87 (by decide) (Nat.le_of_ble_eq_true rfl) dX2_lastCut_21 (sp_getk (k := 4 + s) rfl (by decide) (by omega)) (fun a_21 w_21 h_21 => ?_)
    obtain ⟨_, _⟩ := h_21
    subst a_21
    subst w_21
    refine j_mmin X csOk_0 mt_X2_124 (by decide) (Nat.le_of_ble_eq_true rfl) dX2_lastCut_24 ⟨by omega, by omega⟩ ⟨by omega, by omega⟩ ?_
    exact j_ireturn X hR dX2_lastCut_27 ⟨by unfold lcF; rw [if_neg (by omega)], rfl⟩
  · refine j_iconst X dX2_lastCut_4 ?_
    refine j_goto (tgt := 9) X dX2_lastCut_5 (by decide) ?_
    refine s_3 X dX2_lastCut_9 rfl ?_
    refine j_bipush X dX2_lastCut_10 (by decide +kernel) ?_
    refine j_aload_n X dX2_lastCut_12 rfl ?_
    refine j_getR X dX2_lastCut_13 ff_X2_26 rfl rfl ?_
    refine j_iload_n X dX2_lastCut_16 rfl ?_
    refine j_iload_n X dX2_lastCut_17 rfl ?_
    refine cS2i X mf_X2_row ms_X2_row ml_X2_113 (by decide) (Nat.le_of_ble_eq_true rfl) dX2_lastCut_18 (sp_X2_row) (fun a_18 w_18 h_18 => ?_)
    obtain ⟨_, _⟩ := h_18
    subst a_18
    subst w_18
    first | rw [show (4 : Int) * 1 + (s : Int) = ((4 + s : Nat) : Int) by omega] | rw [show (4 : Int) * 2 + (s : Int) = ((8 + s : Nat) : Int) by omega]
    refine cS2i X mf_X5_get ms_X5_get ml_X2_87 (by decide) (Nat.le_of_ble_eq_true rfl) dX2_lastCut_21 (sp_getk (k := 8 + s) rfl (by decide) (by omega)) (fun a_21 w_21 h_21 => ?_)
    obtain ⟨_, _⟩ := h_21
    subst a_21
    subst w_21
    refine j_mmin X csOk_0 mt_X2_124 (by decide) (Nat.le_of_ble_eq_true rfl) dX2_lastCut_24 ⟨by omega, by omega⟩ ⟨by omega, by omega⟩ ?_
    exact j_ireturn X hR dX2_lastCut_27 ⟨by unfold lcF; rw [if_pos (by omega)], rfl⟩
set_option maxHeartbeats 4000000 in
set_option maxRecDepth 20000 in
theorem sp_X2_isEntangled_25 {w : wd} (hz : LzO w 40) : CalI yX2_isEntangled cX2_isEntangled 2 .boolean 3 LAY w [vR 25] (fun r w' => r = ib (enA w 40) ∧ w' = w) := by
  refine calI_intro (ls := [some (vR 25), none]) (by decide) (Nat.le_of_ble_eq_true rfl) rfl (fun κ ad X hR => ?_)
  refine j_iconst X dX2_isEntangled_0 ?_
  refine s_1 X dX2_isEntangled_1 rfl ?_
  have L_2 : ∀ (m : Nat) (s : Nat) (_ : ∀ j, j < s → enS w 40 j) (_ : s ≤ 4) (_ : 4 - s < m), J κ LAY ad 0 0 2 [some (vR 25), some (vI (s : Int))] [] w := by
    intro m
    induction m with
    | zero => intro s hj h1 h2; exact absurd h2 (Nat.not_lt_zero _)
    | succ m ih2 =>
      intro s hj h1 h2
      refine j_iload_n X dX2_isEntangled_2 rfl ?_
      refine j_iconst X dX2_isEntangled_3 ?_
      refine j_icmp_ge (tgt := 45) X dX2_isEntangled_4 (by decide) ⟨by omega, by omega⟩ ⟨by omega, by omega⟩ (fun h_4 => ?_) (fun h_4 => ?_)
      · refine j_iconst X dX2_isEntangled_45 ?_
        exact j_zreturn X hR dX2_isEntangled_46 (by first | exact Or.inl rfl | exact Or.inr rfl | exact ib_01) ⟨(ib_t ⟨hj 0 (by omega), hj 1 (by omega), hj 2 (by omega), hj 3 (by omega)⟩).symm, rfl⟩
      · have c0 := cf_rg hz (show s < 4 by omega) 0
        have c1 := cf_rg hz (show s < 4 by omega) 1
        refine j_aload_n X dX2_isEntangled_7 rfl ?_
        refine j_iload_n X dX2_isEntangled_8 rfl ?_
        refine j_iconst X dX2_isEntangled_9 ?_
        refine cV2i X mf_X2_firstCut_ mv_X2_firstCut_ ml_X2_159 (by decide) rfl rfl (Nat.le_of_ble_eq_true rfl) dX2_isEntangled_10 (sp_X2_firstCut__25 (d := 0) hz (by omega) (by decide)) (fun a_10 w_10 h_10 => ?_)
        obtain ⟨_, _⟩ := h_10
        subst a_10
        subst w_10
        refine j_aload_n X dX2_isEntangled_13 rfl ?_
        refine j_iload_n X dX2_isEntangled_14 rfl ?_
        refine j_iconst X dX2_isEntangled_15 ?_
        refine cV2i X mf_X2_lastCut mv_X2_lastCut ml_X2_162 (by decide) rfl rfl (Nat.le_of_ble_eq_true rfl) dX2_isEntangled_16 (sp_X2_lastCut_25 (d := 0) hz (by omega) (by decide)) (fun a_16 w_16 h_16 => ?_)
        obtain ⟨_, _⟩ := h_16
        subst a_16
        subst w_16
        refine j_icmp_le (tgt := 37) X dX2_isEntangled_19 (by decide) ⟨by omega, by omega⟩ ⟨by omega, by omega⟩ (fun h_19 => ?_) (fun h_19 => ?_)
        · refine j_iconst X dX2_isEntangled_37 ?_
          exact j_zreturn X hR dX2_isEntangled_38 (by first | exact Or.inl rfl | exact Or.inr rfl | exact ib_01) ⟨(ib_f (fun z => by have := enA_all z s (by omega); omega)).symm, rfl⟩
        · refine j_aload_n X dX2_isEntangled_22 rfl ?_
          refine j_iload_n X dX2_isEntangled_23 rfl ?_
          refine j_iconst X dX2_isEntangled_24 ?_
          refine cV2i X mf_X2_firstCut_ mv_X2_firstCut_ ml_X2_159 (by decide) rfl rfl (Nat.le_of_ble_eq_true rfl) dX2_isEntangled_25 (sp_X2_firstCut__25 (d := 1) hz (by omega) (by decide)) (fun a_25 w_25 h_25 => ?_)
          obtain ⟨_, _⟩ := h_25
          subst a_25
          subst w_25
          refine j_aload_n X dX2_isEntangled_28 rfl ?_
          refine j_iload_n X dX2_isEntangled_29 rfl ?_
          refine j_iconst X dX2_isEntangled_30 ?_
          refine cV2i X mf_X2_lastCut mv_X2_lastCut ml_X2_162 (by decide) rfl rfl (Nat.le_of_ble_eq_true rfl) dX2_isEntangled_31 (sp_X2_lastCut_25 (d := 1) hz (by omega) (by decide)) (fun a_31 w_31 h_31 => ?_)
          obtain ⟨_, _⟩ := h_31
          subst a_31
          subst w_31
          refine j_icmp_gt (tgt := 39) X dX2_isEntangled_34 (by decide) ⟨by omega, by omega⟩ ⟨by omega, by omega⟩ (fun h_34 => ?_) (fun h_34 => ?_)
          · refine inc_1 X dX2_isEntangled_39 rfl ?_
            refine j_goto (tgt := 2) X dX2_isEntangled_42 (by decide) ?_
            exact ih2 (s + 1) (fun j h => by rcases Nat.lt_succ_iff_lt_or_eq.mp h with q1 | q1; exact hj j q1; subst q1; omega) (by omega) (by omega)
          · refine j_iconst X dX2_isEntangled_37 ?_
            exact j_zreturn X hR dX2_isEntangled_38 (by first | exact Or.inl rfl | exact Or.inr rfl | exact ib_01) ⟨(ib_f (fun z => by have := enA_all z s (by omega); omega)).symm, rfl⟩
  exact L_2 5 0 (fun j h => absurd h (Nat.not_lt_zero j)) (by omega) (by omega)
set_option maxHeartbeats 4000000 in
set_option maxRecDepth 20000 in
theorem sp_X2_cuts_25 {w : wd} (hz : LzO w 40) : CalI yX2_cuts cX2_cuts 4 .int 3 LAY w [vR 25] (fun r w' => r = sm (fun s => sm (fun d => max 0 (lcF w 40 s d - fcF w 40 s d + 1)) 2) 4 ∧ w' = w) := by
  refine calI_intro (ls := [some (vR 25), none, none, none]) (by decide) (Nat.le_of_ble_eq_true rfl) rfl (fun κ ad X hR => ?_)
  refine j_iconst X dX2_cuts_0 ?_
  refine s_1 X dX2_cuts_1 rfl ?_
  refine j_iconst X dX2_cuts_2 ?_
  refine s_2 X dX2_cuts_3 rfl ?_
  have L_4 : ∀ (m : Nat) (s : Nat) (c : Int) (_ : c = sm (fun s => sm (fun d => max 0 (lcF w 40 s d - fcF w 40 s d + 1)) 2) s) (_ : s ≤ 4) (_ : 4 - s < m), J κ LAY ad 0 0 4 [some (vR 25), some (vI c), some (vI (s : Int)), none] [] w := by
    intro m
    induction m with
    | zero => intro s c hc h1 h2; exact absurd h2 (Nat.not_lt_zero _)
    | succ m ih4 =>
      intro s c hc h1 h2
      refine j_iload_n X dX2_cuts_4 rfl ?_
      refine j_iconst X dX2_cuts_5 ?_
      refine j_icmp_ge (tgt := 50) X dX2_cuts_6 (by decide) ⟨by omega, by omega⟩ ⟨by omega, by omega⟩ (fun h_6 => ?_) (fun h_6 => ?_)
      · refine j_iload_n X dX2_cuts_50 rfl ?_
        exact j_ireturn X hR dX2_cuts_51 ⟨by rw [hc, show s = 4 by omega], rfl⟩
      · refine j_iconst X dX2_cuts_9 ?_
        refine s_3 X dX2_cuts_10 rfl ?_
        have L_11 : ∀ (m : Nat) (d : Nat) (e : Int) (_ : e = c + sm (fun d => max 0 (lcF w 40 s d - fcF w 40 s d + 1)) d) (_ : d ≤ 2) (_ : 2 - d < m), J κ LAY ad 0 0 11 [some (vR 25), some (vI e), some (vI (s : Int)), some (vI (d : Int))] [] w := by
          intro m
          induction m with
          | zero => intro d e he h3 h4; exact absurd h4 (Nat.not_lt_zero _)
          | succ m ih11 =>
            intro d e he h3 h4
            refine j_iload_n X dX2_cuts_11 rfl ?_
            refine j_iconst X dX2_cuts_12 ?_
            refine j_icmp_ge (tgt := 44) X dX2_cuts_13 (by decide) ⟨by omega, by omega⟩ ⟨by omega, by omega⟩ (fun h_13 => ?_) (fun h_13 => ?_)
            · refine inc_2 X dX2_cuts_44 rfl ?_
              refine j_goto (tgt := 4) X dX2_cuts_47 (by decide) ?_
              refine fg_3 ?_
              exact ih4 (s + 1) _ (by rw [he, sm_s, hc, show d = 2 by omega]) (by omega) (by omega)
            · have c0 := cf_rg hz (show s < 4 by omega) d
              refine j_iload_n X dX2_cuts_16 rfl ?_
              refine j_iconst X dX2_cuts_17 ?_
              refine j_aload_n X dX2_cuts_18 rfl ?_
              refine j_iload_n X dX2_cuts_19 rfl ?_
              refine j_iload_n X dX2_cuts_20 rfl ?_
              refine cV2i X mf_X2_lastCut mv_X2_lastCut ml_X2_162 (by decide) rfl rfl (Nat.le_of_ble_eq_true rfl) dX2_cuts_21 (sp_X2_lastCut_25 hz (by omega) (by omega)) (fun a_21 w_21 h_21 => ?_)
              obtain ⟨_, _⟩ := h_21
              subst a_21
              subst w_21
              refine j_aload_n X dX2_cuts_24 rfl ?_
              refine j_iload_n X dX2_cuts_25 rfl ?_
              refine j_iload_n X dX2_cuts_26 rfl ?_
              refine cV2i X mf_X2_firstCut_ mv_X2_firstCut_ ml_X2_159 (by decide) rfl rfl (Nat.le_of_ble_eq_true rfl) dX2_cuts_27 (sp_X2_firstCut__25 hz (by omega) (by omega)) (fun a_27 w_27 h_27 => ?_)
              obtain ⟨_, _⟩ := h_27
              subst a_27
              subst w_27
              refine j_isub X dX2_cuts_30 ?_
              refine j_iconst X dX2_cuts_31 ?_
              refine j_iadd X dX2_cuts_32 ?_
              refine j_mmax X csOk_0 mt_X2_129 (by decide) (Nat.le_of_ble_eq_true rfl) dX2_cuts_33 ⟨by omega, by omega⟩ ⟨by omega, by omega⟩ ?_
              refine j_iadd X dX2_cuts_36 ?_
              refine s_1 X dX2_cuts_37 rfl ?_
              refine inc_3 X dX2_cuts_38 rfl ?_
              refine j_goto (tgt := 11) X dX2_cuts_41 (by decide) ?_
              exact ih11 (d + 1) _ (by rw [sm_s, he]; exact Int.add_assoc _ _ _) (by omega) (by omega)
        exact L_11 3 0 c (by rw [sm_0]; omega) (by omega) (by omega)
  exact L_4 5 0 0 rfl (by omega) (by omega)
set_option maxHeartbeats 4000000 in
set_option maxRecDepth 20000 in
theorem sp_X2_firstCut_25 {w : wd} (hz : LzO w 40) : CalI yX2_firstCut cX2_firstCut 5 .int 3 LAY w [vR 25] (fun r w' => r = tcP w 40 4 ∧ w' = w) := by
  refine calI_intro (ls := [some (vR 25), none, none, none, none]) (by decide) (Nat.le_of_ble_eq_true rfl) rfl (fun κ ad X hR => ?_)
  refine j_sipush X dX2_firstCut_0 (by decide +kernel) ?_
  refine s_1 X dX2_firstCut_3 rfl ?_
  refine j_iconst X dX2_firstCut_4 ?_
  refine s_2 X dX2_firstCut_5 rfl ?_
  have L_6 : ∀ (m : Nat) (s : Nat) (c : Int) (_ : c = tcP w 40 s) (_ : s ≤ 4) (_ : 4 - s < m), J κ LAY ad 0 0 6 [some (vR 25), some (vI c), some (vI (s : Int)), none, none] [] w := by
    intro m
    induction m with
    | zero => intro s c hc h1 h2; exact absurd h2 (Nat.not_lt_zero _)
    | succ m ih6 =>
      intro s c hc h1 h2
      have hcr := tcP_rg hz s h1
      refine j_iload_n X dX2_firstCut_6 rfl ?_
      refine j_iconst X dX2_firstCut_7 ?_
      refine j_icmp_ge (tgt := 61) X dX2_firstCut_8 (by decide) ⟨by omega, by omega⟩ ⟨by omega, by omega⟩ (fun h_8 => ?_) (fun h_8 => ?_)
      · refine j_iload_n X dX2_firstCut_61 rfl ?_
        exact j_ireturn X hR dX2_firstCut_62 ⟨by rw [hc, show s = 4 by omega], rfl⟩
      · refine j_iconst X dX2_firstCut_11 ?_
        refine s_3 X dX2_firstCut_12 rfl ?_
        have L_13 : ∀ (m : Nat) (d : Nat) (e : Int) (_ : e = tcI w 40 s c d) (_ : d ≤ 2) (_ : 2 - d < m), J κ LAY ad 0 0 13 [some (vR 25), some (vI e), some (vI (s : Int)), some (vI (d : Int)), none] [] w := by
          intro m
          induction m with
          | zero => intro d e he h3 h4; exact absurd h4 (Nat.not_lt_zero _)
          | succ m ih13 =>
            intro d e he h3 h4
            refine j_iload_n X dX2_firstCut_13 rfl ?_
            refine j_iconst X dX2_firstCut_14 ?_
            refine j_icmp_ge (tgt := 55) X dX2_firstCut_15 (by decide) ⟨by omega, by omega⟩ ⟨by omega, by omega⟩ (fun h_15 => ?_) (fun h_15 => ?_)
            · refine inc_2 X dX2_firstCut_55 rfl ?_
              refine j_goto (tgt := 6) X dX2_firstCut_58 (by decide) ?_
              refine fg_3 ?_
              exact ih6 (s + 1) _ (by rw [he, hc, show d = 2 by omega]; rfl) (by omega) (by omega)
            · have c0 := cf_rg hz (show s < 4 by omega) d
              have her := tc_rg hz (show s < 4 by omega) (c := c) (by rw [hc]; exact hcr) d h3
              refine j_aload_n X dX2_firstCut_18 rfl ?_
              refine j_iload_n X dX2_firstCut_19 rfl ?_
              refine j_iload_n X dX2_firstCut_20 rfl ?_
              refine cV2i X mf_X2_firstCut_ mv_X2_firstCut_ ml_X2_159 (by decide) rfl rfl (Nat.le_of_ble_eq_true rfl) dX2_firstCut_21 (sp_X2_firstCut__25 hz (by omega) (by omega)) (fun a_21 w_21 h_21 => ?_)
              obtain ⟨_, _⟩ := h_21
              subst a_21
              subst w_21
              refine s_4 X dX2_firstCut_24 rfl ?_
              refine j_iload X dX2_firstCut_26 rfl ?_
              refine j_aload_n X dX2_firstCut_28 rfl ?_
              refine j_iload_n X dX2_firstCut_29 rfl ?_
              refine j_iload_n X dX2_firstCut_30 rfl ?_
              refine cV2i X mf_X2_lastCut mv_X2_lastCut ml_X2_162 (by decide) rfl rfl (Nat.le_of_ble_eq_true rfl) dX2_firstCut_31 (sp_X2_lastCut_25 hz (by omega) (by omega)) (fun a_31 w_31 h_31 => ?_)
              obtain ⟨_, _⟩ := h_31
              subst a_31
              subst w_31
              refine j_icmp_gt (tgt := 49) X dX2_firstCut_34 (by decide) ⟨by omega, by omega⟩ ⟨by omega, by omega⟩ (fun h_34 => ?_) (fun h_34 => ?_)
              · refine inc_3 X dX2_firstCut_49 rfl ?_
                refine j_goto (tgt := 13) X dX2_firstCut_52 (by decide) ?_
                refine fg_4 ?_
                exact ih13 (d + 1) _ (by rw [he]; simp only [tcI]; rw [if_neg (by omega)]) (by omega) (by omega)
              · refine j_iload_n X dX2_firstCut_37 rfl ?_
                refine j_iload_n X dX2_firstCut_38 rfl ?_
                refine j_iload X dX2_firstCut_39 rfl ?_
                refine j_iload_n X dX2_firstCut_41 rfl ?_
                refine cS3i X mf_X6_tell ms_X6_tell ml_X2_165 (by decide) (Nat.le_of_ble_eq_true rfl) dX2_firstCut_42 (sp_X6_tell) (fun a_42 w_42 h_42 => ?_)
                obtain ⟨_, _⟩ := h_42
                subst a_42
                subst w_42
                refine j_mmin X csOk_0 mt_X2_124 (by decide) (Nat.le_of_ble_eq_true rfl) dX2_firstCut_45 ⟨by omega, by omega⟩ ⟨by omega, by omega⟩ ?_
                refine s_1 X dX2_firstCut_48 rfl ?_
                refine inc_3 X dX2_firstCut_49 rfl ?_
                refine j_goto (tgt := 13) X dX2_firstCut_52 (by decide) ?_
                refine fg_4 ?_
                exact ih13 (d + 1) _ (by rw [he]; simp only [tcI, tellF]; rw [if_pos (by omega)]) (by omega) (by omega)
        exact L_13 3 0 c rfl (by omega) (by omega)
  exact L_6 5 0 _ rfl (by omega) (by omega)
set_option maxHeartbeats 4000000 in
set_option maxRecDepth 20000 in
theorem sp_X2_secondKind_26 {w : wd} (hk : rg (w 26 7)) : CalI yX2_secondKind cX2_secondKind 1 .int 1 LAY w [vR 26] (fun r w' => r = skF w 26 ∧ w' = w) := by
  refine calI_intro (ls := [some (vR 26)]) (by decide) (Nat.le_of_ble_eq_true rfl) rfl (fun κ ad X hR => ?_)
  refine j_aload_n X dX2_secondKind_0 rfl ?_
  refine j_getI X dX2_secondKind_1 ff_X2_104 rfl rfl ?_
  refine j_iconst X dX2_secondKind_4 ?_
  refine j_icmp_ne (tgt := 12) X dX2_secondKind_5 (by decide) ⟨by omega, by omega⟩ ⟨by omega, by omega⟩ (fun h_5 => ?_) (fun h_5 => ?_)
  · refine j_iconst X dX2_secondKind_12 ?_
    exact j_ireturn X hR dX2_secondKind_13 ⟨by unfold skF; split <;> omega, rfl⟩
  · refine j_iconst X dX2_secondKind_8 ?_
    refine j_goto (tgt := 13) X dX2_secondKind_9 (by decide) ?_
    exact j_ireturn X hR dX2_secondKind_13 ⟨by unfold skF; split <;> omega, rfl⟩
set_option maxHeartbeats 4000000 in
set_option maxRecDepth 20000 in
theorem sp_X2_least_26 {s : Nat} {w : wd} (hz : LzO w 34) (hs : s < 4) : CalI yX2_least cX2_least 2 .int 2 LAY w [vR 26, vI (s : Int)] (fun r w' => r = lsF w 34 s ∧ w' = w) := by
  have h1 := hz (4 + s) (by omega)
  have h2 := hz (8 + s) (by omega)
  simp only [show 34 + 4 = 38 from rfl, show 34 + 5 = 39 from rfl] at h1 h2
  refine calI_intro (ls := [some (vR 26), some (vI (s : Int))]) (by decide) (Nat.le_of_ble_eq_true rfl) rfl (fun κ ad X hR => ?_)
  refine j_aload_n X dX2_least_0 rfl ?_
  refine j_getR X dX2_least_1 ff_X2_26 rfl rfl ?_
  refine j_iconst X dX2_least_4 ?_
  refine j_iload_n X dX2_least_5 rfl ?_
  refine cS2i X mf_X2_row ms_X2_row ml_X2_113 (by decide) (Nat.le_of_ble_eq_true rfl) dX2_least_6 (sp_X2_row) (fun a_6 w_6 h_6 => ?_)
  obtain ⟨_, _⟩ := h_6
  subst a_6
  subst w_6
  rw [show (4 : Int) * 1 + (s : Int) = ((4 + s : Nat) : Int) by omega]
  refine cS2i X mf_X5_get ms_X5_get ml_X2_87 (by decide) (Nat.le_of_ble_eq_true rfl) dX2_least_9 (sp_getk (k := 4 + s) rfl (by decide) (by omega)) (fun a_9 w_9 h_9 => ?_)
  obtain ⟨_, _⟩ := h_9
  subst a_9
  subst w_9
  refine j_aload_n X dX2_least_12 rfl ?_
  refine j_getR X dX2_least_13 ff_X2_26 rfl rfl ?_
  refine j_iconst X dX2_least_16 ?_
  refine j_iload_n X dX2_least_17 rfl ?_
  refine cS2i X mf_X2_row ms_X2_row ml_X2_113 (by decide) (Nat.le_of_ble_eq_true rfl) dX2_least_18 (sp_X2_row) (fun a_18 w_18 h_18 => ?_)
  obtain ⟨_, _⟩ := h_18
  subst a_18
  subst w_18
  rw [show (4 : Int) * 2 + (s : Int) = ((8 + s : Nat) : Int) by omega]
  refine cS2i X mf_X5_get ms_X5_get ml_X2_87 (by decide) (Nat.le_of_ble_eq_true rfl) dX2_least_21 (sp_getk (k := 8 + s) rfl (by decide) (by omega)) (fun a_21 w_21 h_21 => ?_)
  obtain ⟨_, _⟩ := h_21
  subst a_21
  subst w_21
  refine j_mmin X csOk_0 mt_X2_124 (by decide) (Nat.le_of_ble_eq_true rfl) dX2_least_24 ⟨by omega, by omega⟩ ⟨by omega, by omega⟩ ?_
  exact j_ireturn X hR dX2_least_27 ⟨rfl, rfl⟩
set_option maxHeartbeats 4000000 in
set_option maxRecDepth 20000 in
theorem sp_X2_greatest_26 {s : Nat} {w : wd} (hz : LzO w 34) (hs : s < 4) : CalI yX2_greatest cX2_greatest 2 .int 2 LAY w [vR 26, vI (s : Int)] (fun r w' => r = grF w 34 s ∧ w' = w) := by
  have h1 := hz (4 + s) (by omega)
  have h2 := hz (8 + s) (by omega)
  simp only [show 34 + 4 = 38 from rfl, show 34 + 5 = 39 from rfl] at h1 h2
  refine calI_intro (ls := [some (vR 26), some (vI (s : Int))]) (by decide) (Nat.le_of_ble_eq_true rfl) rfl (fun κ ad X hR => ?_)
  refine j_aload_n X dX2_greatest_0 rfl ?_
  refine j_getR X dX2_greatest_1 ff_X2_29 rfl rfl ?_
  refine j_iconst X dX2_greatest_4 ?_
  refine j_iload_n X dX2_greatest_5 rfl ?_
  refine cS2i X mf_X2_row ms_X2_row ml_X2_113 (by decide) (Nat.le_of_ble_eq_true rfl) dX2_greatest_6 (sp_X2_row) (fun a_6 w_6 h_6 => ?_)
  obtain ⟨_, _⟩ := h_6
  subst a_6
  subst w_6
  rw [show (4 : Int) * 1 + (s : Int) = ((4 + s : Nat) : Int) by omega]
  refine cS2i X mf_X5_get ms_X5_get ml_X2_87 (by decide) (Nat.le_of_ble_eq_true rfl) dX2_greatest_9 (sp_getk (k := 4 + s) rfl (by decide) (by omega)) (fun a_9 w_9 h_9 => ?_)
  obtain ⟨_, _⟩ := h_9
  subst a_9
  subst w_9
  refine j_aload_n X dX2_greatest_12 rfl ?_
  refine j_getR X dX2_greatest_13 ff_X2_29 rfl rfl ?_
  refine j_iconst X dX2_greatest_16 ?_
  refine j_iload_n X dX2_greatest_17 rfl ?_
  refine cS2i X mf_X2_row ms_X2_row ml_X2_113 (by decide) (Nat.le_of_ble_eq_true rfl) dX2_greatest_18 (sp_X2_row) (fun a_18 w_18 h_18 => ?_)
  obtain ⟨_, _⟩ := h_18
  subst a_18
  subst w_18
  rw [show (4 : Int) * 2 + (s : Int) = ((8 + s : Nat) : Int) by omega]
  refine cS2i X mf_X5_get ms_X5_get ml_X2_87 (by decide) (Nat.le_of_ble_eq_true rfl) dX2_greatest_21 (sp_getk (k := 8 + s) rfl (by decide) (by omega)) (fun a_21 w_21 h_21 => ?_)
  obtain ⟨_, _⟩ := h_21
  subst a_21
  subst w_21
  refine j_mmax X csOk_0 mt_X2_129 (by decide) (Nat.le_of_ble_eq_true rfl) dX2_greatest_24 ⟨by omega, by omega⟩ ⟨by omega, by omega⟩ ?_
  exact j_ireturn X hR dX2_greatest_27 ⟨rfl, rfl⟩
set_option maxHeartbeats 4000000 in
set_option maxRecDepth 20000 in
theorem sp_X2_firstStrip_26 {w : wd} (hz : LzO w 34) : CalI yX2_firstStrip cX2_firstStrip 3 .int 3 LAY w [vR 26] (fun r w' => r = fstP w 34 4 ∧ w' = w) := by
  refine calI_intro (ls := [some (vR 26), none, none]) (by decide) (Nat.le_of_ble_eq_true rfl) rfl (fun κ ad X hR => ?_)
  refine j_sipush X dX2_firstStrip_0 (by decide +kernel) ?_
  refine s_1 X dX2_firstStrip_3 rfl ?_
  refine j_iconst X dX2_firstStrip_4 ?_
  refine s_2 X dX2_firstStrip_5 rfl ?_
  have L_6 : ∀ (m : Nat) (s : Nat) (c : Int) (_ : c = fstP w 34 s) (_ : s ≤ 4) (_ : 4 - s < m), J κ LAY ad 0 0 6 [some (vR 26), some (vI c), some (vI (s : Int))] [] w := by
    intro m
    induction m with
    | zero => intro s c hc h1 h2; exact absurd h2 (Nat.not_lt_zero _)
    | succ m ih6 =>
      intro s c hc h1 h2
      have hr := fl_rg hz s h1
      refine j_iload_n X dX2_firstStrip_6 rfl ?_
      refine j_iconst X dX2_firstStrip_7 ?_
      refine j_icmp_ge (tgt := 27) X dX2_firstStrip_8 (by decide) ⟨by omega, by omega⟩ ⟨by omega, by omega⟩ (fun h_8 => ?_) (fun h_8 => ?_)
      · refine j_iload_n X dX2_firstStrip_27 rfl ?_
        exact j_ireturn X hR dX2_firstStrip_28 ⟨by rw [hc, show s = 4 by omega], rfl⟩
      · refine j_iload_n X dX2_firstStrip_11 rfl ?_
        have hl := lg_rg hz (show s < 4 by omega)
        refine j_aload_n X dX2_firstStrip_12 rfl ?_
        refine j_iload_n X dX2_firstStrip_13 rfl ?_
        refine cV1i X mf_X2_least mv_X2_least ml_X2_132 (by decide) rfl rfl (Nat.le_of_ble_eq_true rfl) dX2_firstStrip_14 (sp_X2_least_26 hz (by omega)) (fun a_14 w_14 h_14 => ?_)
        obtain ⟨_, _⟩ := h_14
        subst a_14
        subst w_14
        refine j_mmin X csOk_0 mt_X2_124 (by decide) (Nat.le_of_ble_eq_true rfl) dX2_firstStrip_17 ⟨by omega, by omega⟩ ⟨by omega, by omega⟩ ?_
        refine s_1 X dX2_firstStrip_20 rfl ?_
        refine inc_2 X dX2_firstStrip_21 rfl ?_
        refine j_goto (tgt := 6) X dX2_firstStrip_24 (by decide) ?_
        exact ih6 (s + 1) _ (by rw [hc]; rfl) (by omega) (by omega)
  exact L_6 5 0 _ rfl (by omega) (by omega)
set_option maxHeartbeats 4000000 in
set_option maxRecDepth 20000 in
theorem sp_X2_lastStrip_26 {w : wd} (hz : LzO w 34) : CalI yX2_lastStrip cX2_lastStrip 3 .int 3 LAY w [vR 26] (fun r w' => r = lstP w 34 4 ∧ w' = w) := by
  refine calI_intro (ls := [some (vR 26), none, none]) (by decide) (Nat.le_of_ble_eq_true rfl) rfl (fun κ ad X hR => ?_)
  refine j_sipush X dX2_lastStrip_0 (by decide +kernel) ?_
  refine s_1 X dX2_lastStrip_3 rfl ?_
  refine j_iconst X dX2_lastStrip_4 ?_
  refine s_2 X dX2_lastStrip_5 rfl ?_
  have L_6 : ∀ (m : Nat) (s : Nat) (c : Int) (_ : c = lstP w 34 s) (_ : s ≤ 4) (_ : 4 - s < m), J κ LAY ad 0 0 6 [some (vR 26), some (vI c), some (vI (s : Int))] [] w := by
    intro m
    induction m with
    | zero => intro s c hc h1 h2; exact absurd h2 (Nat.not_lt_zero _)
    | succ m ih6 =>
      intro s c hc h1 h2
      have hr := fl_rg hz s h1
      refine j_iload_n X dX2_lastStrip_6 rfl ?_
      refine j_iconst X dX2_lastStrip_7 ?_
      refine j_icmp_ge (tgt := 27) X dX2_lastStrip_8 (by decide) ⟨by omega, by omega⟩ ⟨by omega, by omega⟩ (fun h_8 => ?_) (fun h_8 => ?_)
      · refine j_iload_n X dX2_lastStrip_27 rfl ?_
        exact j_ireturn X hR dX2_lastStrip_28 ⟨by rw [hc, show s = 4 by omega], rfl⟩
      · refine j_iload_n X dX2_lastStrip_11 rfl ?_
        have hl := lg_rg hz (show s < 4 by omega)
        refine j_aload_n X dX2_lastStrip_12 rfl ?_
        refine j_iload_n X dX2_lastStrip_13 rfl ?_
        refine cV1i X mf_X2_greatest mv_X2_greatest ml_X2_135 (by decide) rfl rfl (Nat.le_of_ble_eq_true rfl) dX2_lastStrip_14 (sp_X2_greatest_26 hz (by omega)) (fun a_14 w_14 h_14 => ?_)
        obtain ⟨_, _⟩ := h_14
        subst a_14
        subst w_14
        refine j_mmax X csOk_0 mt_X2_129 (by decide) (Nat.le_of_ble_eq_true rfl) dX2_lastStrip_17 ⟨by omega, by omega⟩ ⟨by omega, by omega⟩ ?_
        refine s_1 X dX2_lastStrip_20 rfl ?_
        refine inc_2 X dX2_lastStrip_21 rfl ?_
        refine j_goto (tgt := 6) X dX2_lastStrip_24 (by decide) ?_
        exact ih6 (s + 1) _ (by rw [hc]; rfl) (by omega) (by omega)
  exact L_6 5 0 _ rfl (by omega) (by omega)
set_option maxHeartbeats 4000000 in
set_option maxRecDepth 20000 in
theorem sp_X2_isCrossed_26 {s : Nat} {k : Int} {w : wd} (hz : LzO w 34) (hs : s < 4) (hk : rg k) : CalI yX2_isCrossed cX2_isCrossed 3 .boolean 3 LAY w [vR 26, vI (s : Int), vI k] (fun r w' => r = ib (lsF w 34 s < k ∧ k ≤ grF w 34 s) ∧ w' = w) := by
  have hl := lg_rg hz hs
  refine calI_intro (ls := [some (vR 26), some (vI (s : Int)), some (vI k)]) (by decide) (Nat.le_of_ble_eq_true rfl) rfl (fun κ ad X hR => ?_)
  refine j_aload_n X dX2_isCrossed_0 rfl ?_
  refine j_iload_n X dX2_isCrossed_1 rfl ?_
  refine cV1i X mf_X2_least mv_X2_least ml_X2_132 (by decide) rfl rfl (Nat.le_of_ble_eq_true rfl) dX2_isCrossed_2 (sp_X2_least_26 hz hs) (fun a_2 w_2 h_2 => ?_)
  obtain ⟨_, _⟩ := h_2
  subst a_2
  subst w_2
  refine j_iload_n X dX2_isCrossed_5 rfl ?_
  refine j_icmp_ge (tgt := 22) X dX2_isCrossed_6 (by decide) ⟨by omega, by omega⟩ ⟨by omega, by omega⟩ (fun h_6 => ?_) (fun h_6 => ?_)
  · refine j_iconst X dX2_isCrossed_22 ?_
    exact j_zreturn X hR dX2_isCrossed_23 (by first | exact Or.inl rfl | exact Or.inr rfl | exact ib_01) ⟨by first | exact (ib_t (by omega)).symm | exact (ib_f (by omega)).symm, rfl⟩
  · refine j_aload_n X dX2_isCrossed_9 rfl ?_
    refine j_iload_n X dX2_isCrossed_10 rfl ?_
    refine cV1i X mf_X2_greatest mv_X2_greatest ml_X2_135 (by decide) rfl rfl (Nat.le_of_ble_eq_true rfl) dX2_isCrossed_11 (sp_X2_greatest_26 hz hs) (fun a_11 w_11 h_11 => ?_)
    obtain ⟨_, _⟩ := h_11
    subst a_11
    subst w_11
    refine j_iload_n X dX2_isCrossed_14 rfl ?_
    refine j_icmp_lt (tgt := 22) X dX2_isCrossed_15 (by decide) ⟨by omega, by omega⟩ ⟨by omega, by omega⟩ (fun h_15 => ?_) (fun h_15 => ?_)
    · refine j_iconst X dX2_isCrossed_22 ?_
      exact j_zreturn X hR dX2_isCrossed_23 (by first | exact Or.inl rfl | exact Or.inr rfl | exact ib_01) ⟨by first | exact (ib_t (by omega)).symm | exact (ib_f (by omega)).symm, rfl⟩
    · refine j_iconst X dX2_isCrossed_18 ?_
      refine j_goto (tgt := 23) X dX2_isCrossed_19 (by decide) ?_
      exact j_zreturn X hR dX2_isCrossed_23 (by first | exact Or.inl rfl | exact Or.inr rfl | exact ib_01) ⟨by first | exact (ib_t (by omega)).symm | exact (ib_f (by omega)).symm, rfl⟩
set_option maxHeartbeats 4000000 in
set_option maxRecDepth 20000 in
theorem sp_X2_firstCut__26 {s d : Nat} {w : wd} (hz : LzO w 34) (hs : s < 4) (hd : d < 2) : CalI yX2_firstCut_ cX2_firstCut_ 4 .int 2 LAY w [vR 26, vI (s : Int), vI (d : Int)] (fun r w' => r = fcF w 34 s d ∧ w' = w) := by
  have h1 := hz (4 + s) (by omega)
  have h2 := hz (8 + s) (by omega)
  simp only [show 34 + 4 = 38 from rfl, show 34 + 5 = 39 from rfl] at h1 h2
  refine calI_intro (ls := [some (vR 26), some (vI (s : Int)), some (vI (d : Int)), none]) (by decide) (Nat.le_of_ble_eq_true rfl) rfl (fun κ ad X hR => ?_)
  refine j_iload_n X dX2_firstCut__0 rfl ?_
  refine j_if_ne (tgt := 8) X dX2_firstCut__1 (by decide) ⟨by omega, by omega⟩ (fun h_1 => ?_) (fun h_1 => ?_)
  · refine j_iconst X dX2_firstCut__8 ?_
    refine s_3 X dX2_firstCut__9 rfl ?_
    refine j_bipush X dX2_firstCut__10 (by decide +kernel) ?_
    refine j_aload_n X dX2_firstCut__12 rfl ?_
    refine j_getR X dX2_firstCut__13 ff_X2_29 rfl rfl ?_
    refine j_iload_n X dX2_firstCut__16 rfl ?_
    refine j_iload_n X dX2_firstCut__17 rfl ?_
    refine cS2i X mf_X2_row ms_X2_row ml_X2_113 (by decide) (Nat.le_of_ble_eq_true rfl) dX2_firstCut__18 (sp_X2_row) (fun a_18 w_18 h_18 => ?_)
    obtain ⟨_, _⟩ := h_18
    subst a_18
    subst w_18
    first | rw [show (4 : Int) * 1 + (s : Int) = ((4 + s : Nat) : Int) by omega] | rw [show (4 : Int) * 2 + (s : Int) = ((8 + s : Nat) : Int) by omega]
    refine cS2i X mf_X5_get ms_X5_get ml_X2_87 (by decide) (Nat.le_of_ble_eq_true rfl) dX2_firstCut__21 (sp_getk (k := 8 + s) rfl (by decide) (by omega)) (fun a_21 w_21 h_21 => ?_)
    obtain ⟨_, _⟩ := h_21
    subst a_21
    subst w_21
    refine j_iconst X dX2_firstCut__24 ?_
    refine j_iadd X dX2_firstCut__25 ?_
    refine j_mmax X csOk_0 mt_X2_129 (by decide) (Nat.le_of_ble_eq_true rfl) dX2_firstCut__26 ⟨by omega, by omega⟩ ⟨by omega, by omega⟩ ?_
    exact j_ireturn X hR dX2_firstCut__29 ⟨by unfold fcF; rw [if_neg (by omega)], rfl⟩
  · refine j_iconst X dX2_firstCut__4 ?_
    refine j_goto (tgt := 9) X dX2_firstCut__5 (by decide) ?_
    refine s_3 X dX2_firstCut__9 rfl ?_
    refine j_bipush X dX2_firstCut__10 (by decide +kernel) ?_
    refine j_aload_n X dX2_firstCut__12 rfl ?_
    refine j_getR X dX2_firstCut__13 ff_X2_29 rfl rfl ?_
    refine j_iload_n X dX2_firstCut__16 rfl ?_
    refine j_iload_n X dX2_firstCut__17 rfl ?_
    refine cS2i X mf_X2_row ms_X2_row ml_X2_113 (by decide) (Nat.le_of_ble_eq_true rfl) dX2_firstCut__18 (sp_X2_row) (fun a_18 w_18 h_18 => ?_)
    obtain ⟨_, _⟩ := h_18
    subst a_18
    subst w_18
    first | rw [show (4 : Int) * 1 + (s : Int) = ((4 + s : Nat) : Int) by omega] | rw [show (4 : Int) * 2 + (s : Int) = ((8 + s : Nat) : Int) by omega]
    refine cS2i X mf_X5_get ms_X5_get ml_X2_87 (by decide) (Nat.le_of_ble_eq_true rfl) dX2_firstCut__21 (sp_getk (k := 4 + s) rfl (by decide) (by omega)) (fun a_21 w_21 h_21 => ?_)
    obtain ⟨_, _⟩ := h_21
    subst a_21
    subst w_21
    refine j_iconst X dX2_firstCut__24 ?_
    refine j_iadd X dX2_firstCut__25 ?_
    refine j_mmax X csOk_0 mt_X2_129 (by decide) (Nat.le_of_ble_eq_true rfl) dX2_firstCut__26 ⟨by omega, by omega⟩ ⟨by omega, by omega⟩ ?_
    exact j_ireturn X hR dX2_firstCut__29 ⟨by unfold fcF; rw [if_pos (by omega)], rfl⟩
set_option maxHeartbeats 4000000 in
set_option maxRecDepth 20000 in
theorem sp_X2_lastCut_26 {s d : Nat} {w : wd} (hz : LzO w 34) (hs : s < 4) (hd : d < 2) : CalI yX2_lastCut cX2_lastCut 4 .int 2 LAY w [vR 26, vI (s : Int), vI (d : Int)] (fun r w' => r = lcF w 34 s d ∧ w' = w) := by
  have h1 := hz (4 + s) (by omega)
  have h2 := hz (8 + s) (by omega)
  simp only [show 34 + 4 = 38 from rfl, show 34 + 5 = 39 from rfl] at h1 h2
  refine calI_intro (ls := [some (vR 26), some (vI (s : Int)), some (vI (d : Int)), none]) (by decide) (Nat.le_of_ble_eq_true rfl) rfl (fun κ ad X hR => ?_)
  refine j_iload_n X dX2_lastCut_0 rfl ?_
  refine j_if_ne (tgt := 8) X dX2_lastCut_1 (by decide) ⟨by omega, by omega⟩ (fun h_1 => ?_) (fun h_1 => ?_)
  · refine j_iconst X dX2_lastCut_8 ?_
    refine s_3 X dX2_lastCut_9 rfl ?_
    refine j_bipush X dX2_lastCut_10 (by decide +kernel) ?_
    refine j_aload_n X dX2_lastCut_12 rfl ?_
    refine j_getR X dX2_lastCut_13 ff_X2_26 rfl rfl ?_
    refine j_iload_n X dX2_lastCut_16 rfl ?_
    refine j_iload_n X dX2_lastCut_17 rfl ?_
    refine cS2i X mf_X2_row ms_X2_row ml_X2_113 (by decide) (Nat.le_of_ble_eq_true rfl) dX2_lastCut_18 (sp_X2_row) (fun a_18 w_18 h_18 => ?_)
    obtain ⟨_, _⟩ := h_18
    subst a_18
    subst w_18
    first | rw [show (4 : Int) * 1 + (s : Int) = ((4 + s : Nat) : Int) by omega] | rw [show (4 : Int) * 2 + (s : Int) = ((8 + s : Nat) : Int) by omega]
    refine cS2i X mf_X5_get ms_X5_get ml_X2_87 (by decide) (Nat.le_of_ble_eq_true rfl) dX2_lastCut_21 (sp_getk (k := 4 + s) rfl (by decide) (by omega)) (fun a_21 w_21 h_21 => ?_)
    obtain ⟨_, _⟩ := h_21
    subst a_21
    subst w_21
    refine j_mmin X csOk_0 mt_X2_124 (by decide) (Nat.le_of_ble_eq_true rfl) dX2_lastCut_24 ⟨by omega, by omega⟩ ⟨by omega, by omega⟩ ?_
    exact j_ireturn X hR dX2_lastCut_27 ⟨by unfold lcF; rw [if_neg (by omega)], rfl⟩
  · refine j_iconst X dX2_lastCut_4 ?_
    refine j_goto (tgt := 9) X dX2_lastCut_5 (by decide) ?_
    refine s_3 X dX2_lastCut_9 rfl ?_
    refine j_bipush X dX2_lastCut_10 (by decide +kernel) ?_
    refine j_aload_n X dX2_lastCut_12 rfl ?_
    refine j_getR X dX2_lastCut_13 ff_X2_26 rfl rfl ?_
    refine j_iload_n X dX2_lastCut_16 rfl ?_
    refine j_iload_n X dX2_lastCut_17 rfl ?_
    refine cS2i X mf_X2_row ms_X2_row ml_X2_113 (by decide) (Nat.le_of_ble_eq_true rfl) dX2_lastCut_18 (sp_X2_row) (fun a_18 w_18 h_18 => ?_)
    obtain ⟨_, _⟩ := h_18
    subst a_18
    subst w_18
    first | rw [show (4 : Int) * 1 + (s : Int) = ((4 + s : Nat) : Int) by omega] | rw [show (4 : Int) * 2 + (s : Int) = ((8 + s : Nat) : Int) by omega]
    refine cS2i X mf_X5_get ms_X5_get ml_X2_87 (by decide) (Nat.le_of_ble_eq_true rfl) dX2_lastCut_21 (sp_getk (k := 8 + s) rfl (by decide) (by omega)) (fun a_21 w_21 h_21 => ?_)
    obtain ⟨_, _⟩ := h_21
    subst a_21
    subst w_21
    refine j_mmin X csOk_0 mt_X2_124 (by decide) (Nat.le_of_ble_eq_true rfl) dX2_lastCut_24 ⟨by omega, by omega⟩ ⟨by omega, by omega⟩ ?_
    exact j_ireturn X hR dX2_lastCut_27 ⟨by unfold lcF; rw [if_pos (by omega)], rfl⟩
set_option maxHeartbeats 4000000 in
set_option maxRecDepth 20000 in
theorem sp_X2_isEntangled_26 {w : wd} (hz : LzO w 34) : CalI yX2_isEntangled cX2_isEntangled 2 .boolean 3 LAY w [vR 26] (fun r w' => r = ib (enA w 34) ∧ w' = w) := by
  refine calI_intro (ls := [some (vR 26), none]) (by decide) (Nat.le_of_ble_eq_true rfl) rfl (fun κ ad X hR => ?_)
  refine j_iconst X dX2_isEntangled_0 ?_
  refine s_1 X dX2_isEntangled_1 rfl ?_
  have L_2 : ∀ (m : Nat) (s : Nat) (_ : ∀ j, j < s → enS w 34 j) (_ : s ≤ 4) (_ : 4 - s < m), J κ LAY ad 0 0 2 [some (vR 26), some (vI (s : Int))] [] w := by
    intro m
    induction m with
    | zero => intro s hj h1 h2; exact absurd h2 (Nat.not_lt_zero _)
    | succ m ih2 =>
      intro s hj h1 h2
      refine j_iload_n X dX2_isEntangled_2 rfl ?_
      refine j_iconst X dX2_isEntangled_3 ?_
      refine j_icmp_ge (tgt := 45) X dX2_isEntangled_4 (by decide) ⟨by omega, by omega⟩ ⟨by omega, by omega⟩ (fun h_4 => ?_) (fun h_4 => ?_)
      · refine j_iconst X dX2_isEntangled_45 ?_
        exact j_zreturn X hR dX2_isEntangled_46 (by first | exact Or.inl rfl | exact Or.inr rfl | exact ib_01) ⟨(ib_t ⟨hj 0 (by omega), hj 1 (by omega), hj 2 (by omega), hj 3 (by omega)⟩).symm, rfl⟩
      · have c0 := cf_rg hz (show s < 4 by omega) 0
        have c1 := cf_rg hz (show s < 4 by omega) 1
        refine j_aload_n X dX2_isEntangled_7 rfl ?_
        refine j_iload_n X dX2_isEntangled_8 rfl ?_
        refine j_iconst X dX2_isEntangled_9 ?_
        refine cV2i X mf_X2_firstCut_ mv_X2_firstCut_ ml_X2_159 (by decide) rfl rfl (Nat.le_of_ble_eq_true rfl) dX2_isEntangled_10 (sp_X2_firstCut__26 (d := 0) hz (by omega) (by decide)) (fun a_10 w_10 h_10 => ?_)
        obtain ⟨_, _⟩ := h_10
        subst a_10
        subst w_10
        refine j_aload_n X dX2_isEntangled_13 rfl ?_
        refine j_iload_n X dX2_isEntangled_14 rfl ?_
        refine j_iconst X dX2_isEntangled_15 ?_
        refine cV2i X mf_X2_lastCut mv_X2_lastCut ml_X2_162 (by decide) rfl rfl (Nat.le_of_ble_eq_true rfl) dX2_isEntangled_16 (sp_X2_lastCut_26 (d := 0) hz (by omega) (by decide)) (fun a_16 w_16 h_16 => ?_)
        obtain ⟨_, _⟩ := h_16
        subst a_16
        subst w_16
        refine j_icmp_le (tgt := 37) X dX2_isEntangled_19 (by decide) ⟨by omega, by omega⟩ ⟨by omega, by omega⟩ (fun h_19 => ?_) (fun h_19 => ?_)
        · refine j_iconst X dX2_isEntangled_37 ?_
          exact j_zreturn X hR dX2_isEntangled_38 (by first | exact Or.inl rfl | exact Or.inr rfl | exact ib_01) ⟨(ib_f (fun z => by have := enA_all z s (by omega); omega)).symm, rfl⟩
        · refine j_aload_n X dX2_isEntangled_22 rfl ?_
          refine j_iload_n X dX2_isEntangled_23 rfl ?_
          refine j_iconst X dX2_isEntangled_24 ?_
          refine cV2i X mf_X2_firstCut_ mv_X2_firstCut_ ml_X2_159 (by decide) rfl rfl (Nat.le_of_ble_eq_true rfl) dX2_isEntangled_25 (sp_X2_firstCut__26 (d := 1) hz (by omega) (by decide)) (fun a_25 w_25 h_25 => ?_)
          obtain ⟨_, _⟩ := h_25
          subst a_25
          subst w_25
          refine j_aload_n X dX2_isEntangled_28 rfl ?_
          refine j_iload_n X dX2_isEntangled_29 rfl ?_
          refine j_iconst X dX2_isEntangled_30 ?_
          refine cV2i X mf_X2_lastCut mv_X2_lastCut ml_X2_162 (by decide) rfl rfl (Nat.le_of_ble_eq_true rfl) dX2_isEntangled_31 (sp_X2_lastCut_26 (d := 1) hz (by omega) (by decide)) (fun a_31 w_31 h_31 => ?_)
          obtain ⟨_, _⟩ := h_31
          subst a_31
          subst w_31
          refine j_icmp_gt (tgt := 39) X dX2_isEntangled_34 (by decide) ⟨by omega, by omega⟩ ⟨by omega, by omega⟩ (fun h_34 => ?_) (fun h_34 => ?_)
          · refine inc_1 X dX2_isEntangled_39 rfl ?_
            refine j_goto (tgt := 2) X dX2_isEntangled_42 (by decide) ?_
            exact ih2 (s + 1) (fun j h => by rcases Nat.lt_succ_iff_lt_or_eq.mp h with q1 | q1; exact hj j q1; subst q1; omega) (by omega) (by omega)
          · refine j_iconst X dX2_isEntangled_37 ?_
            exact j_zreturn X hR dX2_isEntangled_38 (by first | exact Or.inl rfl | exact Or.inr rfl | exact ib_01) ⟨(ib_f (fun z => by have := enA_all z s (by omega); omega)).symm, rfl⟩
  exact L_2 5 0 (fun j h => absurd h (Nat.not_lt_zero j)) (by omega) (by omega)
set_option maxHeartbeats 4000000 in
set_option maxRecDepth 20000 in
theorem sp_X2_cuts_26 {w : wd} (hz : LzO w 34) : CalI yX2_cuts cX2_cuts 4 .int 3 LAY w [vR 26] (fun r w' => r = sm (fun s => sm (fun d => max 0 (lcF w 34 s d - fcF w 34 s d + 1)) 2) 4 ∧ w' = w) := by
  refine calI_intro (ls := [some (vR 26), none, none, none]) (by decide) (Nat.le_of_ble_eq_true rfl) rfl (fun κ ad X hR => ?_)
  refine j_iconst X dX2_cuts_0 ?_
  refine s_1 X dX2_cuts_1 rfl ?_
  refine j_iconst X dX2_cuts_2 ?_
  refine s_2 X dX2_cuts_3 rfl ?_
  have L_4 : ∀ (m : Nat) (s : Nat) (c : Int) (_ : c = sm (fun s => sm (fun d => max 0 (lcF w 34 s d - fcF w 34 s d + 1)) 2) s) (_ : s ≤ 4) (_ : 4 - s < m), J κ LAY ad 0 0 4 [some (vR 26), some (vI c), some (vI (s : Int)), none] [] w := by
    intro m
    induction m with
    | zero => intro s c hc h1 h2; exact absurd h2 (Nat.not_lt_zero _)
    | succ m ih4 =>
      intro s c hc h1 h2
      refine j_iload_n X dX2_cuts_4 rfl ?_
      refine j_iconst X dX2_cuts_5 ?_
      refine j_icmp_ge (tgt := 50) X dX2_cuts_6 (by decide) ⟨by omega, by omega⟩ ⟨by omega, by omega⟩ (fun h_6 => ?_) (fun h_6 => ?_)
      · refine j_iload_n X dX2_cuts_50 rfl ?_
        exact j_ireturn X hR dX2_cuts_51 ⟨by rw [hc, show s = 4 by omega], rfl⟩
      · refine j_iconst X dX2_cuts_9 ?_
        refine s_3 X dX2_cuts_10 rfl ?_
        have L_11 : ∀ (m : Nat) (d : Nat) (e : Int) (_ : e = c + sm (fun d => max 0 (lcF w 34 s d - fcF w 34 s d + 1)) d) (_ : d ≤ 2) (_ : 2 - d < m), J κ LAY ad 0 0 11 [some (vR 26), some (vI e), some (vI (s : Int)), some (vI (d : Int))] [] w := by
          intro m
          induction m with
          | zero => intro d e he h3 h4; exact absurd h4 (Nat.not_lt_zero _)
          | succ m ih11 =>
            intro d e he h3 h4
            refine j_iload_n X dX2_cuts_11 rfl ?_
            refine j_iconst X dX2_cuts_12 ?_
            refine j_icmp_ge (tgt := 44) X dX2_cuts_13 (by decide) ⟨by omega, by omega⟩ ⟨by omega, by omega⟩ (fun h_13 => ?_) (fun h_13 => ?_)
            · refine inc_2 X dX2_cuts_44 rfl ?_
              refine j_goto (tgt := 4) X dX2_cuts_47 (by decide) ?_
              refine fg_3 ?_
              exact ih4 (s + 1) _ (by rw [he, sm_s, hc, show d = 2 by omega]) (by omega) (by omega)
            · have c0 := cf_rg hz (show s < 4 by omega) d
              refine j_iload_n X dX2_cuts_16 rfl ?_
              refine j_iconst X dX2_cuts_17 ?_
              refine j_aload_n X dX2_cuts_18 rfl ?_
              refine j_iload_n X dX2_cuts_19 rfl ?_
              refine j_iload_n X dX2_cuts_20 rfl ?_
              refine cV2i X mf_X2_lastCut mv_X2_lastCut ml_X2_162 (by decide) rfl rfl (Nat.le_of_ble_eq_true rfl) dX2_cuts_21 (sp_X2_lastCut_26 hz (by omega) (by omega)) (fun a_21 w_21 h_21 => ?_)
              obtain ⟨_, _⟩ := h_21
              subst a_21
              subst w_21
              refine j_aload_n X dX2_cuts_24 rfl ?_
              refine j_iload_n X dX2_cuts_25 rfl ?_
              refine j_iload_n X dX2_cuts_26 rfl ?_
              refine cV2i X mf_X2_firstCut_ mv_X2_firstCut_ ml_X2_159 (by decide) rfl rfl (Nat.le_of_ble_eq_true rfl) dX2_cuts_27 (sp_X2_firstCut__26 hz (by omega) (by omega)) (fun a_27 w_27 h_27 => ?_)
              obtain ⟨_, _⟩ := h_27
              subst a_27
              subst w_27
              refine j_isub X dX2_cuts_30 ?_
              refine j_iconst X dX2_cuts_31 ?_
              refine j_iadd X dX2_cuts_32 ?_
              refine j_mmax X csOk_0 mt_X2_129 (by decide) (Nat.le_of_ble_eq_true rfl) dX2_cuts_33 ⟨by omega, by omega⟩ ⟨by omega, by omega⟩ ?_
              refine j_iadd X dX2_cuts_36 ?_
              refine s_1 X dX2_cuts_37 rfl ?_
              refine inc_3 X dX2_cuts_38 rfl ?_
              refine j_goto (tgt := 11) X dX2_cuts_41 (by decide) ?_
              exact ih11 (d + 1) _ (by rw [sm_s, he]; exact Int.add_assoc _ _ _) (by omega) (by omega)
        exact L_11 3 0 c (by rw [sm_0]; omega) (by omega) (by omega)
  exact L_4 5 0 0 rfl (by omega) (by omega)
set_option maxHeartbeats 4000000 in
set_option maxRecDepth 20000 in
theorem sp_X2_firstCut_26 {w : wd} (hz : LzO w 34) : CalI yX2_firstCut cX2_firstCut 5 .int 3 LAY w [vR 26] (fun r w' => r = tcP w 34 4 ∧ w' = w) := by
  refine calI_intro (ls := [some (vR 26), none, none, none, none]) (by decide) (Nat.le_of_ble_eq_true rfl) rfl (fun κ ad X hR => ?_)
  refine j_sipush X dX2_firstCut_0 (by decide +kernel) ?_
  refine s_1 X dX2_firstCut_3 rfl ?_
  refine j_iconst X dX2_firstCut_4 ?_
  refine s_2 X dX2_firstCut_5 rfl ?_
  have L_6 : ∀ (m : Nat) (s : Nat) (c : Int) (_ : c = tcP w 34 s) (_ : s ≤ 4) (_ : 4 - s < m), J κ LAY ad 0 0 6 [some (vR 26), some (vI c), some (vI (s : Int)), none, none] [] w := by
    intro m
    induction m with
    | zero => intro s c hc h1 h2; exact absurd h2 (Nat.not_lt_zero _)
    | succ m ih6 =>
      intro s c hc h1 h2
      have hcr := tcP_rg hz s h1
      refine j_iload_n X dX2_firstCut_6 rfl ?_
      refine j_iconst X dX2_firstCut_7 ?_
      refine j_icmp_ge (tgt := 61) X dX2_firstCut_8 (by decide) ⟨by omega, by omega⟩ ⟨by omega, by omega⟩ (fun h_8 => ?_) (fun h_8 => ?_)
      · refine j_iload_n X dX2_firstCut_61 rfl ?_
        exact j_ireturn X hR dX2_firstCut_62 ⟨by rw [hc, show s = 4 by omega], rfl⟩
      · refine j_iconst X dX2_firstCut_11 ?_
        refine s_3 X dX2_firstCut_12 rfl ?_
        have L_13 : ∀ (m : Nat) (d : Nat) (e : Int) (_ : e = tcI w 34 s c d) (_ : d ≤ 2) (_ : 2 - d < m), J κ LAY ad 0 0 13 [some (vR 26), some (vI e), some (vI (s : Int)), some (vI (d : Int)), none] [] w := by
          intro m
          induction m with
          | zero => intro d e he h3 h4; exact absurd h4 (Nat.not_lt_zero _)
          | succ m ih13 =>
            intro d e he h3 h4
            refine j_iload_n X dX2_firstCut_13 rfl ?_
            refine j_iconst X dX2_firstCut_14 ?_
            refine j_icmp_ge (tgt := 55) X dX2_firstCut_15 (by decide) ⟨by omega, by omega⟩ ⟨by omega, by omega⟩ (fun h_15 => ?_) (fun h_15 => ?_)
            · refine inc_2 X dX2_firstCut_55 rfl ?_
              refine j_goto (tgt := 6) X dX2_firstCut_58 (by decide) ?_
              refine fg_3 ?_
              exact ih6 (s + 1) _ (by rw [he, hc, show d = 2 by omega]; rfl) (by omega) (by omega)
            · have c0 := cf_rg hz (show s < 4 by omega) d
              have her := tc_rg hz (show s < 4 by omega) (c := c) (by rw [hc]; exact hcr) d h3
              refine j_aload_n X dX2_firstCut_18 rfl ?_
              refine j_iload_n X dX2_firstCut_19 rfl ?_
              refine j_iload_n X dX2_firstCut_20 rfl ?_
              refine cV2i X mf_X2_firstCut_ mv_X2_firstCut_ ml_X2_159 (by decide) rfl rfl (Nat.le_of_ble_eq_true rfl) dX2_firstCut_21 (sp_X2_firstCut__26 hz (by omega) (by omega)) (fun a_21 w_21 h_21 => ?_)
              obtain ⟨_, _⟩ := h_21
              subst a_21
              subst w_21
              refine s_4 X dX2_firstCut_24 rfl ?_
              refine j_iload X dX2_firstCut_26 rfl ?_
              refine j_aload_n X dX2_firstCut_28 rfl ?_
              refine j_iload_n X dX2_firstCut_29 rfl ?_
              refine j_iload_n X dX2_firstCut_30 rfl ?_
              refine cV2i X mf_X2_lastCut mv_X2_lastCut ml_X2_162 (by decide) rfl rfl (Nat.le_of_ble_eq_true rfl) dX2_firstCut_31 (sp_X2_lastCut_26 hz (by omega) (by omega)) (fun a_31 w_31 h_31 => ?_)
              obtain ⟨_, _⟩ := h_31
              subst a_31
              subst w_31
              refine j_icmp_gt (tgt := 49) X dX2_firstCut_34 (by decide) ⟨by omega, by omega⟩ ⟨by omega, by omega⟩ (fun h_34 => ?_) (fun h_34 => ?_)
              · refine inc_3 X dX2_firstCut_49 rfl ?_
                refine j_goto (tgt := 13) X dX2_firstCut_52 (by decide) ?_
                refine fg_4 ?_
                exact ih13 (d + 1) _ (by rw [he]; simp only [tcI]; rw [if_neg (by omega)]) (by omega) (by omega)
              · refine j_iload_n X dX2_firstCut_37 rfl ?_
                refine j_iload_n X dX2_firstCut_38 rfl ?_
                refine j_iload X dX2_firstCut_39 rfl ?_
                refine j_iload_n X dX2_firstCut_41 rfl ?_
                refine cS3i X mf_X6_tell ms_X6_tell ml_X2_165 (by decide) (Nat.le_of_ble_eq_true rfl) dX2_firstCut_42 (sp_X6_tell) (fun a_42 w_42 h_42 => ?_)
                obtain ⟨_, _⟩ := h_42
                subst a_42
                subst w_42
                refine j_mmin X csOk_0 mt_X2_124 (by decide) (Nat.le_of_ble_eq_true rfl) dX2_firstCut_45 ⟨by omega, by omega⟩ ⟨by omega, by omega⟩ ?_
                refine s_1 X dX2_firstCut_48 rfl ?_
                refine inc_3 X dX2_firstCut_49 rfl ?_
                refine j_goto (tgt := 13) X dX2_firstCut_52 (by decide) ?_
                refine fg_4 ?_
                exact ih13 (d + 1) _ (by rw [he]; simp only [tcI, tellF]; rw [if_pos (by omega)]) (by omega) (by omega)
        exact L_13 3 0 c rfl (by omega) (by omega)
  exact L_6 5 0 _ rfl (by omega) (by omega)
set_option maxHeartbeats 4000000 in
set_option maxRecDepth 20000 in
theorem sp_X2_secondKind_27 {w : wd} (hk : rg (w 27 7)) : CalI yX2_secondKind cX2_secondKind 1 .int 1 LAY w [vR 27] (fun r w' => r = skF w 27 ∧ w' = w) := by
  refine calI_intro (ls := [some (vR 27)]) (by decide) (Nat.le_of_ble_eq_true rfl) rfl (fun κ ad X hR => ?_)
  refine j_aload_n X dX2_secondKind_0 rfl ?_
  refine j_getI X dX2_secondKind_1 ff_X2_104 rfl rfl ?_
  refine j_iconst X dX2_secondKind_4 ?_
  refine j_icmp_ne (tgt := 12) X dX2_secondKind_5 (by decide) ⟨by omega, by omega⟩ ⟨by omega, by omega⟩ (fun h_5 => ?_) (fun h_5 => ?_)
  · refine j_iconst X dX2_secondKind_12 ?_
    exact j_ireturn X hR dX2_secondKind_13 ⟨by unfold skF; split <;> omega, rfl⟩
  · refine j_iconst X dX2_secondKind_8 ?_
    refine j_goto (tgt := 13) X dX2_secondKind_9 (by decide) ?_
    exact j_ireturn X hR dX2_secondKind_13 ⟨by unfold skF; split <;> omega, rfl⟩
set_option maxHeartbeats 4000000 in
set_option maxRecDepth 20000 in
theorem sp_X2_least_27 {s : Nat} {w : wd} (hz : LzO w 28) (hs : s < 4) : CalI yX2_least cX2_least 2 .int 2 LAY w [vR 27, vI (s : Int)] (fun r w' => r = lsF w 28 s ∧ w' = w) := by
  have h1 := hz (4 + s) (by omega)
  have h2 := hz (8 + s) (by omega)
  simp only [show 28 + 4 = 32 from rfl, show 28 + 5 = 33 from rfl] at h1 h2
  refine calI_intro (ls := [some (vR 27), some (vI (s : Int))]) (by decide) (Nat.le_of_ble_eq_true rfl) rfl (fun κ ad X hR => ?_)
  refine j_aload_n X dX2_least_0 rfl ?_
  refine j_getR X dX2_least_1 ff_X2_26 rfl rfl ?_
  refine j_iconst X dX2_least_4 ?_
  refine j_iload_n X dX2_least_5 rfl ?_
  refine cS2i X mf_X2_row ms_X2_row ml_X2_113 (by decide) (Nat.le_of_ble_eq_true rfl) dX2_least_6 (sp_X2_row) (fun a_6 w_6 h_6 => ?_)
  obtain ⟨_, _⟩ := h_6
  subst a_6
  subst w_6
  rw [show (4 : Int) * 1 + (s : Int) = ((4 + s : Nat) : Int) by omega]
  refine cS2i X mf_X5_get ms_X5_get ml_X2_87 (by decide) (Nat.le_of_ble_eq_true rfl) dX2_least_9 (sp_getk (k := 4 + s) rfl (by decide) (by omega)) (fun a_9 w_9 h_9 => ?_)
  obtain ⟨_, _⟩ := h_9
  subst a_9
  subst w_9
  refine j_aload_n X dX2_least_12 rfl ?_
  refine j_getR X dX2_least_13 ff_X2_26 rfl rfl ?_
  refine j_iconst X dX2_least_16 ?_
  refine j_iload_n X dX2_least_17 rfl ?_
  refine cS2i X mf_X2_row ms_X2_row ml_X2_113 (by decide) (Nat.le_of_ble_eq_true rfl) dX2_least_18 (sp_X2_row) (fun a_18 w_18 h_18 => ?_)
  obtain ⟨_, _⟩ := h_18
  subst a_18
  subst w_18
  rw [show (4 : Int) * 2 + (s : Int) = ((8 + s : Nat) : Int) by omega]
  refine cS2i X mf_X5_get ms_X5_get ml_X2_87 (by decide) (Nat.le_of_ble_eq_true rfl) dX2_least_21 (sp_getk (k := 8 + s) rfl (by decide) (by omega)) (fun a_21 w_21 h_21 => ?_)
  obtain ⟨_, _⟩ := h_21
  subst a_21
  subst w_21
  refine j_mmin X csOk_0 mt_X2_124 (by decide) (Nat.le_of_ble_eq_true rfl) dX2_least_24 ⟨by omega, by omega⟩ ⟨by omega, by omega⟩ ?_
  exact j_ireturn X hR dX2_least_27 ⟨rfl, rfl⟩
set_option maxHeartbeats 4000000 in
set_option maxRecDepth 20000 in
theorem sp_X2_greatest_27 {s : Nat} {w : wd} (hz : LzO w 28) (hs : s < 4) : CalI yX2_greatest cX2_greatest 2 .int 2 LAY w [vR 27, vI (s : Int)] (fun r w' => r = grF w 28 s ∧ w' = w) := by
  have h1 := hz (4 + s) (by omega)
  have h2 := hz (8 + s) (by omega)
  simp only [show 28 + 4 = 32 from rfl, show 28 + 5 = 33 from rfl] at h1 h2
  refine calI_intro (ls := [some (vR 27), some (vI (s : Int))]) (by decide) (Nat.le_of_ble_eq_true rfl) rfl (fun κ ad X hR => ?_)
  refine j_aload_n X dX2_greatest_0 rfl ?_
  refine j_getR X dX2_greatest_1 ff_X2_29 rfl rfl ?_
  refine j_iconst X dX2_greatest_4 ?_
  refine j_iload_n X dX2_greatest_5 rfl ?_
  refine cS2i X mf_X2_row ms_X2_row ml_X2_113 (by decide) (Nat.le_of_ble_eq_true rfl) dX2_greatest_6 (sp_X2_row) (fun a_6 w_6 h_6 => ?_)
  obtain ⟨_, _⟩ := h_6
  subst a_6
  subst w_6
  rw [show (4 : Int) * 1 + (s : Int) = ((4 + s : Nat) : Int) by omega]
  refine cS2i X mf_X5_get ms_X5_get ml_X2_87 (by decide) (Nat.le_of_ble_eq_true rfl) dX2_greatest_9 (sp_getk (k := 4 + s) rfl (by decide) (by omega)) (fun a_9 w_9 h_9 => ?_)
  obtain ⟨_, _⟩ := h_9
  subst a_9
  subst w_9
  refine j_aload_n X dX2_greatest_12 rfl ?_
  refine j_getR X dX2_greatest_13 ff_X2_29 rfl rfl ?_
  refine j_iconst X dX2_greatest_16 ?_
  refine j_iload_n X dX2_greatest_17 rfl ?_
  refine cS2i X mf_X2_row ms_X2_row ml_X2_113 (by decide) (Nat.le_of_ble_eq_true rfl) dX2_greatest_18 (sp_X2_row) (fun a_18 w_18 h_18 => ?_)
  obtain ⟨_, _⟩ := h_18
  subst a_18
  subst w_18
  rw [show (4 : Int) * 2 + (s : Int) = ((8 + s : Nat) : Int) by omega]
  refine cS2i X mf_X5_get ms_X5_get ml_X2_87 (by decide) (Nat.le_of_ble_eq_true rfl) dX2_greatest_21 (sp_getk (k := 8 + s) rfl (by decide) (by omega)) (fun a_21 w_21 h_21 => ?_)
  obtain ⟨_, _⟩ := h_21
  subst a_21
  subst w_21
  refine j_mmax X csOk_0 mt_X2_129 (by decide) (Nat.le_of_ble_eq_true rfl) dX2_greatest_24 ⟨by omega, by omega⟩ ⟨by omega, by omega⟩ ?_
  exact j_ireturn X hR dX2_greatest_27 ⟨rfl, rfl⟩
set_option maxHeartbeats 4000000 in
set_option maxRecDepth 20000 in
theorem sp_X2_firstStrip_27 {w : wd} (hz : LzO w 28) : CalI yX2_firstStrip cX2_firstStrip 3 .int 3 LAY w [vR 27] (fun r w' => r = fstP w 28 4 ∧ w' = w) := by
  refine calI_intro (ls := [some (vR 27), none, none]) (by decide) (Nat.le_of_ble_eq_true rfl) rfl (fun κ ad X hR => ?_)
  refine j_sipush X dX2_firstStrip_0 (by decide +kernel) ?_
  refine s_1 X dX2_firstStrip_3 rfl ?_
  refine j_iconst X dX2_firstStrip_4 ?_
  refine s_2 X dX2_firstStrip_5 rfl ?_
  have L_6 : ∀ (m : Nat) (s : Nat) (c : Int) (_ : c = fstP w 28 s) (_ : s ≤ 4) (_ : 4 - s < m), J κ LAY ad 0 0 6 [some (vR 27), some (vI c), some (vI (s : Int))] [] w := by
    intro m
    induction m with
    | zero => intro s c hc h1 h2; exact absurd h2 (Nat.not_lt_zero _)
    | succ m ih6 =>
      intro s c hc h1 h2
      have hr := fl_rg hz s h1
      refine j_iload_n X dX2_firstStrip_6 rfl ?_
      refine j_iconst X dX2_firstStrip_7 ?_
      refine j_icmp_ge (tgt := 27) X dX2_firstStrip_8 (by decide) ⟨by omega, by omega⟩ ⟨by omega, by omega⟩ (fun h_8 => ?_) (fun h_8 => ?_)
      · refine j_iload_n X dX2_firstStrip_27 rfl ?_
        exact j_ireturn X hR dX2_firstStrip_28 ⟨by rw [hc, show s = 4 by omega], rfl⟩
      · refine j_iload_n X dX2_firstStrip_11 rfl ?_
        have hl := lg_rg hz (show s < 4 by omega)
        refine j_aload_n X dX2_firstStrip_12 rfl ?_
        refine j_iload_n X dX2_firstStrip_13 rfl ?_
        refine cV1i X mf_X2_least mv_X2_least ml_X2_132 (by decide) rfl rfl (Nat.le_of_ble_eq_true rfl) dX2_firstStrip_14 (sp_X2_least_27 hz (by omega)) (fun a_14 w_14 h_14 => ?_)
        obtain ⟨_, _⟩ := h_14
        subst a_14
        subst w_14
        refine j_mmin X csOk_0 mt_X2_124 (by decide) (Nat.le_of_ble_eq_true rfl) dX2_firstStrip_17 ⟨by omega, by omega⟩ ⟨by omega, by omega⟩ ?_
        refine s_1 X dX2_firstStrip_20 rfl ?_
        refine inc_2 X dX2_firstStrip_21 rfl ?_
        refine j_goto (tgt := 6) X dX2_firstStrip_24 (by decide) ?_
        exact ih6 (s + 1) _ (by rw [hc]; rfl) (by omega) (by omega)
  exact L_6 5 0 _ rfl (by omega) (by omega)
set_option maxHeartbeats 4000000 in
set_option maxRecDepth 20000 in
theorem sp_X2_lastStrip_27 {w : wd} (hz : LzO w 28) : CalI yX2_lastStrip cX2_lastStrip 3 .int 3 LAY w [vR 27] (fun r w' => r = lstP w 28 4 ∧ w' = w) := by
  refine calI_intro (ls := [some (vR 27), none, none]) (by decide) (Nat.le_of_ble_eq_true rfl) rfl (fun κ ad X hR => ?_)
  refine j_sipush X dX2_lastStrip_0 (by decide +kernel) ?_
  refine s_1 X dX2_lastStrip_3 rfl ?_
  refine j_iconst X dX2_lastStrip_4 ?_
  refine s_2 X dX2_lastStrip_5 rfl ?_
  have L_6 : ∀ (m : Nat) (s : Nat) (c : Int) (_ : c = lstP w 28 s) (_ : s ≤ 4) (_ : 4 - s < m), J κ LAY ad 0 0 6 [some (vR 27), some (vI c), some (vI (s : Int))] [] w := by
    intro m
    induction m with
    | zero => intro s c hc h1 h2; exact absurd h2 (Nat.not_lt_zero _)
    | succ m ih6 =>
      intro s c hc h1 h2
      have hr := fl_rg hz s h1
      refine j_iload_n X dX2_lastStrip_6 rfl ?_
      refine j_iconst X dX2_lastStrip_7 ?_
      refine j_icmp_ge (tgt := 27) X dX2_lastStrip_8 (by decide) ⟨by omega, by omega⟩ ⟨by omega, by omega⟩ (fun h_8 => ?_) (fun h_8 => ?_)
      · refine j_iload_n X dX2_lastStrip_27 rfl ?_
        exact j_ireturn X hR dX2_lastStrip_28 ⟨by rw [hc, show s = 4 by omega], rfl⟩
      · refine j_iload_n X dX2_lastStrip_11 rfl ?_
        have hl := lg_rg hz (show s < 4 by omega)
        refine j_aload_n X dX2_lastStrip_12 rfl ?_
        refine j_iload_n X dX2_lastStrip_13 rfl ?_
        refine cV1i X mf_X2_greatest mv_X2_greatest ml_X2_135 (by decide) rfl rfl (Nat.le_of_ble_eq_true rfl) dX2_lastStrip_14 (sp_X2_greatest_27 hz (by omega)) (fun a_14 w_14 h_14 => ?_)
        obtain ⟨_, _⟩ := h_14
        subst a_14
        subst w_14
        refine j_mmax X csOk_0 mt_X2_129 (by decide) (Nat.le_of_ble_eq_true rfl) dX2_lastStrip_17 ⟨by omega, by omega⟩ ⟨by omega, by omega⟩ ?_
        refine s_1 X dX2_lastStrip_20 rfl ?_
        refine inc_2 X dX2_lastStrip_21 rfl ?_
        refine j_goto (tgt := 6) X dX2_lastStrip_24 (by decide) ?_
        exact ih6 (s + 1) _ (by rw [hc]; rfl) (by omega) (by omega)
  exact L_6 5 0 _ rfl (by omega) (by omega)
set_option maxHeartbeats 4000000 in
set_option maxRecDepth 20000 in
theorem sp_X2_isCrossed_27 {s : Nat} {k : Int} {w : wd} (hz : LzO w 28) (hs : s < 4) (hk : rg k) : CalI yX2_isCrossed cX2_isCrossed 3 .boolean 3 LAY w [vR 27, vI (s : Int), vI k] (fun r w' => r = ib (lsF w 28 s < k ∧ k ≤ grF w 28 s) ∧ w' = w) := by
  have hl := lg_rg hz hs
  refine calI_intro (ls := [some (vR 27), some (vI (s : Int)), some (vI k)]) (by decide) (Nat.le_of_ble_eq_true rfl) rfl (fun κ ad X hR => ?_)
  refine j_aload_n X dX2_isCrossed_0 rfl ?_
  refine j_iload_n X dX2_isCrossed_1 rfl ?_
  refine cV1i X mf_X2_least mv_X2_least ml_X2_132 (by decide) rfl rfl (Nat.le_of_ble_eq_true rfl) dX2_isCrossed_2 (sp_X2_least_27 hz hs) (fun a_2 w_2 h_2 => ?_)
  obtain ⟨_, _⟩ := h_2
  subst a_2
  subst w_2
  refine j_iload_n X dX2_isCrossed_5 rfl ?_
  refine j_icmp_ge (tgt := 22) X dX2_isCrossed_6 (by decide) ⟨by omega, by omega⟩ ⟨by omega, by omega⟩ (fun h_6 => ?_) (fun h_6 => ?_)
  · refine j_iconst X dX2_isCrossed_22 ?_
    exact j_zreturn X hR dX2_isCrossed_23 (by first | exact Or.inl rfl | exact Or.inr rfl | exact ib_01) ⟨by first | exact (ib_t (by omega)).symm | exact (ib_f (by omega)).symm, rfl⟩
  · refine j_aload_n X dX2_isCrossed_9 rfl ?_
    refine j_iload_n X dX2_isCrossed_10 rfl ?_
    refine cV1i X mf_X2_greatest mv_X2_greatest ml_X2_135 (by decide) rfl rfl (Nat.le_of_ble_eq_true rfl) dX2_isCrossed_11 (sp_X2_greatest_27 hz hs) (fun a_11 w_11 h_11 => ?_)
    obtain ⟨_, _⟩ := h_11
    subst a_11
    subst w_11
    refine j_iload_n X dX2_isCrossed_14 rfl ?_
    refine j_icmp_lt (tgt := 22) X dX2_isCrossed_15 (by decide) ⟨by omega, by omega⟩ ⟨by omega, by omega⟩ (fun h_15 => ?_) (fun h_15 => ?_)
    · refine j_iconst X dX2_isCrossed_22 ?_
      exact j_zreturn X hR dX2_isCrossed_23 (by first | exact Or.inl rfl | exact Or.inr rfl | exact ib_01) ⟨by first | exact (ib_t (by omega)).symm | exact (ib_f (by omega)).symm, rfl⟩
    · refine j_iconst X dX2_isCrossed_18 ?_
      refine j_goto (tgt := 23) X dX2_isCrossed_19 (by decide) ?_
      exact j_zreturn X hR dX2_isCrossed_23 (by first | exact Or.inl rfl | exact Or.inr rfl | exact ib_01) ⟨by first | exact (ib_t (by omega)).symm | exact (ib_f (by omega)).symm, rfl⟩
set_option maxHeartbeats 4000000 in
set_option maxRecDepth 20000 in
theorem sp_X2_firstCut__27 {s d : Nat} {w : wd} (hz : LzO w 28) (hs : s < 4) (hd : d < 2) : CalI yX2_firstCut_ cX2_firstCut_ 4 .int 2 LAY w [vR 27, vI (s : Int), vI (d : Int)] (fun r w' => r = fcF w 28 s d ∧ w' = w) := by
  have h1 := hz (4 + s) (by omega)
  have h2 := hz (8 + s) (by omega)
  simp only [show 28 + 4 = 32 from rfl, show 28 + 5 = 33 from rfl] at h1 h2
  refine calI_intro (ls := [some (vR 27), some (vI (s : Int)), some (vI (d : Int)), none]) (by decide) (Nat.le_of_ble_eq_true rfl) rfl (fun κ ad X hR => ?_)
  refine j_iload_n X dX2_firstCut__0 rfl ?_
  refine j_if_ne (tgt := 8) X dX2_firstCut__1 (by decide) ⟨by omega, by omega⟩ (fun h_1 => ?_) (fun h_1 => ?_)
  · refine j_iconst X dX2_firstCut__8 ?_
    refine s_3 X dX2_firstCut__9 rfl ?_
    refine j_bipush X dX2_firstCut__10 (by decide +kernel) ?_
    refine j_aload_n X dX2_firstCut__12 rfl ?_
    refine j_getR X dX2_firstCut__13 ff_X2_29 rfl rfl ?_
    refine j_iload_n X dX2_firstCut__16 rfl ?_
    refine j_iload_n X dX2_firstCut__17 rfl ?_
    refine cS2i X mf_X2_row ms_X2_row ml_X2_113 (by decide) (Nat.le_of_ble_eq_true rfl) dX2_firstCut__18 (sp_X2_row) (fun a_18 w_18 h_18 => ?_)
    obtain ⟨_, _⟩ := h_18
    subst a_18
    subst w_18
    first | rw [show (4 : Int) * 1 + (s : Int) = ((4 + s : Nat) : Int) by omega] | rw [show (4 : Int) * 2 + (s : Int) = ((8 + s : Nat) : Int) by omega]
    refine cS2i X mf_X5_get ms_X5_get ml_X2_87 (by decide) (Nat.le_of_ble_eq_true rfl) dX2_firstCut__21 (sp_getk (k := 8 + s) rfl (by decide) (by omega)) (fun a_21 w_21 h_21 => ?_)
    obtain ⟨_, _⟩ := h_21
    subst a_21
    subst w_21
    refine j_iconst X dX2_firstCut__24 ?_
    refine j_iadd X dX2_firstCut__25 ?_
    refine j_mmax X csOk_0 mt_X2_129 (by decide) (Nat.le_of_ble_eq_true rfl) dX2_firstCut__26 ⟨by omega, by omega⟩ ⟨by omega, by omega⟩ ?_
    exact j_ireturn X hR dX2_firstCut__29 ⟨by unfold fcF; rw [if_neg (by omega)], rfl⟩
  · refine j_iconst X dX2_firstCut__4 ?_
    refine j_goto (tgt := 9) X dX2_firstCut__5 (by decide) ?_
    refine s_3 X dX2_firstCut__9 rfl ?_
    refine j_bipush X dX2_firstCut__10 (by decide +kernel) ?_
    refine j_aload_n X dX2_firstCut__12 rfl ?_
    refine j_getR X dX2_firstCut__13 ff_X2_29 rfl rfl ?_
    refine j_iload_n X dX2_firstCut__16 rfl ?_
    refine j_iload_n X dX2_firstCut__17 rfl ?_
    refine cS2i X mf_X2_row ms_X2_row ml_X2_113 (by decide) (Nat.le_of_ble_eq_true rfl) dX2_firstCut__18 (sp_X2_row) (fun a_18 w_18 h_18 => ?_)
    obtain ⟨_, _⟩ := h_18
    subst a_18
    subst w_18
    first | rw [show (4 : Int) * 1 + (s : Int) = ((4 + s : Nat) : Int) by omega] | rw [show (4 : Int) * 2 + (s : Int) = ((8 + s : Nat) : Int) by omega]
    refine cS2i X mf_X5_get ms_X5_get ml_X2_87 (by decide) (Nat.le_of_ble_eq_true rfl) dX2_firstCut__21 (sp_getk (k := 4 + s) rfl (by decide) (by omega)) (fun a_21 w_21 h_21 => ?_)
    obtain ⟨_, _⟩ := h_21
    subst a_21
    subst w_21
    refine j_iconst X dX2_firstCut__24 ?_
    refine j_iadd X dX2_firstCut__25 ?_
    refine j_mmax X csOk_0 mt_X2_129 (by decide) (Nat.le_of_ble_eq_true rfl) dX2_firstCut__26 ⟨by omega, by omega⟩ ⟨by omega, by omega⟩ ?_
    exact j_ireturn X hR dX2_firstCut__29 ⟨by unfold fcF; rw [if_pos (by omega)], rfl⟩
set_option maxHeartbeats 4000000 in
set_option maxRecDepth 20000 in
theorem sp_X2_lastCut_27 {s d : Nat} {w : wd} (hz : LzO w 28) (hs : s < 4) (hd : d < 2) : CalI yX2_lastCut cX2_lastCut 4 .int 2 LAY w [vR 27, vI (s : Int), vI (d : Int)] (fun r w' => r = lcF w 28 s d ∧ w' = w) := by
  have h1 := hz (4 + s) (by omega)
  have h2 := hz (8 + s) (by omega)
  simp only [show 28 + 4 = 32 from rfl, show 28 + 5 = 33 from rfl] at h1 h2
  refine calI_intro (ls := [some (vR 27), some (vI (s : Int)), some (vI (d : Int)), none]) (by decide) (Nat.le_of_ble_eq_true rfl) rfl (fun κ ad X hR => ?_)
  refine j_iload_n X dX2_lastCut_0 rfl ?_
  refine j_if_ne (tgt := 8) X dX2_lastCut_1 (by decide) ⟨by omega, by omega⟩ (fun h_1 => ?_) (fun h_1 => ?_)
  · refine j_iconst X dX2_lastCut_8 ?_
    refine s_3 X dX2_lastCut_9 rfl ?_
    refine j_bipush X dX2_lastCut_10 (by decide +kernel) ?_
    refine j_aload_n X dX2_lastCut_12 rfl ?_
    refine j_getR X dX2_lastCut_13 ff_X2_26 rfl rfl ?_
    refine j_iload_n X dX2_lastCut_16 rfl ?_
    refine j_iload_n X dX2_lastCut_17 rfl ?_
    refine cS2i X mf_X2_row ms_X2_row ml_X2_113 (by decide) (Nat.le_of_ble_eq_true rfl) dX2_lastCut_18 (sp_X2_row) (fun a_18 w_18 h_18 => ?_)
    obtain ⟨_, _⟩ := h_18
    subst a_18
    subst w_18
    first | rw [show (4 : Int) * 1 + (s : Int) = ((4 + s : Nat) : Int) by omega] | rw [show (4 : Int) * 2 + (s : Int) = ((8 + s : Nat) : Int) by omega]
    refine cS2i X mf_X5_get ms_X5_get ml_X2_87 (by decide) (Nat.le_of_ble_eq_true rfl) dX2_lastCut_21 (sp_getk (k := 4 + s) rfl (by decide) (by omega)) (fun a_21 w_21 h_21 => ?_)
    obtain ⟨_, _⟩ := h_21
    subst a_21
    subst w_21
    refine j_mmin X csOk_0 mt_X2_124 (by decide) (Nat.le_of_ble_eq_true rfl) dX2_lastCut_24 ⟨by omega, by omega⟩ ⟨by omega, by omega⟩ ?_
    exact j_ireturn X hR dX2_lastCut_27 ⟨by unfold lcF; rw [if_neg (by omega)], rfl⟩
  · refine j_iconst X dX2_lastCut_4 ?_
    refine j_goto (tgt := 9) X dX2_lastCut_5 (by decide) ?_
    refine s_3 X dX2_lastCut_9 rfl ?_
    refine j_bipush X dX2_lastCut_10 (by decide +kernel) ?_
    refine j_aload_n X dX2_lastCut_12 rfl ?_
    refine j_getR X dX2_lastCut_13 ff_X2_26 rfl rfl ?_
    refine j_iload_n X dX2_lastCut_16 rfl ?_
    refine j_iload_n X dX2_lastCut_17 rfl ?_
    refine cS2i X mf_X2_row ms_X2_row ml_X2_113 (by decide) (Nat.le_of_ble_eq_true rfl) dX2_lastCut_18 (sp_X2_row) (fun a_18 w_18 h_18 => ?_)
    obtain ⟨_, _⟩ := h_18
    subst a_18
    subst w_18
    first | rw [show (4 : Int) * 1 + (s : Int) = ((4 + s : Nat) : Int) by omega] | rw [show (4 : Int) * 2 + (s : Int) = ((8 + s : Nat) : Int) by omega]
    refine cS2i X mf_X5_get ms_X5_get ml_X2_87 (by decide) (Nat.le_of_ble_eq_true rfl) dX2_lastCut_21 (sp_getk (k := 8 + s) rfl (by decide) (by omega)) (fun a_21 w_21 h_21 => ?_)
    obtain ⟨_, _⟩ := h_21
    subst a_21
    subst w_21
    refine j_mmin X csOk_0 mt_X2_124 (by decide) (Nat.le_of_ble_eq_true rfl) dX2_lastCut_24 ⟨by omega, by omega⟩ ⟨by omega, by omega⟩ ?_
    exact j_ireturn X hR dX2_lastCut_27 ⟨by unfold lcF; rw [if_pos (by omega)], rfl⟩
set_option maxHeartbeats 4000000 in
set_option maxRecDepth 20000 in
theorem sp_X2_isEntangled_27 {w : wd} (hz : LzO w 28) : CalI yX2_isEntangled cX2_isEntangled 2 .boolean 3 LAY w [vR 27] (fun r w' => r = ib (enA w 28) ∧ w' = w) := by
  refine calI_intro (ls := [some (vR 27), none]) (by decide) (Nat.le_of_ble_eq_true rfl) rfl (fun κ ad X hR => ?_)
  refine j_iconst X dX2_isEntangled_0 ?_
  refine s_1 X dX2_isEntangled_1 rfl ?_
  have L_2 : ∀ (m : Nat) (s : Nat) (_ : ∀ j, j < s → enS w 28 j) (_ : s ≤ 4) (_ : 4 - s < m), J κ LAY ad 0 0 2 [some (vR 27), some (vI (s : Int))] [] w := by
    intro m
    induction m with
    | zero => intro s hj h1 h2; exact absurd h2 (Nat.not_lt_zero _)
    | succ m ih2 =>
      intro s hj h1 h2
      refine j_iload_n X dX2_isEntangled_2 rfl ?_
      refine j_iconst X dX2_isEntangled_3 ?_
      refine j_icmp_ge (tgt := 45) X dX2_isEntangled_4 (by decide) ⟨by omega, by omega⟩ ⟨by omega, by omega⟩ (fun h_4 => ?_) (fun h_4 => ?_)
      · refine j_iconst X dX2_isEntangled_45 ?_
        exact j_zreturn X hR dX2_isEntangled_46 (by first | exact Or.inl rfl | exact Or.inr rfl | exact ib_01) ⟨(ib_t ⟨hj 0 (by omega), hj 1 (by omega), hj 2 (by omega), hj 3 (by omega)⟩).symm, rfl⟩
      · have c0 := cf_rg hz (show s < 4 by omega) 0
        have c1 := cf_rg hz (show s < 4 by omega) 1
        refine j_aload_n X dX2_isEntangled_7 rfl ?_
        refine j_iload_n X dX2_isEntangled_8 rfl ?_
        refine j_iconst X dX2_isEntangled_9 ?_
        refine cV2i X mf_X2_firstCut_ mv_X2_firstCut_ ml_X2_159 (by decide) rfl rfl (Nat.le_of_ble_eq_true rfl) dX2_isEntangled_10 (sp_X2_firstCut__27 (d := 0) hz (by omega) (by decide)) (fun a_10 w_10 h_10 => ?_)
        obtain ⟨_, _⟩ := h_10
        subst a_10
        subst w_10
        refine j_aload_n X dX2_isEntangled_13 rfl ?_
        refine j_iload_n X dX2_isEntangled_14 rfl ?_
        refine j_iconst X dX2_isEntangled_15 ?_
        refine cV2i X mf_X2_lastCut mv_X2_lastCut ml_X2_162 (by decide) rfl rfl (Nat.le_of_ble_eq_true rfl) dX2_isEntangled_16 (sp_X2_lastCut_27 (d := 0) hz (by omega) (by decide)) (fun a_16 w_16 h_16 => ?_)
        obtain ⟨_, _⟩ := h_16
        subst a_16
        subst w_16
        refine j_icmp_le (tgt := 37) X dX2_isEntangled_19 (by decide) ⟨by omega, by omega⟩ ⟨by omega, by omega⟩ (fun h_19 => ?_) (fun h_19 => ?_)
        · refine j_iconst X dX2_isEntangled_37 ?_
          exact j_zreturn X hR dX2_isEntangled_38 (by first | exact Or.inl rfl | exact Or.inr rfl | exact ib_01) ⟨(ib_f (fun z => by have := enA_all z s (by omega); omega)).symm, rfl⟩
        · refine j_aload_n X dX2_isEntangled_22 rfl ?_
          refine j_iload_n X dX2_isEntangled_23 rfl ?_
          refine j_iconst X dX2_isEntangled_24 ?_
          refine cV2i X mf_X2_firstCut_ mv_X2_firstCut_ ml_X2_159 (by decide) rfl rfl (Nat.le_of_ble_eq_true rfl) dX2_isEntangled_25 (sp_X2_firstCut__27 (d := 1) hz (by omega) (by decide)) (fun a_25 w_25 h_25 => ?_)
          obtain ⟨_, _⟩ := h_25
          subst a_25
          subst w_25
          refine j_aload_n X dX2_isEntangled_28 rfl ?_
          refine j_iload_n X dX2_isEntangled_29 rfl ?_
          refine j_iconst X dX2_isEntangled_30 ?_
          refine cV2i X mf_X2_lastCut mv_X2_lastCut ml_X2_162 (by decide) rfl rfl (Nat.le_of_ble_eq_true rfl) dX2_isEntangled_31 (sp_X2_lastCut_27 (d := 1) hz (by omega) (by decide)) (fun a_31 w_31 h_31 => ?_)
          obtain ⟨_, _⟩ := h_31
          subst a_31
          subst w_31
          refine j_icmp_gt (tgt := 39) X dX2_isEntangled_34 (by decide) ⟨by omega, by omega⟩ ⟨by omega, by omega⟩ (fun h_34 => ?_) (fun h_34 => ?_)
          · refine inc_1 X dX2_isEntangled_39 rfl ?_
            refine j_goto (tgt := 2) X dX2_isEntangled_42 (by decide) ?_
            exact ih2 (s + 1) (fun j h => by rcases Nat.lt_succ_iff_lt_or_eq.mp h with q1 | q1; exact hj j q1; subst q1; omega) (by omega) (by omega)
          · refine j_iconst X dX2_isEntangled_37 ?_
            exact j_zreturn X hR dX2_isEntangled_38 (by first | exact Or.inl rfl | exact Or.inr rfl | exact ib_01) ⟨(ib_f (fun z => by have := enA_all z s (by omega); omega)).symm, rfl⟩
  exact L_2 5 0 (fun j h => absurd h (Nat.not_lt_zero j)) (by omega) (by omega)
set_option maxHeartbeats 4000000 in
set_option maxRecDepth 20000 in
theorem sp_X2_cuts_27 {w : wd} (hz : LzO w 28) : CalI yX2_cuts cX2_cuts 4 .int 3 LAY w [vR 27] (fun r w' => r = sm (fun s => sm (fun d => max 0 (lcF w 28 s d - fcF w 28 s d + 1)) 2) 4 ∧ w' = w) := by
  refine calI_intro (ls := [some (vR 27), none, none, none]) (by decide) (Nat.le_of_ble_eq_true rfl) rfl (fun κ ad X hR => ?_)
  refine j_iconst X dX2_cuts_0 ?_
  refine s_1 X dX2_cuts_1 rfl ?_
  refine j_iconst X dX2_cuts_2 ?_
  refine s_2 X dX2_cuts_3 rfl ?_
  have L_4 : ∀ (m : Nat) (s : Nat) (c : Int) (_ : c = sm (fun s => sm (fun d => max 0 (lcF w 28 s d - fcF w 28 s d + 1)) 2) s) (_ : s ≤ 4) (_ : 4 - s < m), J κ LAY ad 0 0 4 [some (vR 27), some (vI c), some (vI (s : Int)), none] [] w := by
    intro m
    induction m with
    | zero => intro s c hc h1 h2; exact absurd h2 (Nat.not_lt_zero _)
    | succ m ih4 =>
      intro s c hc h1 h2
      refine j_iload_n X dX2_cuts_4 rfl ?_
      refine j_iconst X dX2_cuts_5 ?_
      refine j_icmp_ge (tgt := 50) X dX2_cuts_6 (by decide) ⟨by omega, by omega⟩ ⟨by omega, by omega⟩ (fun h_6 => ?_) (fun h_6 => ?_)
      · refine j_iload_n X dX2_cuts_50 rfl ?_
        exact j_ireturn X hR dX2_cuts_51 ⟨by rw [hc, show s = 4 by omega], rfl⟩
      · refine j_iconst X dX2_cuts_9 ?_
        refine s_3 X dX2_cuts_10 rfl ?_
        have L_11 : ∀ (m : Nat) (d : Nat) (e : Int) (_ : e = c + sm (fun d => max 0 (lcF w 28 s d - fcF w 28 s d + 1)) d) (_ : d ≤ 2) (_ : 2 - d < m), J κ LAY ad 0 0 11 [some (vR 27), some (vI e), some (vI (s : Int)), some (vI (d : Int))] [] w := by
          intro m
          induction m with
          | zero => intro d e he h3 h4; exact absurd h4 (Nat.not_lt_zero _)
          | succ m ih11 =>
            intro d e he h3 h4
            refine j_iload_n X dX2_cuts_11 rfl ?_
            refine j_iconst X dX2_cuts_12 ?_
            refine j_icmp_ge (tgt := 44) X dX2_cuts_13 (by decide) ⟨by omega, by omega⟩ ⟨by omega, by omega⟩ (fun h_13 => ?_) (fun h_13 => ?_)
            · refine inc_2 X dX2_cuts_44 rfl ?_
              refine j_goto (tgt := 4) X dX2_cuts_47 (by decide) ?_
              refine fg_3 ?_
              exact ih4 (s + 1) _ (by rw [he, sm_s, hc, show d = 2 by omega]) (by omega) (by omega)
            · have c0 := cf_rg hz (show s < 4 by omega) d
              refine j_iload_n X dX2_cuts_16 rfl ?_
              refine j_iconst X dX2_cuts_17 ?_
              refine j_aload_n X dX2_cuts_18 rfl ?_
              refine j_iload_n X dX2_cuts_19 rfl ?_
              refine j_iload_n X dX2_cuts_20 rfl ?_
              refine cV2i X mf_X2_lastCut mv_X2_lastCut ml_X2_162 (by decide) rfl rfl (Nat.le_of_ble_eq_true rfl) dX2_cuts_21 (sp_X2_lastCut_27 hz (by omega) (by omega)) (fun a_21 w_21 h_21 => ?_)
              obtain ⟨_, _⟩ := h_21
              subst a_21
              subst w_21
              refine j_aload_n X dX2_cuts_24 rfl ?_
              refine j_iload_n X dX2_cuts_25 rfl ?_
              refine j_iload_n X dX2_cuts_26 rfl ?_
              refine cV2i X mf_X2_firstCut_ mv_X2_firstCut_ ml_X2_159 (by decide) rfl rfl (Nat.le_of_ble_eq_true rfl) dX2_cuts_27 (sp_X2_firstCut__27 hz (by omega) (by omega)) (fun a_27 w_27 h_27 => ?_)
              obtain ⟨_, _⟩ := h_27
              subst a_27
              subst w_27
              refine j_isub X dX2_cuts_30 ?_
              refine j_iconst X dX2_cuts_31 ?_
              refine j_iadd X dX2_cuts_32 ?_
              refine j_mmax X csOk_0 mt_X2_129 (by decide) (Nat.le_of_ble_eq_true rfl) dX2_cuts_33 ⟨by omega, by omega⟩ ⟨by omega, by omega⟩ ?_
              refine j_iadd X dX2_cuts_36 ?_
              refine s_1 X dX2_cuts_37 rfl ?_
              refine inc_3 X dX2_cuts_38 rfl ?_
              refine j_goto (tgt := 11) X dX2_cuts_41 (by decide) ?_
              exact ih11 (d + 1) _ (by rw [sm_s, he]; exact Int.add_assoc _ _ _) (by omega) (by omega)
        exact L_11 3 0 c (by rw [sm_0]; omega) (by omega) (by omega)
  exact L_4 5 0 0 rfl (by omega) (by omega)
set_option maxHeartbeats 4000000 in
set_option maxRecDepth 20000 in
theorem sp_X2_firstCut_27 {w : wd} (hz : LzO w 28) : CalI yX2_firstCut cX2_firstCut 5 .int 3 LAY w [vR 27] (fun r w' => r = tcP w 28 4 ∧ w' = w) := by
  refine calI_intro (ls := [some (vR 27), none, none, none, none]) (by decide) (Nat.le_of_ble_eq_true rfl) rfl (fun κ ad X hR => ?_)
  refine j_sipush X dX2_firstCut_0 (by decide +kernel) ?_
  refine s_1 X dX2_firstCut_3 rfl ?_
  refine j_iconst X dX2_firstCut_4 ?_
  refine s_2 X dX2_firstCut_5 rfl ?_
  have L_6 : ∀ (m : Nat) (s : Nat) (c : Int) (_ : c = tcP w 28 s) (_ : s ≤ 4) (_ : 4 - s < m), J κ LAY ad 0 0 6 [some (vR 27), some (vI c), some (vI (s : Int)), none, none] [] w := by
    intro m
    induction m with
    | zero => intro s c hc h1 h2; exact absurd h2 (Nat.not_lt_zero _)
    | succ m ih6 =>
      intro s c hc h1 h2
      have hcr := tcP_rg hz s h1
      refine j_iload_n X dX2_firstCut_6 rfl ?_
      refine j_iconst X dX2_firstCut_7 ?_
      refine j_icmp_ge (tgt := 61) X dX2_firstCut_8 (by decide) ⟨by omega, by omega⟩ ⟨by omega, by omega⟩ (fun h_8 => ?_) (fun h_8 => ?_)
      · refine j_iload_n X dX2_firstCut_61 rfl ?_
        exact j_ireturn X hR dX2_firstCut_62 ⟨by rw [hc, show s = 4 by omega], rfl⟩
      · refine j_iconst X dX2_firstCut_11 ?_
        refine s_3 X dX2_firstCut_12 rfl ?_
        have L_13 : ∀ (m : Nat) (d : Nat) (e : Int) (_ : e = tcI w 28 s c d) (_ : d ≤ 2) (_ : 2 - d < m), J κ LAY ad 0 0 13 [some (vR 27), some (vI e), some (vI (s : Int)), some (vI (d : Int)), none] [] w := by
          intro m
          induction m with
          | zero => intro d e he h3 h4; exact absurd h4 (Nat.not_lt_zero _)
          | succ m ih13 =>
            intro d e he h3 h4
            refine j_iload_n X dX2_firstCut_13 rfl ?_
            refine j_iconst X dX2_firstCut_14 ?_
            refine j_icmp_ge (tgt := 55) X dX2_firstCut_15 (by decide) ⟨by omega, by omega⟩ ⟨by omega, by omega⟩ (fun h_15 => ?_) (fun h_15 => ?_)
            · refine inc_2 X dX2_firstCut_55 rfl ?_
              refine j_goto (tgt := 6) X dX2_firstCut_58 (by decide) ?_
              refine fg_3 ?_
              exact ih6 (s + 1) _ (by rw [he, hc, show d = 2 by omega]; rfl) (by omega) (by omega)
            · have c0 := cf_rg hz (show s < 4 by omega) d
              have her := tc_rg hz (show s < 4 by omega) (c := c) (by rw [hc]; exact hcr) d h3
              refine j_aload_n X dX2_firstCut_18 rfl ?_
              refine j_iload_n X dX2_firstCut_19 rfl ?_
              refine j_iload_n X dX2_firstCut_20 rfl ?_
              refine cV2i X mf_X2_firstCut_ mv_X2_firstCut_ ml_X2_159 (by decide) rfl rfl (Nat.le_of_ble_eq_true rfl) dX2_firstCut_21 (sp_X2_firstCut__27 hz (by omega) (by omega)) (fun a_21 w_21 h_21 => ?_)
              obtain ⟨_, _⟩ := h_21
              subst a_21
              subst w_21
              refine s_4 X dX2_firstCut_24 rfl ?_
              refine j_iload X dX2_firstCut_26 rfl ?_
              refine j_aload_n X dX2_firstCut_28 rfl ?_
              refine j_iload_n X dX2_firstCut_29 rfl ?_
              refine j_iload_n X dX2_firstCut_30 rfl ?_
              refine cV2i X mf_X2_lastCut mv_X2_lastCut ml_X2_162 (by decide) rfl rfl (Nat.le_of_ble_eq_true rfl) dX2_firstCut_31 (sp_X2_lastCut_27 hz (by omega) (by omega)) (fun a_31 w_31 h_31 => ?_)
              obtain ⟨_, _⟩ := h_31
              subst a_31
              subst w_31
              refine j_icmp_gt (tgt := 49) X dX2_firstCut_34 (by decide) ⟨by omega, by omega⟩ ⟨by omega, by omega⟩ (fun h_34 => ?_) (fun h_34 => ?_)
              · refine inc_3 X dX2_firstCut_49 rfl ?_
                refine j_goto (tgt := 13) X dX2_firstCut_52 (by decide) ?_
                refine fg_4 ?_
                exact ih13 (d + 1) _ (by rw [he]; simp only [tcI]; rw [if_neg (by omega)]) (by omega) (by omega)
              · refine j_iload_n X dX2_firstCut_37 rfl ?_
                refine j_iload_n X dX2_firstCut_38 rfl ?_
                refine j_iload X dX2_firstCut_39 rfl ?_
                refine j_iload_n X dX2_firstCut_41 rfl ?_
                refine cS3i X mf_X6_tell ms_X6_tell ml_X2_165 (by decide) (Nat.le_of_ble_eq_true rfl) dX2_firstCut_42 (sp_X6_tell) (fun a_42 w_42 h_42 => ?_)
                obtain ⟨_, _⟩ := h_42
                subst a_42
                subst w_42
                refine j_mmin X csOk_0 mt_X2_124 (by decide) (Nat.le_of_ble_eq_true rfl) dX2_firstCut_45 ⟨by omega, by omega⟩ ⟨by omega, by omega⟩ ?_
                refine s_1 X dX2_firstCut_48 rfl ?_
                refine inc_3 X dX2_firstCut_49 rfl ?_
                refine j_goto (tgt := 13) X dX2_firstCut_52 (by decide) ?_
                refine fg_4 ?_
                exact ih13 (d + 1) _ (by rw [he]; simp only [tcI, tellF]; rw [if_pos (by omega)]) (by omega) (by omega)
        exact L_13 3 0 c rfl (by omega) (by omega)
  exact L_6 5 0 _ rfl (by omega) (by omega)
