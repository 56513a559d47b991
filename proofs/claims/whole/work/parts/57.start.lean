/-! ===== the law's loop ===== -/
set_option maxHeartbeats 4000000 in
set_option maxRecDepth 20000 in
theorem law_loop {κ : KT} {b L : Nat} {xs : Nat → Int32} (X : Okk κ cL_law RL 30) (K : LwK κ b) (S : ScrOk κ b L xs) {ad : Nat → Nat} (ha : ad 1000 = b) (hL : L ≤ 2560) : ∀ (t j : Nat) (w : wd), L + 10 - 5 * j < t → 5 * j ≤ L → (∃ n, JI n (3169056 * (j : Int)) w) → J κ LAY ad 79 38217 18 [some (vR 1000), some (vR 0), some (vR 54), some (vI ((5 * j : Nat) : Int))] [] w := by
  intro t
  induction t with
  | zero => intro j w h; omega
  | succ t ih =>
    intro j w ht hj hJ
    obtain ⟨n, h⟩ := hJ
    refine j_iload_n X dL_law_18 rfl ?_
    refine j_aload_n X dL_law_19 rfl ?_
    refine j_slen X S ha dL_law_20 ?_
    refine j_iconst X dL_law_21 ?_
    refine j_isub X dL_law_22 ?_
    refine j_icmp_gt (tgt := 1196) X dL_law_23 (by decide) ⟨by omega, by omega⟩ ⟨by omega, by omega⟩ (fun h9 => ?_) (fun h9 => ?_)
    · refine j_iconst X dL_law_1196 ?_
      exact j_lret X K (by decide) (by decide) dL_law_1197
    refine j_aload_n X dL_law_26 rfl ?_
    refine j_iload_n X dL_law_27 rfl ?_
    refine j_sld X S ha (by omega) (by omega) (by omega) dL_law_28 ?_
    refine j_bipush X dL_law_29 (by decide +kernel) ?_
    refine j_iand (r := sxv xs ((5 * j : Nat) : Int) % 32) X dL_law_31 (z_and 5 (by decide)) ?_
    have hr : 0 ≤ sxv xs ((5 * j : Nat) : Int) % 32 ∧ sxv xs ((5 * j : Nat) : Int) % 32 < 32 := by omega
    generalize sxv xs ((5 * j : Nat) : Int) % 32 = r at hr ⊢
    have kk : ∀ w', JN (3169056 * (j : Int)) w' → J κ LAY ad 79 38217 1190 [some (vR 1000), some (vR 0), some (vR 54), some (vI ((5 * j : Nat) : Int))] [] w' := by
      intro w' hw
      obtain ⟨n2, h2⟩ := hw
      refine j_iincg (i := 3) (ls' := [some (vR 1000), some (vR 0), some (vR 54), some (vI (((5 * j : Nat) : Int) + 5))]) X dL_law_1190 rfl rfl rfl ?_
      refine j_goto (tgt := 18) X dL_law_1193 (by decide) ?_
      have e : ((5 * j : Nat) : Int) + 5 = ((5 * (j + 1) : Nat) : Int) := by omega
      rw [e]
      refine ih (j + 1) w' (by omega) (by omega) ⟨n2, ?_⟩
      have e2 : 3169056 * ((j + 1 : Nat) : Int) = 3169056 * (j : Int) + 3169056 := by omega
      rw [e2]
      exact h2
    rcases (by omega : r = 0 ∨ r = 1 ∨ r = 2 ∨ r = 3 ∨ r = 4 ∨ r = 5 ∨ r = 6 ∨ r = 7 ∨ r = 8 ∨ r = 9 ∨ r = 10 ∨ r = 11 ∨ r = 12 ∨ r = 13 ∨ r = 14 ∨ r = 15 ∨ r = 16 ∨ r = 17 ∨ r = 18 ∨ r = 19 ∨ r = 20 ∨ r = 21 ∨ r = 22 ∨ r = 23 ∨ r = 24 ∨ r = 25 ∨ r = 26 ∨ r = 27 ∨ r = 28 ∨ r = 29 ∨ r = 30 ∨ r = 31) with rfl | rfl | rfl | rfl | rfl | rfl | rfl | rfl | rfl | rfl | rfl | rfl | rfl | rfl | rfl | rfl | rfl | rfl | rfl | rfl | rfl | rfl | rfl | rfl | rfl | rfl | rfl | rfl | rfl | rfl | rfl | rfl
    · exact j_tabIn (off := 144) (tgt := 176) X dL_law_32 ⟨by decide, by decide⟩ (by decide) (by decide) rfl (by decide) (lc_0 X K S ha hL (by omega) h (by omega) kk)
    · exact j_tabIn (off := 167) (tgt := 199) X dL_law_32 ⟨by decide, by decide⟩ (by decide) (by decide) rfl (by decide) (lc_1 X K S ha hL (by omega) h (by omega) kk)
    · exact j_tabIn (off := 236) (tgt := 268) X dL_law_32 ⟨by decide, by decide⟩ (by decide) (by decide) rfl (by decide) (lc_2 X K S ha hL (by omega) h (by omega) kk)
    · exact j_tabIn (off := 249) (tgt := 281) X dL_law_32 ⟨by decide, by decide⟩ (by decide) (by decide) rfl (by decide) (lc_3 X K S ha hL (by omega) h (by omega) kk)
    · exact j_tabIn (off := 282) (tgt := 314) X dL_law_32 ⟨by decide, by decide⟩ (by decide) (by decide) rfl (by decide) (lc_4 X K S ha hL (by omega) h (by omega) kk)
    · exact j_tabIn (off := 335) (tgt := 367) X dL_law_32 ⟨by decide, by decide⟩ (by decide) (by decide) rfl (by decide) (lc_5 X K S ha hL (by omega) h (by omega) kk)
    · exact j_tabIn (off := 348) (tgt := 380) X dL_law_32 ⟨by decide, by decide⟩ (by decide) (by decide) rfl (by decide) (lc_6 X K S ha hL (by omega) h (by omega) kk)
    · exact j_tabIn (off := 361) (tgt := 393) X dL_law_32 ⟨by decide, by decide⟩ (by decide) (by decide) rfl (by decide) (lc_7 X K S ha hL (by omega) h (by omega) kk)
    · exact j_tabIn (off := 384) (tgt := 416) X dL_law_32 ⟨by decide, by decide⟩ (by decide) (by decide) rfl (by decide) (lc_8 X K S ha hL (by omega) h (by omega) kk)
    · exact j_tabIn (off := 397) (tgt := 429) X dL_law_32 ⟨by decide, by decide⟩ (by decide) (by decide) rfl (by decide) (lc_9 X K S ha hL (by omega) h (by omega) kk)
    · exact j_tabIn (off := 430) (tgt := 462) X dL_law_32 ⟨by decide, by decide⟩ (by decide) (by decide) rfl (by decide) (lc_10 X K S ha hL (by omega) h (by omega) kk)
    · exact j_tabIn (off := 463) (tgt := 495) X dL_law_32 ⟨by decide, by decide⟩ (by decide) (by decide) rfl (by decide) (lc_11 X K S ha hL (by omega) h (by omega) kk)
    · exact j_tabIn (off := 502) (tgt := 534) X dL_law_32 ⟨by decide, by decide⟩ (by decide) (by decide) rfl (by decide) (lc_12 X K S ha hL (by omega) h (by omega) kk)
    · exact j_tabIn (off := 561) (tgt := 593) X dL_law_32 ⟨by decide, by decide⟩ (by decide) (by decide) rfl (by decide) (lc_13 X K S ha hL (by omega) h (by omega) kk)
    · exact j_tabIn (off := 620) (tgt := 652) X dL_law_32 ⟨by decide, by decide⟩ (by decide) (by decide) rfl (by decide) (lc_14 X K S ha hL (by omega) h (by omega) kk)
    · exact j_tabIn (off := 643) (tgt := 675) X dL_law_32 ⟨by decide, by decide⟩ (by decide) (by decide) rfl (by decide) (lc_15 X K S ha hL (by omega) h (by omega) kk)
    · exact j_tabIn (off := 676) (tgt := 708) X dL_law_32 ⟨by decide, by decide⟩ (by decide) (by decide) rfl (by decide) (lc_16 X K S ha hL (by omega) h (by omega) kk)
    · exact j_tabIn (off := 719) (tgt := 751) X dL_law_32 ⟨by decide, by decide⟩ (by decide) (by decide) rfl (by decide) (lc_17 X K S ha hL (by omega) h (by omega) kk)
    · exact j_tabIn (off := 762) (tgt := 794) X dL_law_32 ⟨by decide, by decide⟩ (by decide) (by decide) rfl (by decide) (lc_18 X K S ha hL (by omega) h (by omega) kk)
    · exact j_tabIn (off := 801) (tgt := 833) X dL_law_32 ⟨by decide, by decide⟩ (by decide) (by decide) rfl (by decide) (lc_19 X K S ha hL (by omega) h (by omega) kk)
    · exact j_tabIn (off := 814) (tgt := 846) X dL_law_32 ⟨by decide, by decide⟩ (by decide) (by decide) rfl (by decide) (lc_20 X K S ha hL (by omega) h (by omega) kk)
    · exact j_tabIn (off := 853) (tgt := 885) X dL_law_32 ⟨by decide, by decide⟩ (by decide) (by decide) rfl (by decide) (lc_21 X K S ha hL (by omega) h (by omega) kk)
    · exact j_tabIn (off := 876) (tgt := 908) X dL_law_32 ⟨by decide, by decide⟩ (by decide) (by decide) rfl (by decide) (lc_22 X K S ha hL (by omega) h (by omega) kk)
    · exact j_tabIn (off := 925) (tgt := 957) X dL_law_32 ⟨by decide, by decide⟩ (by decide) (by decide) rfl (by decide) (lc_23 X K S ha hL (by omega) h (by omega) kk)
    · exact j_tabIn (off := 984) (tgt := 1016) X dL_law_32 ⟨by decide, by decide⟩ (by decide) (by decide) rfl (by decide) (lc_24 X K S ha hL (by omega) h (by omega) kk)
    · exact j_tabIn (off := 997) (tgt := 1029) X dL_law_32 ⟨by decide, by decide⟩ (by decide) (by decide) rfl (by decide) (lc_25 X K S ha hL (by omega) h (by omega) kk)
    · exact j_tabIn (off := 1010) (tgt := 1042) X dL_law_32 ⟨by decide, by decide⟩ (by decide) (by decide) rfl (by decide) (lc_26 X K S ha hL (by omega) h (by omega) kk)
    · exact j_tabIn (off := 1043) (tgt := 1075) X dL_law_32 ⟨by decide, by decide⟩ (by decide) (by decide) rfl (by decide) (lc_27 X K S ha hL (by omega) h (by omega) kk)
    · exact j_tabIn (off := 1056) (tgt := 1088) X dL_law_32 ⟨by decide, by decide⟩ (by decide) (by decide) rfl (by decide) (lc_28 X K S ha hL (by omega) h (by omega) kk)
    · exact j_tabIn (off := 1079) (tgt := 1111) X dL_law_32 ⟨by decide, by decide⟩ (by decide) (by decide) rfl (by decide) (lc_29 X K S ha hL (by omega) h (by omega) kk)
    · exact j_tabIn (off := 1112) (tgt := 1144) X dL_law_32 ⟨by decide, by decide⟩ (by decide) (by decide) rfl (by decide) (lc_30 X K S ha hL (by omega) h (by omega) kk)
    · exact j_tabIn (off := 1135) (tgt := 1167) X dL_law_32 ⟨by decide, by decide⟩ (by decide) (by decide) rfl (by decide) (lc_31 X K S ha hL (by omega) h (by omega) kk)
theorem w0_lqa : LQA (fun _ _ => (0 : Int)) := by
  have h : ∀ b a, LQ (fun _ _ => (0 : Int)) b a := fun b a => ⟨0, 0, rfl, by omega, ⟨fun s _ => ⟨by show (0 : Int) ≤ 0; omega, by show (0 : Int) ≤ 2; omega⟩, fun i hi => absurd hi (Nat.not_lt_zero _), fun s _ hz => absurd rfl hz, fun i j _ hj => absurd hj (Nat.not_lt_zero _)⟩⟩
  exact ⟨h 24 46, fun j _ _ => h _ _⟩
/-- the world behind both constructors -/
theorem law_begin {v1 : wd} {LL QQ : Nat → Int} (hw : v1 = forW (wst (wfl (wLQ (begW 4 (wst (fun _ _ => (0 : Int)) 0 6 144)) LL QQ) 22 144 0) 21 2 0)) (hLb : Lab 4 (fun k => ib (begW 4 (wst (fun _ _ => (0 : Int)) 0 6 144) 18 k = 1)) LL) (hr : ∀ a, a < 144 → -99999 ≤ LL a ∧ LL a ≤ 144) : JI 4 0 (begR 4 (wst (wst v1 54 1 4) 54 16 144)) := by
  have z : ∀ o, ((12 ≤ o ∧ o ≤ 16) ∨ 24 ≤ o) → v1 o = fun _ => 0 := fun o h => by
    rw [hw, beg_o (by omega), wst_ne (by omega)]
  have z0 : v1 0 6 = 144 := by
    rw [hw, beg_o (by omega)]
    simp [wst, w1]
  have v : ∀ o, o ≠ 54 → wst (wst v1 54 1 4) 54 16 144 o = v1 o := fun o h => (wst_ne h).trans (wst_ne h)
  have bg : BEG 4 (wst (wst v1 54 1 4) 54 16 144) := (beg_is (by decide) hw hLb hr).c (fun o ho => v o (by omega))
  have jb : JB (wst (wst v1 54 1 4) 54 16 144) := by
    unfold JB
    rw [v 68 (by decide), v 69 (by decide), v 60 (by decide), v 65 (by decide), v 66 (by decide), v 12 (by decide), v 13 (by decide), v 14 (by decide), v 15 (by decide), v 0 (by decide), z 68 (by omega), z 69 (by omega), z 60 (by omega), z 65 (by omega), z 66 (by omega), z 12 (by omega), z 13 (by omega), z 14 (by omega), z 15 (by omega)]
    have y2 : (0 : Int) ≤ 0 ∧ (0 : Int) ≤ 2 := by decide
    have yr : rg (0 : Int) := by decide
    refine ⟨fun _ _ => Or.inl rfl, fun _ _ => Or.inl rfl, fun _ _ => y2, fun _ _ => Or.inl rfl, fun _ _ => y2, fun _ _ => ⟨yr, yr, yr, Or.inl rfl⟩, by rw [z0]; decide, ?_, ?_, ?_⟩
    · rw [z0]; simp [wst, w1]
    · have := congrFun (z 54 (by omega)) 0
      simp [wst, w1, this]
    · exact w0_lqa.c (fun o ho => by rw [v o (by omega), z o (by omega)])
  obtain ⟨je, sr⟩ := begun bg jb rfl
  refine ⟨je, sr, ?_, ?_⟩
  · have e : begR 4 (wst (wst v1 54 1 4) 54 16 144) 54 25 = 0 := by
      unfold begR
      rw [wst_at (by decide), wst_at (by decide), begM_o (by decide), wst_at (by decide), wst_at (by decide), wst_at (by decide), z 54 (by omega)]
    rw [e]; exact ⟨by omega, by omega⟩
  · intro q hq
    have e : begR 4 (wst (wst v1 54 1 4) 54 16 144) 74 q = 0 := by
      unfold begR
      rw [wst_ne (by decide), wst_ne (by decide), begM_o (by decide), wst_ne (by decide), v 74 (by decide), z 74 (by omega)]
    have e2 : begR 4 (wst (wst v1 54 1 4) 54 16 144) 54 25 = 0 := by
      unfold begR
      rw [wst_at (by decide), wst_at (by decide), begM_o (by decide), wst_at (by decide), wst_at (by decide), wst_at (by decide), z 54 (by omega)]
    rw [e, e2]; exact ⟨by omega, by omega⟩
set_option maxHeartbeats 4000000 in
set_option maxRecDepth 20000 in
theorem law_main {κ : KT} {b L : Nat} {xs : Nat → Int32} (X : Okk κ cL_law RL 30) (K : LwK κ b) (S : ScrOk κ b L xs) (hL : L ≤ 2560) : J κ [] (fun _ => b) 0 0 0 [some (vR 1000), none, none, none] [] (fun _ _ => 0) := by
  refine j_newK (L := 0) (cn2 := 1) (sn2 := 7) (lay' := G_114) (ty := tyX9) (fs := [some none, some none, some none, some none, some none, some none, none]) X rfl (ci := 7) rfl uw_X9 tyX9_ok (tbt1 14 rfl rfl) (tbt1 15 rfl rfl) (tbt1 1 rfl rfl) (by intro j hj; rcases (by omega : j = 0 ∨ j = 1 ∨ j = 2 ∨ j = 3 ∨ j = 4 ∨ j = 5 ∨ j = 6) with rfl | rfl | rfl | rfl | rfl | rfl | rfl <;> rfl) rfl rfl (fun _ => rfl) (K.cs (by decide) (by decide)) rfl rfl dL_law_0 rfl (fun ad1 ha1 => ?_)
  refine j_dup X dL_law_3 (fun _ h => by cases h) ?_
  refine jc_NK (La := 1) (Lb := 54) (cn2 := 54) (sn2 := 9086) (lay' := LYA) (avs := []) X rfl rfl (K.cs (by decide) (by decide)) rfl rfl mf_X9_init rfl mi_X9_init ml_L_9 (by decide) rfl rfl (Nat.le_of_ble_eq_true rfl) dL_law_4 (sp_X9_init_0 (fun _ _ _ => rfl)) rfl (fun ad2 v1 hw ha2 => ?_)
  obtain ⟨LL, QQ, hw, hLb, hr⟩ := hw
  have z1 : ∀ k i, 54 ≤ k → v1 k i = 0 := fun k i hk => by rw [hw, beg_o (by omega), wst_ne (by omega)]
  refine j_astore_ng (i := 1) (ls' := [some (vR 1000), some (vR 0), none, none]) X dL_law_7 rfl (by decide) rfl ?_
  refine j_newK (L := 54) (cn2 := 55) (sn2 := 9121) (lay' := G_162) (ty := tyX10) (fs := [none, none, some none, some none, some none, some none, some none, some none, none, some none, some none, some none, some none, some none, some none, some none, none, none, some none, some none, some none, some none, some none, some none, some none, none, some none, some none, some none, some none, none, none, none, none, none]) X rfl (ci := 8) rfl uw_X10 tyX10_ok (tbt4 155 rfl rfl) (tbt4 156 rfl rfl) (tbt1 12 rfl rfl) (by intro j hj; rcases (by omega : j = 0 ∨ j = 1 ∨ j = 2 ∨ j = 3 ∨ j = 4 ∨ j = 5 ∨ j = 6 ∨ j = 7 ∨ j = 8 ∨ j = 9 ∨ j = 10 ∨ j = 11 ∨ j = 12 ∨ j = 13 ∨ j = 14 ∨ j = 15 ∨ j = 16 ∨ j = 17 ∨ j = 18 ∨ j = 19 ∨ j = 20 ∨ j = 21 ∨ j = 22 ∨ j = 23 ∨ j = 24 ∨ j = 25 ∨ j = 26 ∨ j = 27 ∨ j = 28 ∨ j = 29 ∨ j = 30 ∨ j = 31 ∨ j = 32 ∨ j = 33 ∨ j = 34) with rfl | rfl | rfl | rfl | rfl | rfl | rfl | rfl | rfl | rfl | rfl | rfl | rfl | rfl | rfl | rfl | rfl | rfl | rfl | rfl | rfl | rfl | rfl | rfl | rfl | rfl | rfl | rfl | rfl | rfl | rfl | rfl | rfl | rfl | rfl <;> rfl) rfl rfl (fun i => z1 54 i (by decide)) (K.cs (by decide) (by decide)) rfl rfl dL_law_8 rfl (fun ad3 ha3 => ?_)
  refine j_dup X dL_law_11 (fun _ h => by cases h) ?_
  refine jc_NK (La := 55) (Lb := 79) (cn2 := 79) (sn2 := 38217) (lay' := LAY) (avs := []) X rfl rfl (K.cs (by decide) (by decide)) rfl rfl mf_X10_init rfl mi_X10_init ml_L_12 (by decide) rfl rfl (Nat.le_of_ble_eq_true rfl) dL_law_12 (sp_X10_init_0 (fun k i hk => z1 k i (by omega))) rfl (fun ad4 v2 hw2 ha4 => ?_)
  change v2 = _ at hw2
  subst v2
  refine j_astore_ng (i := 2) (ls' := [some (vR 1000), some (vR 0), some (vR 54), none]) X dL_law_15 rfl (by decide) rfl ?_
  refine j_iconst X dL_law_16 ?_
  refine j_istore_ng (i := 3) (ls' := [some (vR 1000), some (vR 0), some (vR 54), some (vI 0)]) X dL_law_17 rfl (by decide) rfl ?_
  have ha : ad4 1000 = b := (ha4 1000 (by decide)).trans ((ha3 1000 (by decide)).trans ((ha2 1000 (by decide)).trans (ha1 1000 (by decide))))
  exact law_loop X K S ha hL (L + 11) 0 _ (by omega) (by omega) ⟨4, law_begin hw hLb hr⟩
set_option maxHeartbeats 4000000 in
set_option maxRecDepth 20000 in
/-- YOUR PART: from the entry, for every script of at most 2560 ints, the law comes to its end with true -/
theorem whole_start {p : Program} {e : Env} {s : State} {m : MethodId} {below : List Frame} {meth : Method} {c : Code} (l : Launch) (hflags : l.flags = flags0) {b L : Nat} {xs : Nat → Int32} (hL : L ≤ 2560) (C0 : lw_At p s m meth c b L xs) : W p l e room_1 s m #[Value.ref b] below meth c s.heap [] 0 0 (lw_Z below #[Value.ref b] s) (entryFrame m ([Value.ref b] : List Value).toArray 4) := by
  obtain ⟨hx, hb, hr, hml, hown, hts, hX, hbl, hlocks, hgv⟩ := id C0
  obtain ⟨c0, i0, k0⟩ := u_known (C := RX0) (T := TX0) (N := 2) (n := 2) hts (fun w hw => (List.mem_filter.mp (uw_X0 w hw)).1) (hts (.instantiable RX0 2) (List.mem_filter.mp (show Cond.instantiable RX0 2 ∈ TB from (tbt1 98 rfl rfl))).1)
  obtain ⟨c1, i1, k1⟩ := u_known (C := RX1) (T := TX1) (N := 3) (n := 3) hts (fun w hw => (List.mem_filter.mp (uw_X1 w hw)).1) (hts (.instantiable RX1 3) (List.mem_filter.mp (show Cond.instantiable RX1 3 ∈ TB from (tbt1 138 rfl rfl))).1)
  obtain ⟨c2, i2, k2⟩ := u_known (C := RX2) (T := TX2) (N := 10) (n := 10) hts (fun w hw => (List.mem_filter.mp (uw_X2 w hw)).1) (hts (.instantiable RX2 10) (List.mem_filter.mp (show Cond.instantiable RX2 10 ∈ TB from (tbt1 162 rfl rfl))).1)
  obtain ⟨c3, i3, k3⟩ := u_known (C := RX4) (T := TX4) (N := 12) (n := 12) hts (fun w hw => (List.mem_filter.mp (uw_X4 w hw)).1) (hts (.instantiable RX4 12) (List.mem_filter.mp (show Cond.instantiable RX4 12 ∈ TB from (tbt1 54 rfl rfl))).1)
  obtain ⟨c4, i4, k4⟩ := u_known (C := RX6) (T := TX6) (N := 12) (n := 12) hts (fun w hw => (List.mem_filter.mp (uw_X6 w hw)).1) (hts (.instantiable RX6 12) (List.mem_filter.mp (show Cond.instantiable RX6 12 ∈ TB from (tbt1 156 rfl rfl))).1)
  obtain ⟨c5, i5, k5⟩ := u_known (C := RX7) (T := TX7) (N := 5) (n := 5) hts (fun w hw => (List.mem_filter.mp (uw_X7 w hw)).1) (hts (.instantiable RX7 5) (List.mem_filter.mp (show Cond.instantiable RX7 5 ∈ TB from (tbt1 23 rfl rfl))).1)
  obtain ⟨c6, i6, k6⟩ := u_known (C := RX8) (T := TX8) (N := 6) (n := 6) hts (fun w hw => (List.mem_filter.mp (uw_X8 w hw)).1) (hts (.instantiable RX8 6) (List.mem_filter.mp (show Cond.instantiable RX8 6 ∈ TB from (tbt1 111 rfl rfl))).1)
  obtain ⟨c7, i7, k7⟩ := u_known (C := RX9) (T := TX9) (N := 7) (n := 7) hts (fun w hw => (List.mem_filter.mp (uw_X9 w hw)).1) (hts (.instantiable RX9 7) (List.mem_filter.mp (show Cond.instantiable RX9 7 ∈ TB from (tbt1 15 rfl rfl))).1)
  obtain ⟨c8, i8, k8⟩ := u_known (C := RX10) (T := TX10) (N := 35) (n := 35) hts (fun w hw => (List.mem_filter.mp (uw_X10 w hw)).1) (hts (.instantiable RX10 35) (List.mem_filter.mp (show Cond.instantiable RX10 35 ∈ TB from (tbt4 156 rfl rfl))).1)
  obtain ⟨dC, dI, hKc⟩ : ∃ (dC : Nat → ClassId) (dI : Nat → Nat → Nat), ∀ (k : Nat) (q : vw_C), vwCl[k]? = some q → u_Kn s q.1 q.2.1 q.2.2 (dC k) (dI k) := by
    refine ⟨fun k => if k = 0 then c0 else if k = 1 then c1 else if k = 2 then c2 else if k = 3 then c3 else if k = 4 then c4 else if k = 5 then c5 else if k = 6 then c6 else if k = 7 then c7 else c8, fun k => if k = 0 then i0 else if k = 1 then i1 else if k = 2 then i2 else if k = 3 then i3 else if k = 4 then i4 else if k = 5 then i5 else if k = 6 then i6 else if k = 7 then i7 else i8, ?_⟩
    intro k q hq
    match k, hq with
    | 0, hq => cases hq; exact k0
    | 1, hq => cases hq; exact k1
    | 2, hq => cases hq; exact k2
    | 3, hq => cases hq; exact k3
    | 4, hq => cases hq; exact k4
    | 5, hq => cases hq; exact k5
    | 6, hq => cases hq; exact k6
    | 7, hq => cases hq; exact k7
    | 8, hq => cases hq; exact k8
    | k + 9, hq => simp [vwCl] at hq
  obtain ⟨cI, kI, mI, f1, f2, f3⟩ := Cond.arrayClass_spec (hts (.arrayClass .int) (List.mem_filter.mp (show Cond.arrayClass .int ∈ TB from (tbt1 52 rfl rfl))).1)
  obtain ⟨cZ, kZ, mZ, g1, g2, g3⟩ := Cond.arrayClass_spec (hts (.arrayClass .boolean) (List.mem_filter.mp (show Cond.arrayClass .boolean ∈ TB from (tbt5 35 rfl rfl))).1)
  have hK : va_K (dC, dI) vwCl [(cI, .int), (cZ, .boolean)] s := by
    refine ⟨hKc, fun k q h => ?_⟩
    match k, h with
    | 0, h => cases h; exact ⟨fun n z => ⟨fun k h => (by cases h), kI, f2, mI, f3⟩, f1⟩
    | 1, h => cases h; exact ⟨fun n z => ⟨fun k h => (by cases h), kZ, g2, mZ, g3⟩, g1⟩
    | k + 2, h => simp at h
  have hN : Nst s := fun w hw => va_Nw.of (nest_tab (nestW_is w hw)) (hts w (nest_in w hw))
  have hP : va_P (dC, dI) vwCl (cells [] (fun _ => b) cI cZ (fun _ _ => 0)) s.heap := fun k q h => by simp [cells] at h
  have hD : va_D (fun q : Nat => s.heap.size ≤ q) (cells [] (fun _ => b) cI cZ (fun _ _ => 0)) := ⟨fun i j p q h => by simp [cells] at h, fun k q h => by simp [cells] at h⟩
  have hl := entL_has (ad := fun _ => b) (n := 4) (vs := [vR 1000]) (by decide)
  rw [lg_entry_eq]
  exact law_main (κ := (p, l, e, room_1, s, m, #[Value.ref b], below, meth, c, (dC, dI), cI, cZ, fun q => s.heap.size ≤ q, lw_Z below #[Value.ref b] s)) ⟨hx, hb, hown, fun w hw => hts w (List.mem_filter.mp hw).1, hK, hN, fun _ h => h, hlocks, by decide, by decide⟩ ⟨rfl, rfl, hr, rfl, fun _ h => h⟩ ⟨hX, hbl, Nat.not_le.mpr hbl⟩ hL s.heap [] _ hP hD va_S.rf (by rw [hml]; exact hl)
