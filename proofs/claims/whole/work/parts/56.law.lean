set_option maxRecDepth 10000 in
theorem nq1 {w : Cond} (i : Nat) (e : tables_1_1[i]? = some w) : w ∈ lw_tbl := by
  have h := List.mem_of_getElem? e
  exact List.mem_append_right _ (show w ∈ tables_1_1 ++ (tables_1_2 ++ (tables_1_3 ++ (tables_1_4 ++ (tables_1_5 ++ tables_1_6)))) from List.mem_append_left _ h)
set_option maxRecDepth 10000 in
theorem nq2 {w : Cond} (i : Nat) (e : tables_1_2[i]? = some w) : w ∈ lw_tbl := by
  have h := List.mem_of_getElem? e
  exact List.mem_append_right _ (show w ∈ tables_1_1 ++ (tables_1_2 ++ (tables_1_3 ++ (tables_1_4 ++ (tables_1_5 ++ tables_1_6)))) from List.mem_append_right _ (List.mem_append_left _ h))
set_option maxRecDepth 10000 in
theorem nq3 {w : Cond} (i : Nat) (e : tables_1_3[i]? = some w) : w ∈ lw_tbl := by
  have h := List.mem_of_getElem? e
  exact List.mem_append_right _ (show w ∈ tables_1_1 ++ (tables_1_2 ++ (tables_1_3 ++ (tables_1_4 ++ (tables_1_5 ++ tables_1_6)))) from List.mem_append_right _ (List.mem_append_right _ (List.mem_append_left _ h)))
set_option maxRecDepth 10000 in
theorem nq4 {w : Cond} (i : Nat) (e : tables_1_4[i]? = some w) : w ∈ lw_tbl := by
  have h := List.mem_of_getElem? e
  exact List.mem_append_right _ (show w ∈ tables_1_1 ++ (tables_1_2 ++ (tables_1_3 ++ (tables_1_4 ++ (tables_1_5 ++ tables_1_6)))) from List.mem_append_right _ (List.mem_append_right _ (List.mem_append_right _ (List.mem_append_left _ h))))
set_option maxRecDepth 10000 in
theorem nq5 {w : Cond} (i : Nat) (e : tables_1_5[i]? = some w) : w ∈ lw_tbl := by
  have h := List.mem_of_getElem? e
  exact List.mem_append_right _ (show w ∈ tables_1_1 ++ (tables_1_2 ++ (tables_1_3 ++ (tables_1_4 ++ (tables_1_5 ++ tables_1_6)))) from List.mem_append_right _ (List.mem_append_right _ (List.mem_append_right _ (List.mem_append_right _ (List.mem_append_left _ h)))))
set_option maxRecDepth 10000 in
theorem nq6 {w : Cond} (i : Nat) (e : tables_1_6[i]? = some w) : w ∈ lw_tbl := by
  have h := List.mem_of_getElem? e
  exact List.mem_append_right _ (show w ∈ tables_1_1 ++ (tables_1_2 ++ (tables_1_3 ++ (tables_1_4 ++ (tables_1_5 ++ tables_1_6)))) from List.mem_append_right _ (List.mem_append_right _ (List.mem_append_right _ (List.mem_append_right _ (List.mem_append_right _ (h))))))
set_option maxRecDepth 10000 in
theorem nest_in : ∀ w ∈ nestW, w ∈ lw_tbl := List.forall_mem_cons.mpr ⟨nq1 24 rfl, List.forall_mem_cons.mpr ⟨nq1 32 rfl, List.forall_mem_cons.mpr ⟨nq1 33 rfl, List.forall_mem_cons.mpr ⟨nq1 34 rfl, List.forall_mem_cons.mpr ⟨nq1 36 rfl, List.forall_mem_cons.mpr ⟨nq1 37 rfl, List.forall_mem_cons.mpr ⟨nq1 38 rfl, List.forall_mem_cons.mpr ⟨nq1 39 rfl, List.forall_mem_cons.mpr ⟨nq1 40 rfl, List.forall_mem_cons.mpr ⟨nq1 71 rfl, List.forall_mem_cons.mpr ⟨nq1 121 rfl, List.forall_mem_cons.mpr ⟨nq1 123 rfl, List.forall_mem_cons.mpr ⟨nq1 145 rfl, List.forall_mem_cons.mpr ⟨nq1 147 rfl, List.forall_mem_cons.mpr ⟨nq1 168 rfl, List.forall_mem_cons.mpr ⟨nq1 208 rfl, List.forall_mem_cons.mpr ⟨nq2 171 rfl, List.forall_mem_cons.mpr ⟨nq3 100 rfl, List.forall_mem_cons.mpr ⟨nq3 156 rfl, List.forall_mem_cons.mpr ⟨nq3 202 rfl, List.forall_mem_cons.mpr ⟨nq4 48 rfl, fun _ h => absurd h List.not_mem_nil⟩⟩⟩⟩⟩⟩⟩⟩⟩⟩⟩⟩⟩⟩⟩⟩⟩⟩⟩⟩⟩
/-! ===== the law: its script, its ends ===== -/
def ScrOk (κ : KT) (b L : Nat) (xs : Nat → Int32) : Prop := match κ with
  | (p, l, e, R, s, m, args, below, meth, c, D, cI, cZ, A, Q) => va_X b L xs s s.heap ∧ b < s.heap.size ∧ ¬ A b
def LwK (κ : KT) (b : Nat) : Prop := match κ with
  | (p, l, e, R, s, m, args, below, meth, c, D, cI, cZ, A, Q) => R = room_1 ∧ args = #[Value.ref b] ∧ meth.sig.returnType = ret ∧ Q = lw_Z below #[Value.ref b] s ∧ ∀ q, A q → s.heap.size ≤ q
def sxv (xs : Nat → Int32) (i : Int) : Int := (xs i.toNat).toInt
theorem sx_rg {xs : Nat → Int32} {i : Int} : rg (sxv xs i) := zI_rg _
section JLAW
variable {κ : KT} {cc : ByteArray} {own : String} {fr : Nat} {lay : lyT} {ad : Nat → Nat} {cn sn pc b L : Nat} {xs : Nat → Int32} {ls : List (Option av)} {st : List av} {w : wd}
theorem j_slen (X : Okk κ cc own fr) (S : ScrOk κ b L xs) (ha : ad 1000 = b) (hd : decode cc pc = .ok (.arraylength, 1)) (k : J κ lay ad cn sn (pc + 1) ls (vI (L : Int) :: st) w) : J κ lay ad cn sn pc ls (vR 1000 :: st) w := by
  obtain ⟨p, l, e, R, s, m, args, below, meth, c, D, cI, cZ, A, Q⟩ := κ
  obtain ⟨hx, hb, hown, hts, hK, hN, hA, hlk, hfr, hlo⟩ := X
  obtain ⟨s1, s2, s3⟩ := S
  intro H locs arr hP hD hS hL
  have h9 := k H locs arr hP hD hS hL
  have e1 : cv ad (vI (L : Int)) = .int (Int32.ofNat L) := congrArg Value.int Int32.ofInt_eq_ofNat
  have e2 : cv ad (vR 1000) = .ref b := by show Value.ref (ad 1000) = _; rw [ha]
  rw [List.map_cons, e1] at h9
  rw [List.map_cons, e2]
  exact va_slen hx hb s1 s2 s3 hS hd h9
theorem j_sld (X : Okk κ cc own fr) (S : ScrOk κ b L xs) (ha : ad 1000 = b) {i : Int} (h0 : 0 ≤ i) (h1 : i < L) (hLn : L < 2147483648) (hd : decode cc pc = .ok (.iaload, 1)) (k : J κ lay ad cn sn (pc + 1) ls (vI (sxv xs i) :: st) w) : J κ lay ad cn sn pc ls (vI i :: vR 1000 :: st) w := by
  obtain ⟨p, l, e, R, s, m, args, below, meth, c, D, cI, cZ, A, Q⟩ := κ
  obtain ⟨hx, hb, hown, hts, hK, hN, hA, hlk, hfr, hlo⟩ := X
  obtain ⟨s1, s2, s3⟩ := S
  intro H locs arr hP hD hS hL
  have h9 := k H locs arr hP hD hS hL
  have e1 : cv ad (vI (sxv xs i)) = .int (xs i.toNat) := by show Value.int (zI (sxv xs i)) = _; unfold sxv; rw [zI_of]
  have e2 : cv ad (vR 1000) = .ref b := by show Value.ref (ad 1000) = _; rw [ha]
  rw [List.map_cons, e1] at h9
  rw [List.map_cons, List.map_cons, e2]
  refine va_sld (i := zI i) hx hb s1 s2 s3 hS (zI_in h0 h1 hLn) hd ?_
  rw [zI_cl h0 (by omega)]
  exact h9
theorem j_eqS (X : Okk κ cc own fr) {a : Int} {off : Int} {tgt : Nat} (hd : decode cc pc = .ok (.if_icmp .eq off, 3)) (ht : (pc : Int) + off = (tgt : Int)) (k : J κ lay ad cn sn tgt ls st w) : J κ lay ad cn sn pc ls (vI a :: vI a :: st) w := by
  obtain ⟨p, l, e, R, s, m, args, below, meth, c, D, cI, cZ, A, Q⟩ := κ
  obtain ⟨hx, hb, hown, hts, hK, hN, hA, hlk, hfr, hlo⟩ := X
  intro H locs arr hP hD hS hL
  exact lv_icmp_eq hx hb hd ht (fun _ => k H locs arr hP hD hS hL) (fun q => absurd rfl q)
theorem j_lret (X : Okk κ cL_law own fr) (K : LwK κ b) (hc : cn ≤ 600000) (hs : sn ≤ 7302250) (hd : decode cL_law pc = .ok (.ireturn, 1)) : J κ lay ad cn sn pc ls [vI 1] w := by
  obtain ⟨p, l, e, R, s, m, args, below, meth, c, D, cI, cZ, A, Q⟩ := κ
  obtain ⟨hx, hb, hown, hts, hK, hN, hA, hlk, hfr, hlo⟩ := X
  obtain ⟨rfl, rfl, hr, rfl, hAq⟩ := K
  intro H locs arr hP hD hS hL
  refine va_forget (fun q hq => hAq _ (hS.2.2 q hq)) ?_
  exact W.widen hc hs (lw_ret hx hb hr hlk hd)
theorem LwK.cs (K : LwK κ b) (hc : cn ≤ 600000) (hs : sn ≤ 7302250) : csOk κ cn sn := by
  obtain ⟨p, l, e, R, s, m, args, below, meth, c, D, cI, cZ, A, Q⟩ := κ
  obtain ⟨rfl, -⟩ := K
  exact ⟨hc, hs⟩
end JLAW
set_option maxHeartbeats 1000000 in
set_option maxRecDepth 20000 in
theorem lc_0 {κ : KT} {ad : Nat → Nat} {b L : Nat} {xs : Nat → Int32} {n j : Nat} {B : Int} {w : wd} (X : Okk κ cL_law RL 30) (K : LwK κ b) (S : ScrOk κ b L xs) (ha : ad 1000 = b) (hL : L ≤ 2560) (hj : 5 * j + 5 ≤ L) (h : JI n B w) (hB : B + 3169056 ≤ 2000000000) (k : ∀ w', JN B w' → J κ LAY ad 79 38217 1190 [some (vR 1000), some (vR 0), some (vR 54), some (vI ((5 * j : Nat) : Int))] [] w') : J κ LAY ad 79 38217 176 [some (vR 1000), some (vR 0), some (vR 54), some (vI ((5 * j : Nat) : Int))] [] w := by
  refine j_aload_n X dL_law_176 rfl ?_
  refine j_aload_n X dL_law_177 rfl ?_
  refine j_iload_n X dL_law_178 rfl ?_
  refine j_iconst X dL_law_179 ?_
  refine j_iadd X dL_law_180 ?_
  refine j_sld X S ha (by omega) (by omega) (by omega) dL_law_181 ?_
  obtain ⟨P1, c1, n1⟩ := jx_sheet h (sx_rg (xs := xs) (i := ((5 * j : Nat) : Int) + 1))
  refine jc_Vi (avs := [vI (sxv xs (((5 * j : Nat) : Int) + 1))]) (st := []) X (K.cs (by decide) (by decide)) mf_X9_sheet mv_X9_sheet ml_L_13 (by decide) rfl rfl rfl rfl (Nat.le_of_ble_eq_true rfl) dL_law_182 c1 (fun a w1 hp1 => ?_)
  obtain ⟨P2, c2, n2⟩ := n1 a w1 hp1
  refine j_aload_n X dL_law_185 rfl ?_
  refine j_aload_n X dL_law_186 rfl ?_
  refine j_iload_n X dL_law_187 rfl ?_
  refine j_iconst X dL_law_188 ?_
  refine j_iadd X dL_law_189 ?_
  refine j_sld X S ha (by omega) (by omega) (by omega) dL_law_190 ?_
  refine jc_Vi (avs := [vI (sxv xs (((5 * j : Nat) : Int) + 1))]) (st := [vI a]) X (K.cs (by decide) (by decide)) mf_X10_sheet mv_X10_sheet ml_L_17 (by decide) rfl rfl rfl rfl (Nat.le_of_ble_eq_true rfl) dL_law_191 c2 (fun b2 w2 hp2 => ?_)
  obtain ⟨e9, hj⟩ := n2 b2 w2 hp2
  subst e9
  exact j_eqS (tgt := 1190) X dL_law_194 (by decide) (k w2 hj)
set_option maxHeartbeats 1000000 in
set_option maxRecDepth 20000 in
theorem lc_1 {κ : KT} {ad : Nat → Nat} {b L : Nat} {xs : Nat → Int32} {n j : Nat} {B : Int} {w : wd} (X : Okk κ cL_law RL 30) (K : LwK κ b) (S : ScrOk κ b L xs) (ha : ad 1000 = b) (hL : L ≤ 2560) (hj : 5 * j + 5 ≤ L) (h : JI n B w) (hB : B + 3169056 ≤ 2000000000) (k : ∀ w', JN B w' → J κ LAY ad 79 38217 1190 [some (vR 1000), some (vR 0), some (vR 54), some (vI ((5 * j : Nat) : Int))] [] w') : J κ LAY ad 79 38217 199 [some (vR 1000), some (vR 0), some (vR 54), some (vI ((5 * j : Nat) : Int))] [] w := by
  refine j_aload_n X dL_law_199 rfl ?_
  refine j_aload_n X dL_law_200 rfl ?_
  refine j_iload_n X dL_law_201 rfl ?_
  refine j_iconst X dL_law_202 ?_
  refine j_iadd X dL_law_203 ?_
  refine j_sld X S ha (by omega) (by omega) (by omega) dL_law_204 ?_
  refine j_aload_n X dL_law_205 rfl ?_
  refine j_iload_n X dL_law_206 rfl ?_
  refine j_iconst X dL_law_207 ?_
  refine j_iadd X dL_law_208 ?_
  refine j_sld X S ha (by omega) (by omega) (by omega) dL_law_209 ?_
  refine j_aload_n X dL_law_210 rfl ?_
  refine j_iload_n X dL_law_211 rfl ?_
  refine j_iconst X dL_law_212 ?_
  refine j_iadd X dL_law_213 ?_
  refine j_sld X S ha (by omega) (by omega) (by omega) dL_law_214 ?_
  refine j_aload_n X dL_law_215 rfl ?_
  refine j_iload_n X dL_law_216 rfl ?_
  refine j_iconst X dL_law_217 ?_
  refine j_iadd X dL_law_218 ?_
  refine j_sld X S ha (by omega) (by omega) (by omega) dL_law_219 ?_
  have C_220 : ∀ v : Int, v = ib (sxv xs (((5 * j : Nat) : Int) + 4) ≠ 0) → J κ LAY ad 79 38217 228 [some (vR 1000), some (vR 0), some (vR 54), some (vI ((5 * j : Nat) : Int))] ([vI v, vI (sxv xs (((5 * j : Nat) : Int) + 3)), vI (sxv xs (((5 * j : Nat) : Int) + 2)), vI (sxv xs (((5 * j : Nat) : Int) + 1)), vR 0]) w := by
    intro v hv
    subst hv
    obtain ⟨P1, c1, n1⟩ := jx_fold h (sx_rg (xs := xs) (i := ((5 * j : Nat) : Int) + 1)) (sx_rg (xs := xs) (i := ((5 * j : Nat) : Int) + 2)) (sx_rg (xs := xs) (i := ((5 * j : Nat) : Int) + 3)) (ib_01 (P := sxv xs (((5 * j : Nat) : Int) + 4) ≠ 0))
    refine jc_Vi (avs := [vI (sxv xs (((5 * j : Nat) : Int) + 1)), vI (sxv xs (((5 * j : Nat) : Int) + 2)), vI (sxv xs (((5 * j : Nat) : Int) + 3)), vI (ib (sxv xs (((5 * j : Nat) : Int) + 4) ≠ 0))]) (st := []) X (K.cs (by decide) (by decide)) mf_X9_fold mv_X9_fold ml_L_18 (by decide) rfl rfl rfl rfl (Nat.le_of_ble_eq_true rfl) dL_law_228 c1 (fun a w1 hp1 => ?_)
    obtain ⟨P2, c2, n2⟩ := n1 a w1 hp1
    refine j_aload_n X dL_law_231 rfl ?_
    refine j_aload_n X dL_law_232 rfl ?_
    refine j_iload_n X dL_law_233 rfl ?_
    refine j_iconst X dL_law_234 ?_
    refine j_iadd X dL_law_235 ?_
    refine j_sld X S ha (by omega) (by omega) (by omega) dL_law_236 ?_
    refine j_aload_n X dL_law_237 rfl ?_
    refine j_iload_n X dL_law_238 rfl ?_
    refine j_iconst X dL_law_239 ?_
    refine j_iadd X dL_law_240 ?_
    refine j_sld X S ha (by omega) (by omega) (by omega) dL_law_241 ?_
    refine j_aload_n X dL_law_242 rfl ?_
    refine j_iload_n X dL_law_243 rfl ?_
    refine j_iconst X dL_law_244 ?_
    refine j_iadd X dL_law_245 ?_
    refine j_sld X S ha (by omega) (by omega) (by omega) dL_law_246 ?_
    refine j_aload_n X dL_law_247 rfl ?_
    refine j_iload_n X dL_law_248 rfl ?_
    refine j_iconst X dL_law_249 ?_
    refine j_iadd X dL_law_250 ?_
    refine j_sld X S ha (by omega) (by omega) (by omega) dL_law_251 ?_
    have C_252 : ∀ v : Int, v = ib (sxv xs (((5 * j : Nat) : Int) + 4) ≠ 0) → J κ LAY ad 79 38217 260 [some (vR 1000), some (vR 0), some (vR 54), some (vI ((5 * j : Nat) : Int))] ([vI v, vI (sxv xs (((5 * j : Nat) : Int) + 3)), vI (sxv xs (((5 * j : Nat) : Int) + 2)), vI (sxv xs (((5 * j : Nat) : Int) + 1)), vR 54, vI a]) w1 := by
      intro v hv
      subst hv
      refine jc_Vi (avs := [vI (sxv xs (((5 * j : Nat) : Int) + 1)), vI (sxv xs (((5 * j : Nat) : Int) + 2)), vI (sxv xs (((5 * j : Nat) : Int) + 3)), vI (ib (sxv xs (((5 * j : Nat) : Int) + 4) ≠ 0))]) (st := [vI a]) X (K.cs (by decide) (by decide)) mf_X10_fold mv_X10_fold ml_L_22 (by decide) rfl rfl rfl rfl (Nat.le_of_ble_eq_true rfl) dL_law_260 c2 (fun b2 w2 hp2 => ?_)
      obtain ⟨e9, hj⟩ := n2 b2 w2 hp2
      subst e9
      exact j_eqS (tgt := 1190) X dL_law_263 (by decide) (k w2 hj)
    refine j_if_eq (tgt := 259) X dL_law_252 (by decide) sx_rg (fun h9 => ?_) (fun h9 => ?_)
    · refine j_iconst X dL_law_259 ?_
      exact C_252 _ (ib_f (fun q => q h9)).symm
    · refine j_iconst X dL_law_255 ?_
      refine j_goto (tgt := 260) X dL_law_256 (by decide) ?_
      exact C_252 _ (ib_t h9).symm
  refine j_if_eq (tgt := 227) X dL_law_220 (by decide) sx_rg (fun h9 => ?_) (fun h9 => ?_)
  · refine j_iconst X dL_law_227 ?_
    exact C_220 _ (ib_f (fun q => q h9)).symm
  · refine j_iconst X dL_law_223 ?_
    refine j_goto (tgt := 228) X dL_law_224 (by decide) ?_
    exact C_220 _ (ib_t h9).symm
set_option maxHeartbeats 1000000 in
set_option maxRecDepth 20000 in
theorem lc_2 {κ : KT} {ad : Nat → Nat} {b L : Nat} {xs : Nat → Int32} {n j : Nat} {B : Int} {w : wd} (X : Okk κ cL_law RL 30) (K : LwK κ b) (S : ScrOk κ b L xs) (ha : ad 1000 = b) (hL : L ≤ 2560) (hj : 5 * j + 5 ≤ L) (h : JI n B w) (hB : B + 3169056 ≤ 2000000000) (k : ∀ w', JN B w' → J κ LAY ad 79 38217 1190 [some (vR 1000), some (vR 0), some (vR 54), some (vI ((5 * j : Nat) : Int))] [] w') : J κ LAY ad 79 38217 268 [some (vR 1000), some (vR 0), some (vR 54), some (vI ((5 * j : Nat) : Int))] [] w := by
  refine j_aload_n X dL_law_268 rfl ?_
  obtain ⟨P1, c1, n1⟩ := jx_unfold h
  refine jc_Vi (avs := []) (st := []) X (K.cs (by decide) (by decide)) mf_X9_unfold mv_X9_unfold ml_L_23 (by decide) rfl rfl rfl rfl (Nat.le_of_ble_eq_true rfl) dL_law_269 c1 (fun a w1 hp1 => ?_)
  obtain ⟨P2, c2, n2⟩ := n1 a w1 hp1
  refine j_aload_n X dL_law_272 rfl ?_
  refine jc_Vi (avs := []) (st := [vI a]) X (K.cs (by decide) (by decide)) mf_X10_unfold mv_X10_unfold ml_L_27 (by decide) rfl rfl rfl rfl (Nat.le_of_ble_eq_true rfl) dL_law_273 c2 (fun b2 w2 hp2 => ?_)
  obtain ⟨e9, hj⟩ := n2 b2 w2 hp2
  subst e9
  exact j_eqS (tgt := 1190) X dL_law_276 (by decide) (k w2 hj)
set_option maxHeartbeats 1000000 in
set_option maxRecDepth 20000 in
theorem lc_3 {κ : KT} {ad : Nat → Nat} {b L : Nat} {xs : Nat → Int32} {n j : Nat} {B : Int} {w : wd} (X : Okk κ cL_law RL 30) (K : LwK κ b) (S : ScrOk κ b L xs) (ha : ad 1000 = b) (hL : L ≤ 2560) (hj : 5 * j + 5 ≤ L) (h : JI n B w) (hB : B + 3169056 ≤ 2000000000) (k : ∀ w', JN B w' → J κ LAY ad 79 38217 1190 [some (vR 1000), some (vR 0), some (vR 54), some (vI ((5 * j : Nat) : Int))] [] w') : J κ LAY ad 79 38217 281 [some (vR 1000), some (vR 0), some (vR 54), some (vI ((5 * j : Nat) : Int))] [] w := by
  refine j_aload_n X dL_law_281 rfl ?_
  refine j_aload_n X dL_law_282 rfl ?_
  refine j_iload_n X dL_law_283 rfl ?_
  refine j_iconst X dL_law_284 ?_
  refine j_iadd X dL_law_285 ?_
  refine j_sld X S ha (by omega) (by omega) (by omega) dL_law_286 ?_
  refine j_aload_n X dL_law_287 rfl ?_
  refine j_iload_n X dL_law_288 rfl ?_
  refine j_iconst X dL_law_289 ?_
  refine j_iadd X dL_law_290 ?_
  refine j_sld X S ha (by omega) (by omega) (by omega) dL_law_291 ?_
  obtain ⟨P1, c1, n1⟩ := jx_facet h (sx_rg (xs := xs) (i := ((5 * j : Nat) : Int) + 1)) (sx_rg (xs := xs) (i := ((5 * j : Nat) : Int) + 2))
  refine jc_Vi (avs := [vI (sxv xs (((5 * j : Nat) : Int) + 1)), vI (sxv xs (((5 * j : Nat) : Int) + 2))]) (st := []) X (K.cs (by decide) (by decide)) mf_X9_facet mv_X9_facet ml_L_28 (by decide) rfl rfl rfl rfl (Nat.le_of_ble_eq_true rfl) dL_law_292 c1 (fun a w1 hp1 => ?_)
  obtain ⟨P2, c2, n2⟩ := n1 a w1 hp1
  refine j_aload_n X dL_law_295 rfl ?_
  refine j_aload_n X dL_law_296 rfl ?_
  refine j_iload_n X dL_law_297 rfl ?_
  refine j_iconst X dL_law_298 ?_
  refine j_iadd X dL_law_299 ?_
  refine j_sld X S ha (by omega) (by omega) (by omega) dL_law_300 ?_
  refine j_aload_n X dL_law_301 rfl ?_
  refine j_iload_n X dL_law_302 rfl ?_
  refine j_iconst X dL_law_303 ?_
  refine j_iadd X dL_law_304 ?_
  refine j_sld X S ha (by omega) (by omega) (by omega) dL_law_305 ?_
  refine jc_Vi (avs := [vI (sxv xs (((5 * j : Nat) : Int) + 1)), vI (sxv xs (((5 * j : Nat) : Int) + 2))]) (st := [vI a]) X (K.cs (by decide) (by decide)) mf_X10_facet mv_X10_facet ml_L_32 (by decide) rfl rfl rfl rfl (Nat.le_of_ble_eq_true rfl) dL_law_306 c2 (fun b2 w2 hp2 => ?_)
  obtain ⟨e9, hj⟩ := n2 b2 w2 hp2
  subst e9
  exact j_eqS (tgt := 1190) X dL_law_309 (by decide) (k w2 hj)
set_option maxHeartbeats 1000000 in
set_option maxRecDepth 20000 in
theorem lc_4 {κ : KT} {ad : Nat → Nat} {b L : Nat} {xs : Nat → Int32} {n j : Nat} {B : Int} {w : wd} (X : Okk κ cL_law RL 30) (K : LwK κ b) (S : ScrOk κ b L xs) (ha : ad 1000 = b) (hL : L ≤ 2560) (hj : 5 * j + 5 ≤ L) (h : JI n B w) (hB : B + 3169056 ≤ 2000000000) (k : ∀ w', JN B w' → J κ LAY ad 79 38217 1190 [some (vR 1000), some (vR 0), some (vR 54), some (vI ((5 * j : Nat) : Int))] [] w') : J κ LAY ad 79 38217 314 [some (vR 1000), some (vR 0), some (vR 54), some (vI ((5 * j : Nat) : Int))] [] w := by
  refine j_aload_n X dL_law_314 rfl ?_
  refine j_aload_n X dL_law_315 rfl ?_
  refine j_iload_n X dL_law_316 rfl ?_
  refine j_iconst X dL_law_317 ?_
  refine j_iadd X dL_law_318 ?_
  refine j_sld X S ha (by omega) (by omega) (by omega) dL_law_319 ?_
  refine j_aload_n X dL_law_320 rfl ?_
  refine j_iload_n X dL_law_321 rfl ?_
  refine j_iconst X dL_law_322 ?_
  refine j_iadd X dL_law_323 ?_
  refine j_sld X S ha (by omega) (by omega) (by omega) dL_law_324 ?_
  refine j_aload_n X dL_law_325 rfl ?_
  refine j_iload_n X dL_law_326 rfl ?_
  refine j_iconst X dL_law_327 ?_
  refine j_iadd X dL_law_328 ?_
  refine j_sld X S ha (by omega) (by omega) (by omega) dL_law_329 ?_
  refine j_aload_n X dL_law_330 rfl ?_
  refine j_iload_n X dL_law_331 rfl ?_
  refine j_iconst X dL_law_332 ?_
  refine j_iadd X dL_law_333 ?_
  refine j_sld X S ha (by omega) (by omega) (by omega) dL_law_334 ?_
  obtain ⟨P1, c1, n1⟩ := jx_at h (sx_rg (xs := xs) (i := ((5 * j : Nat) : Int) + 1)) (sx_rg (xs := xs) (i := ((5 * j : Nat) : Int) + 2)) (sx_rg (xs := xs) (i := ((5 * j : Nat) : Int) + 3)) (sx_rg (xs := xs) (i := ((5 * j : Nat) : Int) + 4))
  refine jc_Vi (avs := [vI (sxv xs (((5 * j : Nat) : Int) + 1)), vI (sxv xs (((5 * j : Nat) : Int) + 2)), vI (sxv xs (((5 * j : Nat) : Int) + 3)), vI (sxv xs (((5 * j : Nat) : Int) + 4))]) (st := []) X (K.cs (by decide) (by decide)) mf_X9_at mv_X9_at ml_L_33 (by decide) rfl rfl rfl rfl (Nat.le_of_ble_eq_true rfl) dL_law_335 c1 (fun a w1 hp1 => ?_)
  obtain ⟨P2, c2, n2⟩ := n1 a w1 hp1
  refine j_aload_n X dL_law_338 rfl ?_
  refine j_aload_n X dL_law_339 rfl ?_
  refine j_iload_n X dL_law_340 rfl ?_
  refine j_iconst X dL_law_341 ?_
  refine j_iadd X dL_law_342 ?_
  refine j_sld X S ha (by omega) (by omega) (by omega) dL_law_343 ?_
  refine j_aload_n X dL_law_344 rfl ?_
  refine j_iload_n X dL_law_345 rfl ?_
  refine j_iconst X dL_law_346 ?_
  refine j_iadd X dL_law_347 ?_
  refine j_sld X S ha (by omega) (by omega) (by omega) dL_law_348 ?_
  refine j_aload_n X dL_law_349 rfl ?_
  refine j_iload_n X dL_law_350 rfl ?_
  refine j_iconst X dL_law_351 ?_
  refine j_iadd X dL_law_352 ?_
  refine j_sld X S ha (by omega) (by omega) (by omega) dL_law_353 ?_
  refine j_aload_n X dL_law_354 rfl ?_
  refine j_iload_n X dL_law_355 rfl ?_
  refine j_iconst X dL_law_356 ?_
  refine j_iadd X dL_law_357 ?_
  refine j_sld X S ha (by omega) (by omega) (by omega) dL_law_358 ?_
  refine jc_Vi (avs := [vI (sxv xs (((5 * j : Nat) : Int) + 1)), vI (sxv xs (((5 * j : Nat) : Int) + 2)), vI (sxv xs (((5 * j : Nat) : Int) + 3)), vI (sxv xs (((5 * j : Nat) : Int) + 4))]) (st := [vI a]) X (K.cs (by decide) (by decide)) mf_X10_at mv_X10_at ml_L_37 (by decide) rfl rfl rfl rfl (Nat.le_of_ble_eq_true rfl) dL_law_359 c2 (fun b2 w2 hp2 => ?_)
  obtain ⟨e9, hj⟩ := n2 b2 w2 hp2
  subst e9
  exact j_eqS (tgt := 1190) X dL_law_362 (by decide) (k w2 hj)
set_option maxHeartbeats 1000000 in
set_option maxRecDepth 20000 in
theorem lc_5 {κ : KT} {ad : Nat → Nat} {b L : Nat} {xs : Nat → Int32} {n j : Nat} {B : Int} {w : wd} (X : Okk κ cL_law RL 30) (K : LwK κ b) (S : ScrOk κ b L xs) (ha : ad 1000 = b) (hL : L ≤ 2560) (hj : 5 * j + 5 ≤ L) (h : JI n B w) (hB : B + 3169056 ≤ 2000000000) (k : ∀ w', JN B w' → J κ LAY ad 79 38217 1190 [some (vR 1000), some (vR 0), some (vR 54), some (vI ((5 * j : Nat) : Int))] [] w') : J κ LAY ad 79 38217 367 [some (vR 1000), some (vR 0), some (vR 54), some (vI ((5 * j : Nat) : Int))] [] w := by
  refine j_aload_n X dL_law_367 rfl ?_
  obtain ⟨P1, c1, n1⟩ := jx_places h
  refine jc_Vi (avs := []) (st := []) X (K.cs (by decide) (by decide)) mf_X9_places mv_X9_places ml_L_38 (by decide) rfl rfl rfl rfl (Nat.le_of_ble_eq_true rfl) dL_law_368 c1 (fun a w1 hp1 => ?_)
  obtain ⟨P2, c2, n2⟩ := n1 a w1 hp1
  refine j_aload_n X dL_law_371 rfl ?_
  refine jc_Vi (avs := []) (st := [vI a]) X (K.cs (by decide) (by decide)) mf_X10_places mv_X10_places ml_L_41 (by decide) rfl rfl rfl rfl (Nat.le_of_ble_eq_true rfl) dL_law_372 c2 (fun b2 w2 hp2 => ?_)
  obtain ⟨e9, hj⟩ := n2 b2 w2 hp2
  subst e9
  exact j_eqS (tgt := 1190) X dL_law_375 (by decide) (k w2 hj)
set_option maxHeartbeats 1000000 in
set_option maxRecDepth 20000 in
theorem lc_6 {κ : KT} {ad : Nat → Nat} {b L : Nat} {xs : Nat → Int32} {n j : Nat} {B : Int} {w : wd} (X : Okk κ cL_law RL 30) (K : LwK κ b) (S : ScrOk κ b L xs) (ha : ad 1000 = b) (hL : L ≤ 2560) (hj : 5 * j + 5 ≤ L) (h : JI n B w) (hB : B + 3169056 ≤ 2000000000) (k : ∀ w', JN B w' → J κ LAY ad 79 38217 1190 [some (vR 1000), some (vR 0), some (vR 54), some (vI ((5 * j : Nat) : Int))] [] w') : J κ LAY ad 79 38217 380 [some (vR 1000), some (vR 0), some (vR 54), some (vI ((5 * j : Nat) : Int))] [] w := by
  refine j_aload_n X dL_law_380 rfl ?_
  obtain ⟨P1, c1, n1⟩ := jx_deepest h
  refine jc_Vi (avs := []) (st := []) X (K.cs (by decide) (by decide)) mf_X9_deepest mv_X9_deepest ml_L_42 (by decide) rfl rfl rfl rfl (Nat.le_of_ble_eq_true rfl) dL_law_381 c1 (fun a w1 hp1 => ?_)
  obtain ⟨P2, c2, n2⟩ := n1 a w1 hp1
  refine j_aload_n X dL_law_384 rfl ?_
  refine jc_Vi (avs := []) (st := [vI a]) X (K.cs (by decide) (by decide)) mf_X10_deepest mv_X10_deepest ml_L_45 (by decide) rfl rfl rfl rfl (Nat.le_of_ble_eq_true rfl) dL_law_385 c2 (fun b2 w2 hp2 => ?_)
  obtain ⟨e9, hj⟩ := n2 b2 w2 hp2
  subst e9
  exact j_eqS (tgt := 1190) X dL_law_388 (by decide) (k w2 hj)
set_option maxHeartbeats 1000000 in
set_option maxRecDepth 20000 in
theorem lc_7 {κ : KT} {ad : Nat → Nat} {b L : Nat} {xs : Nat → Int32} {n j : Nat} {B : Int} {w : wd} (X : Okk κ cL_law RL 30) (K : LwK κ b) (S : ScrOk κ b L xs) (ha : ad 1000 = b) (hL : L ≤ 2560) (hj : 5 * j + 5 ≤ L) (h : JI n B w) (hB : B + 3169056 ≤ 2000000000) (k : ∀ w', JN B w' → J κ LAY ad 79 38217 1190 [some (vR 1000), some (vR 0), some (vR 54), some (vI ((5 * j : Nat) : Int))] [] w') : J κ LAY ad 79 38217 393 [some (vR 1000), some (vR 0), some (vR 54), some (vI ((5 * j : Nat) : Int))] [] w := by
  refine j_aload_n X dL_law_393 rfl ?_
  refine j_aload_n X dL_law_394 rfl ?_
  refine j_iload_n X dL_law_395 rfl ?_
  refine j_iconst X dL_law_396 ?_
  refine j_iadd X dL_law_397 ?_
  refine j_sld X S ha (by omega) (by omega) (by omega) dL_law_398 ?_
  obtain ⟨P1, c1, n1⟩ := jx_reach h (sx_rg (xs := xs) (i := ((5 * j : Nat) : Int) + 1))
  refine jc_Vi (avs := [vI (sxv xs (((5 * j : Nat) : Int) + 1))]) (st := []) X (K.cs (by decide) (by decide)) mf_X9_reach mv_X9_reach ml_L_46 (by decide) rfl rfl rfl rfl (Nat.le_of_ble_eq_true rfl) dL_law_399 c1 (fun a w1 hp1 => ?_)
  obtain ⟨P2, c2, n2⟩ := n1 a w1 hp1
  refine j_aload_n X dL_law_402 rfl ?_
  refine j_aload_n X dL_law_403 rfl ?_
  refine j_iload_n X dL_law_404 rfl ?_
  refine j_iconst X dL_law_405 ?_
  refine j_iadd X dL_law_406 ?_
  refine j_sld X S ha (by omega) (by omega) (by omega) dL_law_407 ?_
  refine jc_Vi (avs := [vI (sxv xs (((5 * j : Nat) : Int) + 1))]) (st := [vI a]) X (K.cs (by decide) (by decide)) mf_X10_reach mv_X10_reach ml_L_49 (by decide) rfl rfl rfl rfl (Nat.le_of_ble_eq_true rfl) dL_law_408 c2 (fun b2 w2 hp2 => ?_)
  obtain ⟨e9, hj⟩ := n2 b2 w2 hp2
  subst e9
  exact j_eqS (tgt := 1190) X dL_law_411 (by decide) (k w2 hj)
set_option maxHeartbeats 1000000 in
set_option maxRecDepth 20000 in
theorem lc_8 {κ : KT} {ad : Nat → Nat} {b L : Nat} {xs : Nat → Int32} {n j : Nat} {B : Int} {w : wd} (X : Okk κ cL_law RL 30) (K : LwK κ b) (S : ScrOk κ b L xs) (ha : ad 1000 = b) (hL : L ≤ 2560) (hj : 5 * j + 5 ≤ L) (h : JI n B w) (hB : B + 3169056 ≤ 2000000000) (k : ∀ w', JN B w' → J κ LAY ad 79 38217 1190 [some (vR 1000), some (vR 0), some (vR 54), some (vI ((5 * j : Nat) : Int))] [] w') : J κ LAY ad 79 38217 416 [some (vR 1000), some (vR 0), some (vR 54), some (vI ((5 * j : Nat) : Int))] [] w := by
  refine j_aload_n X dL_law_416 rfl ?_
  obtain ⟨P1, c1, n1⟩ := jx_folds h
  refine jc_Vi (avs := []) (st := []) X (K.cs (by decide) (by decide)) mf_X9_folds mv_X9_folds ml_L_50 (by decide) rfl rfl rfl rfl (Nat.le_of_ble_eq_true rfl) dL_law_417 c1 (fun a w1 hp1 => ?_)
  obtain ⟨P2, c2, n2⟩ := n1 a w1 hp1
  refine j_aload_n X dL_law_420 rfl ?_
  refine jc_Vi (avs := []) (st := [vI a]) X (K.cs (by decide) (by decide)) mf_X10_folds mv_X10_folds ml_L_53 (by decide) rfl rfl rfl rfl (Nat.le_of_ble_eq_true rfl) dL_law_421 c2 (fun b2 w2 hp2 => ?_)
  obtain ⟨e9, hj⟩ := n2 b2 w2 hp2
  subst e9
  exact j_eqS (tgt := 1190) X dL_law_424 (by decide) (k w2 hj)
set_option maxHeartbeats 1000000 in
set_option maxRecDepth 20000 in
theorem lc_9 {κ : KT} {ad : Nat → Nat} {b L : Nat} {xs : Nat → Int32} {n j : Nat} {B : Int} {w : wd} (X : Okk κ cL_law RL 30) (K : LwK κ b) (S : ScrOk κ b L xs) (ha : ad 1000 = b) (hL : L ≤ 2560) (hj : 5 * j + 5 ≤ L) (h : JI n B w) (hB : B + 3169056 ≤ 2000000000) (k : ∀ w', JN B w' → J κ LAY ad 79 38217 1190 [some (vR 1000), some (vR 0), some (vR 54), some (vI ((5 * j : Nat) : Int))] [] w') : J κ LAY ad 79 38217 429 [some (vR 1000), some (vR 0), some (vR 54), some (vI ((5 * j : Nat) : Int))] [] w := by
  refine j_aload_n X dL_law_429 rfl ?_
  refine j_aload_n X dL_law_430 rfl ?_
  refine j_iload_n X dL_law_431 rfl ?_
  refine j_iconst X dL_law_432 ?_
  refine j_iadd X dL_law_433 ?_
  refine j_sld X S ha (by omega) (by omega) (by omega) dL_law_434 ?_
  refine j_aload_n X dL_law_435 rfl ?_
  refine j_iload_n X dL_law_436 rfl ?_
  refine j_iconst X dL_law_437 ?_
  refine j_iadd X dL_law_438 ?_
  refine j_sld X S ha (by omega) (by omega) (by omega) dL_law_439 ?_
  obtain ⟨P1, c1, n1⟩ := jx_crease h (sx_rg (xs := xs) (i := ((5 * j : Nat) : Int) + 1)) (sx_rg (xs := xs) (i := ((5 * j : Nat) : Int) + 2))
  refine jc_Vi (avs := [vI (sxv xs (((5 * j : Nat) : Int) + 1)), vI (sxv xs (((5 * j : Nat) : Int) + 2))]) (st := []) X (K.cs (by decide) (by decide)) mf_X9_crease mv_X9_crease ml_L_54 (by decide) rfl rfl rfl rfl (Nat.le_of_ble_eq_true rfl) dL_law_440 c1 (fun a w1 hp1 => ?_)
  obtain ⟨P2, c2, n2⟩ := n1 a w1 hp1
  refine j_aload_n X dL_law_443 rfl ?_
  refine j_aload_n X dL_law_444 rfl ?_
  refine j_iload_n X dL_law_445 rfl ?_
  refine j_iconst X dL_law_446 ?_
  refine j_iadd X dL_law_447 ?_
  refine j_sld X S ha (by omega) (by omega) (by omega) dL_law_448 ?_
  refine j_aload_n X dL_law_449 rfl ?_
  refine j_iload_n X dL_law_450 rfl ?_
  refine j_iconst X dL_law_451 ?_
  refine j_iadd X dL_law_452 ?_
  refine j_sld X S ha (by omega) (by omega) (by omega) dL_law_453 ?_
  refine jc_Vi (avs := [vI (sxv xs (((5 * j : Nat) : Int) + 1)), vI (sxv xs (((5 * j : Nat) : Int) + 2))]) (st := [vI a]) X (K.cs (by decide) (by decide)) mf_X10_crease mv_X10_crease ml_L_57 (by decide) rfl rfl rfl rfl (Nat.le_of_ble_eq_true rfl) dL_law_454 c2 (fun b2 w2 hp2 => ?_)
  obtain ⟨e9, hj⟩ := n2 b2 w2 hp2
  subst e9
  exact j_eqS (tgt := 1190) X dL_law_457 (by decide) (k w2 hj)
set_option maxHeartbeats 1000000 in
set_option maxRecDepth 20000 in
theorem lc_10 {κ : KT} {ad : Nat → Nat} {b L : Nat} {xs : Nat → Int32} {n j : Nat} {B : Int} {w : wd} (X : Okk κ cL_law RL 30) (K : LwK κ b) (S : ScrOk κ b L xs) (ha : ad 1000 = b) (hL : L ≤ 2560) (hj : 5 * j + 5 ≤ L) (h : JI n B w) (hB : B + 3169056 ≤ 2000000000) (k : ∀ w', JN B w' → J κ LAY ad 79 38217 1190 [some (vR 1000), some (vR 0), some (vR 54), some (vI ((5 * j : Nat) : Int))] [] w') : J κ LAY ad 79 38217 462 [some (vR 1000), some (vR 0), some (vR 54), some (vI ((5 * j : Nat) : Int))] [] w := by
  refine j_aload_n X dL_law_462 rfl ?_
  refine j_aload_n X dL_law_463 rfl ?_
  refine j_iload_n X dL_law_464 rfl ?_
  refine j_iconst X dL_law_465 ?_
  refine j_iadd X dL_law_466 ?_
  refine j_sld X S ha (by omega) (by omega) (by omega) dL_law_467 ?_
  refine j_aload_n X dL_law_468 rfl ?_
  refine j_iload_n X dL_law_469 rfl ?_
  refine j_iconst X dL_law_470 ?_
  refine j_iadd X dL_law_471 ?_
  refine j_sld X S ha (by omega) (by omega) (by omega) dL_law_472 ?_
  obtain ⟨P1, c1, n1⟩ := jx_neighbour h (sx_rg (xs := xs) (i := ((5 * j : Nat) : Int) + 1)) (sx_rg (xs := xs) (i := ((5 * j : Nat) : Int) + 2))
  refine jc_Vi (avs := [vI (sxv xs (((5 * j : Nat) : Int) + 1)), vI (sxv xs (((5 * j : Nat) : Int) + 2))]) (st := []) X (K.cs (by decide) (by decide)) mf_X9_neighbour mv_X9_neighbour ml_L_58 (by decide) rfl rfl rfl rfl (Nat.le_of_ble_eq_true rfl) dL_law_473 c1 (fun a w1 hp1 => ?_)
  obtain ⟨P2, c2, n2⟩ := n1 a w1 hp1
  refine j_aload_n X dL_law_476 rfl ?_
  refine j_aload_n X dL_law_477 rfl ?_
  refine j_iload_n X dL_law_478 rfl ?_
  refine j_iconst X dL_law_479 ?_
  refine j_iadd X dL_law_480 ?_
  refine j_sld X S ha (by omega) (by omega) (by omega) dL_law_481 ?_
  refine j_aload_n X dL_law_482 rfl ?_
  refine j_iload_n X dL_law_483 rfl ?_
  refine j_iconst X dL_law_484 ?_
  refine j_iadd X dL_law_485 ?_
  refine j_sld X S ha (by omega) (by omega) (by omega) dL_law_486 ?_
  refine jc_Vi (avs := [vI (sxv xs (((5 * j : Nat) : Int) + 1)), vI (sxv xs (((5 * j : Nat) : Int) + 2))]) (st := [vI a]) X (K.cs (by decide) (by decide)) mf_X10_neighbour mv_X10_neighbour ml_L_61 (by decide) rfl rfl rfl rfl (Nat.le_of_ble_eq_true rfl) dL_law_487 c2 (fun b2 w2 hp2 => ?_)
  obtain ⟨e9, hj⟩ := n2 b2 w2 hp2
  subst e9
  exact j_eqS (tgt := 1190) X dL_law_490 (by decide) (k w2 hj)
set_option maxHeartbeats 1000000 in
set_option maxRecDepth 20000 in
theorem lc_11 {κ : KT} {ad : Nat → Nat} {b L : Nat} {xs : Nat → Int32} {n j : Nat} {B : Int} {w : wd} (X : Okk κ cL_law RL 30) (K : LwK κ b) (S : ScrOk κ b L xs) (ha : ad 1000 = b) (hL : L ≤ 2560) (hj : 5 * j + 5 ≤ L) (h : JI n B w) (hB : B + 3169056 ≤ 2000000000) (k : ∀ w', JN B w' → J κ LAY ad 79 38217 1190 [some (vR 1000), some (vR 0), some (vR 54), some (vI ((5 * j : Nat) : Int))] [] w') : J κ LAY ad 79 38217 495 [some (vR 1000), some (vR 0), some (vR 54), some (vI ((5 * j : Nat) : Int))] [] w := by
  refine j_aload_n X dL_law_495 rfl ?_
  refine j_aload_n X dL_law_496 rfl ?_
  refine j_iload_n X dL_law_497 rfl ?_
  refine j_iconst X dL_law_498 ?_
  refine j_iadd X dL_law_499 ?_
  refine j_sld X S ha (by omega) (by omega) (by omega) dL_law_500 ?_
  have C_501 : ∀ v : Int, v = ib (sxv xs (((5 * j : Nat) : Int) + 1) ≠ 0) → J κ LAY ad 79 38217 509 [some (vR 1000), some (vR 0), some (vR 54), some (vI ((5 * j : Nat) : Int))] ([vI v, vR 0]) w := by
    intro v hv
    subst hv
    obtain ⟨P1, c1, n1⟩ := jx_creases h (ib_01 (P := sxv xs (((5 * j : Nat) : Int) + 1) ≠ 0))
    refine jc_Vi (avs := [vI (ib (sxv xs (((5 * j : Nat) : Int) + 1) ≠ 0))]) (st := []) X (K.cs (by decide) (by decide)) mf_X9_creases mv_X9_creases ml_L_62 (by decide) rfl rfl rfl rfl (Nat.le_of_ble_eq_true rfl) dL_law_509 c1 (fun a w1 hp1 => ?_)
    obtain ⟨P2, c2, n2⟩ := n1 a w1 hp1
    refine j_aload_n X dL_law_512 rfl ?_
    refine j_aload_n X dL_law_513 rfl ?_
    refine j_iload_n X dL_law_514 rfl ?_
    refine j_iconst X dL_law_515 ?_
    refine j_iadd X dL_law_516 ?_
    refine j_sld X S ha (by omega) (by omega) (by omega) dL_law_517 ?_
    have C_518 : ∀ v : Int, v = ib (sxv xs (((5 * j : Nat) : Int) + 1) ≠ 0) → J κ LAY ad 79 38217 526 [some (vR 1000), some (vR 0), some (vR 54), some (vI ((5 * j : Nat) : Int))] ([vI v, vR 54, vI a]) w1 := by
      intro v hv
      subst hv
      refine jc_Vi (avs := [vI (ib (sxv xs (((5 * j : Nat) : Int) + 1) ≠ 0))]) (st := [vI a]) X (K.cs (by decide) (by decide)) mf_X10_creases mv_X10_creases ml_L_66 (by decide) rfl rfl rfl rfl (Nat.le_of_ble_eq_true rfl) dL_law_526 c2 (fun b2 w2 hp2 => ?_)
      obtain ⟨e9, hj⟩ := n2 b2 w2 hp2
      subst e9
      exact j_eqS (tgt := 1190) X dL_law_529 (by decide) (k w2 hj)
    refine j_if_eq (tgt := 525) X dL_law_518 (by decide) sx_rg (fun h9 => ?_) (fun h9 => ?_)
    · refine j_iconst X dL_law_525 ?_
      exact C_518 _ (ib_f (fun q => q h9)).symm
    · refine j_iconst X dL_law_521 ?_
      refine j_goto (tgt := 526) X dL_law_522 (by decide) ?_
      exact C_518 _ (ib_t h9).symm
  refine j_if_eq (tgt := 508) X dL_law_501 (by decide) sx_rg (fun h9 => ?_) (fun h9 => ?_)
  · refine j_iconst X dL_law_508 ?_
    exact C_501 _ (ib_f (fun q => q h9)).symm
  · refine j_iconst X dL_law_504 ?_
    refine j_goto (tgt := 509) X dL_law_505 (by decide) ?_
    exact C_501 _ (ib_t h9).symm
set_option maxHeartbeats 1000000 in
set_option maxRecDepth 20000 in
theorem lc_12 {κ : KT} {ad : Nat → Nat} {b L : Nat} {xs : Nat → Int32} {n j : Nat} {B : Int} {w : wd} (X : Okk κ cL_law RL 30) (K : LwK κ b) (S : ScrOk κ b L xs) (ha : ad 1000 = b) (hL : L ≤ 2560) (hj : 5 * j + 5 ≤ L) (h : JI n B w) (hB : B + 3169056 ≤ 2000000000) (k : ∀ w', JN B w' → J κ LAY ad 79 38217 1190 [some (vR 1000), some (vR 0), some (vR 54), some (vI ((5 * j : Nat) : Int))] [] w') : J κ LAY ad 79 38217 534 [some (vR 1000), some (vR 0), some (vR 54), some (vI ((5 * j : Nat) : Int))] [] w := by
  refine j_aload_n X dL_law_534 rfl ?_
  refine j_aload_n X dL_law_535 rfl ?_
  refine j_iload_n X dL_law_536 rfl ?_
  refine j_iconst X dL_law_537 ?_
  refine j_iadd X dL_law_538 ?_
  refine j_sld X S ha (by omega) (by omega) (by omega) dL_law_539 ?_
  refine j_aload_n X dL_law_540 rfl ?_
  refine j_iload_n X dL_law_541 rfl ?_
  refine j_iconst X dL_law_542 ?_
  refine j_iadd X dL_law_543 ?_
  refine j_sld X S ha (by omega) (by omega) (by omega) dL_law_544 ?_
  refine j_aload_n X dL_law_545 rfl ?_
  refine j_iload_n X dL_law_546 rfl ?_
  refine j_iconst X dL_law_547 ?_
  refine j_iadd X dL_law_548 ?_
  refine j_sld X S ha (by omega) (by omega) (by omega) dL_law_549 ?_
  have C_550 : ∀ v : Int, v = ib (sxv xs (((5 * j : Nat) : Int) + 3) ≠ 0) → J κ LAY ad 79 38217 558 [some (vR 1000), some (vR 0), some (vR 54), some (vI ((5 * j : Nat) : Int))] ([vI v, vI (sxv xs (((5 * j : Nat) : Int) + 2)), vI (sxv xs (((5 * j : Nat) : Int) + 1)), vR 0]) w := by
    intro v hv
    subst hv
    obtain ⟨P1, c1, n1⟩ := jx_balance h (sx_rg (xs := xs) (i := ((5 * j : Nat) : Int) + 1)) (sx_rg (xs := xs) (i := ((5 * j : Nat) : Int) + 2)) (ib_01 (P := sxv xs (((5 * j : Nat) : Int) + 3) ≠ 0))
    refine jc_Vi (avs := [vI (sxv xs (((5 * j : Nat) : Int) + 1)), vI (sxv xs (((5 * j : Nat) : Int) + 2)), vI (ib (sxv xs (((5 * j : Nat) : Int) + 3) ≠ 0))]) (st := []) X (K.cs (by decide) (by decide)) mf_X9_balance mv_X9_balance ml_L_67 (by decide) rfl rfl rfl rfl (Nat.le_of_ble_eq_true rfl) dL_law_558 c1 (fun a w1 hp1 => ?_)
    obtain ⟨P2, c2, n2⟩ := n1 a w1 hp1
    refine j_aload_n X dL_law_561 rfl ?_
    refine j_aload_n X dL_law_562 rfl ?_
    refine j_iload_n X dL_law_563 rfl ?_
    refine j_iconst X dL_law_564 ?_
    refine j_iadd X dL_law_565 ?_
    refine j_sld X S ha (by omega) (by omega) (by omega) dL_law_566 ?_
    refine j_aload_n X dL_law_567 rfl ?_
    refine j_iload_n X dL_law_568 rfl ?_
    refine j_iconst X dL_law_569 ?_
    refine j_iadd X dL_law_570 ?_
    refine j_sld X S ha (by omega) (by omega) (by omega) dL_law_571 ?_
    refine j_aload_n X dL_law_572 rfl ?_
    refine j_iload_n X dL_law_573 rfl ?_
    refine j_iconst X dL_law_574 ?_
    refine j_iadd X dL_law_575 ?_
    refine j_sld X S ha (by omega) (by omega) (by omega) dL_law_576 ?_
    have C_577 : ∀ v : Int, v = ib (sxv xs (((5 * j : Nat) : Int) + 3) ≠ 0) → J κ LAY ad 79 38217 585 [some (vR 1000), some (vR 0), some (vR 54), some (vI ((5 * j : Nat) : Int))] ([vI v, vI (sxv xs (((5 * j : Nat) : Int) + 2)), vI (sxv xs (((5 * j : Nat) : Int) + 1)), vR 54, vI a]) w1 := by
      intro v hv
      subst hv
      refine jc_Vi (avs := [vI (sxv xs (((5 * j : Nat) : Int) + 1)), vI (sxv xs (((5 * j : Nat) : Int) + 2)), vI (ib (sxv xs (((5 * j : Nat) : Int) + 3) ≠ 0))]) (st := [vI a]) X (K.cs (by decide) (by decide)) mf_X10_balance mv_X10_balance ml_L_71 (by decide) rfl rfl rfl rfl (Nat.le_of_ble_eq_true rfl) dL_law_585 c2 (fun b2 w2 hp2 => ?_)
      obtain ⟨e9, hj⟩ := n2 b2 w2 hp2
      subst e9
      exact j_eqS (tgt := 1190) X dL_law_588 (by decide) (k w2 hj)
    refine j_if_eq (tgt := 584) X dL_law_577 (by decide) sx_rg (fun h9 => ?_) (fun h9 => ?_)
    · refine j_iconst X dL_law_584 ?_
      exact C_577 _ (ib_f (fun q => q h9)).symm
    · refine j_iconst X dL_law_580 ?_
      refine j_goto (tgt := 585) X dL_law_581 (by decide) ?_
      exact C_577 _ (ib_t h9).symm
  refine j_if_eq (tgt := 557) X dL_law_550 (by decide) sx_rg (fun h9 => ?_) (fun h9 => ?_)
  · refine j_iconst X dL_law_557 ?_
    exact C_550 _ (ib_f (fun q => q h9)).symm
  · refine j_iconst X dL_law_553 ?_
    refine j_goto (tgt := 558) X dL_law_554 (by decide) ?_
    exact C_550 _ (ib_t h9).symm
set_option maxHeartbeats 1000000 in
set_option maxRecDepth 20000 in
theorem lc_13 {κ : KT} {ad : Nat → Nat} {b L : Nat} {xs : Nat → Int32} {n j : Nat} {B : Int} {w : wd} (X : Okk κ cL_law RL 30) (K : LwK κ b) (S : ScrOk κ b L xs) (ha : ad 1000 = b) (hL : L ≤ 2560) (hj : 5 * j + 5 ≤ L) (h : JI n B w) (hB : B + 3169056 ≤ 2000000000) (k : ∀ w', JN B w' → J κ LAY ad 79 38217 1190 [some (vR 1000), some (vR 0), some (vR 54), some (vI ((5 * j : Nat) : Int))] [] w') : J κ LAY ad 79 38217 593 [some (vR 1000), some (vR 0), some (vR 54), some (vI ((5 * j : Nat) : Int))] [] w := by
  refine j_aload_n X dL_law_593 rfl ?_
  refine j_aload_n X dL_law_594 rfl ?_
  refine j_iload_n X dL_law_595 rfl ?_
  refine j_iconst X dL_law_596 ?_
  refine j_iadd X dL_law_597 ?_
  refine j_sld X S ha (by omega) (by omega) (by omega) dL_law_598 ?_
  refine j_aload_n X dL_law_599 rfl ?_
  refine j_iload_n X dL_law_600 rfl ?_
  refine j_iconst X dL_law_601 ?_
  refine j_iadd X dL_law_602 ?_
  refine j_sld X S ha (by omega) (by omega) (by omega) dL_law_603 ?_
  refine j_aload_n X dL_law_604 rfl ?_
  refine j_iload_n X dL_law_605 rfl ?_
  refine j_iconst X dL_law_606 ?_
  refine j_iadd X dL_law_607 ?_
  refine j_sld X S ha (by omega) (by omega) (by omega) dL_law_608 ?_
  have C_609 : ∀ v : Int, v = ib (sxv xs (((5 * j : Nat) : Int) + 3) ≠ 0) → J κ LAY ad 79 38217 617 [some (vR 1000), some (vR 0), some (vR 54), some (vI ((5 * j : Nat) : Int))] ([vI v, vI (sxv xs (((5 * j : Nat) : Int) + 2)), vI (sxv xs (((5 * j : Nat) : Int) + 1)), vR 0]) w := by
    intro v hv
    subst hv
    obtain ⟨P1, c1, n1⟩ := jx_degree h (sx_rg (xs := xs) (i := ((5 * j : Nat) : Int) + 1)) (sx_rg (xs := xs) (i := ((5 * j : Nat) : Int) + 2)) (ib_01 (P := sxv xs (((5 * j : Nat) : Int) + 3) ≠ 0))
    refine jc_Vi (avs := [vI (sxv xs (((5 * j : Nat) : Int) + 1)), vI (sxv xs (((5 * j : Nat) : Int) + 2)), vI (ib (sxv xs (((5 * j : Nat) : Int) + 3) ≠ 0))]) (st := []) X (K.cs (by decide) (by decide)) mf_X9_degree mv_X9_degree ml_L_72 (by decide) rfl rfl rfl rfl (Nat.le_of_ble_eq_true rfl) dL_law_617 c1 (fun a w1 hp1 => ?_)
    obtain ⟨P2, c2, n2⟩ := n1 a w1 hp1
    refine j_aload_n X dL_law_620 rfl ?_
    refine j_aload_n X dL_law_621 rfl ?_
    refine j_iload_n X dL_law_622 rfl ?_
    refine j_iconst X dL_law_623 ?_
    refine j_iadd X dL_law_624 ?_
    refine j_sld X S ha (by omega) (by omega) (by omega) dL_law_625 ?_
    refine j_aload_n X dL_law_626 rfl ?_
    refine j_iload_n X dL_law_627 rfl ?_
    refine j_iconst X dL_law_628 ?_
    refine j_iadd X dL_law_629 ?_
    refine j_sld X S ha (by omega) (by omega) (by omega) dL_law_630 ?_
    refine j_aload_n X dL_law_631 rfl ?_
    refine j_iload_n X dL_law_632 rfl ?_
    refine j_iconst X dL_law_633 ?_
    refine j_iadd X dL_law_634 ?_
    refine j_sld X S ha (by omega) (by omega) (by omega) dL_law_635 ?_
    have C_636 : ∀ v : Int, v = ib (sxv xs (((5 * j : Nat) : Int) + 3) ≠ 0) → J κ LAY ad 79 38217 644 [some (vR 1000), some (vR 0), some (vR 54), some (vI ((5 * j : Nat) : Int))] ([vI v, vI (sxv xs (((5 * j : Nat) : Int) + 2)), vI (sxv xs (((5 * j : Nat) : Int) + 1)), vR 54, vI a]) w1 := by
      intro v hv
      subst hv
      refine jc_Vi (avs := [vI (sxv xs (((5 * j : Nat) : Int) + 1)), vI (sxv xs (((5 * j : Nat) : Int) + 2)), vI (ib (sxv xs (((5 * j : Nat) : Int) + 3) ≠ 0))]) (st := [vI a]) X (K.cs (by decide) (by decide)) mf_X10_degree mv_X10_degree ml_L_75 (by decide) rfl rfl rfl rfl (Nat.le_of_ble_eq_true rfl) dL_law_644 c2 (fun b2 w2 hp2 => ?_)
      obtain ⟨e9, hj⟩ := n2 b2 w2 hp2
      subst e9
      exact j_eqS (tgt := 1190) X dL_law_647 (by decide) (k w2 hj)
    refine j_if_eq (tgt := 643) X dL_law_636 (by decide) sx_rg (fun h9 => ?_) (fun h9 => ?_)
    · refine j_iconst X dL_law_643 ?_
      exact C_636 _ (ib_f (fun q => q h9)).symm
    · refine j_iconst X dL_law_639 ?_
      refine j_goto (tgt := 644) X dL_law_640 (by decide) ?_
      exact C_636 _ (ib_t h9).symm
  refine j_if_eq (tgt := 616) X dL_law_609 (by decide) sx_rg (fun h9 => ?_) (fun h9 => ?_)
  · refine j_iconst X dL_law_616 ?_
    exact C_609 _ (ib_f (fun q => q h9)).symm
  · refine j_iconst X dL_law_612 ?_
    refine j_goto (tgt := 617) X dL_law_613 (by decide) ?_
    exact C_609 _ (ib_t h9).symm
set_option maxHeartbeats 1000000 in
set_option maxRecDepth 20000 in
theorem lc_14 {κ : KT} {ad : Nat → Nat} {b L : Nat} {xs : Nat → Int32} {n j : Nat} {B : Int} {w : wd} (X : Okk κ cL_law RL 30) (K : LwK κ b) (S : ScrOk κ b L xs) (ha : ad 1000 = b) (hL : L ≤ 2560) (hj : 5 * j + 5 ≤ L) (h : JI n B w) (hB : B + 3169056 ≤ 2000000000) (k : ∀ w', JN B w' → J κ LAY ad 79 38217 1190 [some (vR 1000), some (vR 0), some (vR 54), some (vI ((5 * j : Nat) : Int))] [] w') : J κ LAY ad 79 38217 652 [some (vR 1000), some (vR 0), some (vR 54), some (vI ((5 * j : Nat) : Int))] [] w := by
  refine j_aload_n X dL_law_652 rfl ?_
  refine j_aload_n X dL_law_653 rfl ?_
  refine j_iload_n X dL_law_654 rfl ?_
  refine j_iconst X dL_law_655 ?_
  refine j_iadd X dL_law_656 ?_
  refine j_sld X S ha (by omega) (by omega) (by omega) dL_law_657 ?_
  obtain ⟨P1, c1, n1⟩ := jx_knife h (sx_rg (xs := xs) (i := ((5 * j : Nat) : Int) + 1))
  refine jc_Vi (avs := [vI (sxv xs (((5 * j : Nat) : Int) + 1))]) (st := []) X (K.cs (by decide) (by decide)) mf_X9_knife mv_X9_knife ml_L_76 (by decide) rfl rfl rfl rfl (Nat.le_of_ble_eq_true rfl) dL_law_658 c1 (fun a w1 hp1 => ?_)
  obtain ⟨P2, c2, n2⟩ := n1 a w1 hp1
  refine j_aload_n X dL_law_661 rfl ?_
  refine j_aload_n X dL_law_662 rfl ?_
  refine j_iload_n X dL_law_663 rfl ?_
  refine j_iconst X dL_law_664 ?_
  refine j_iadd X dL_law_665 ?_
  refine j_sld X S ha (by omega) (by omega) (by omega) dL_law_666 ?_
  refine jc_Vi (avs := [vI (sxv xs (((5 * j : Nat) : Int) + 1))]) (st := [vI a]) X (K.cs (by decide) (by decide)) mf_X10_knife mv_X10_knife ml_L_79 (by decide) rfl rfl rfl rfl (Nat.le_of_ble_eq_true rfl) dL_law_667 c2 (fun b2 w2 hp2 => ?_)
  obtain ⟨e9, hj⟩ := n2 b2 w2 hp2
  subst e9
  exact j_eqS (tgt := 1190) X dL_law_670 (by decide) (k w2 hj)
set_option maxHeartbeats 1000000 in
set_option maxRecDepth 20000 in
theorem lc_15 {κ : KT} {ad : Nat → Nat} {b L : Nat} {xs : Nat → Int32} {n j : Nat} {B : Int} {w : wd} (X : Okk κ cL_law RL 30) (K : LwK κ b) (S : ScrOk κ b L xs) (ha : ad 1000 = b) (hL : L ≤ 2560) (hj : 5 * j + 5 ≤ L) (h : JI n B w) (hB : B + 3169056 ≤ 2000000000) (k : ∀ w', JN B w' → J κ LAY ad 79 38217 1190 [some (vR 1000), some (vR 0), some (vR 54), some (vI ((5 * j : Nat) : Int))] [] w') : J κ LAY ad 79 38217 675 [some (vR 1000), some (vR 0), some (vR 54), some (vI ((5 * j : Nat) : Int))] [] w := by
  refine j_aload_n X dL_law_675 rfl ?_
  refine j_aload_n X dL_law_676 rfl ?_
  refine j_iload_n X dL_law_677 rfl ?_
  refine j_iconst X dL_law_678 ?_
  refine j_iadd X dL_law_679 ?_
  refine j_sld X S ha (by omega) (by omega) (by omega) dL_law_680 ?_
  refine j_aload_n X dL_law_681 rfl ?_
  refine j_iload_n X dL_law_682 rfl ?_
  refine j_iconst X dL_law_683 ?_
  refine j_iadd X dL_law_684 ?_
  refine j_sld X S ha (by omega) (by omega) (by omega) dL_law_685 ?_
  obtain ⟨P1, c1, n1⟩ := jx_thickness h (sx_rg (xs := xs) (i := ((5 * j : Nat) : Int) + 1)) (sx_rg (xs := xs) (i := ((5 * j : Nat) : Int) + 2))
  refine jc_Vi (avs := [vI (sxv xs (((5 * j : Nat) : Int) + 1)), vI (sxv xs (((5 * j : Nat) : Int) + 2))]) (st := []) X (K.cs (by decide) (by decide)) mf_X9_thickness mv_X9_thickness ml_L_80 (by decide) rfl rfl rfl rfl (Nat.le_of_ble_eq_true rfl) dL_law_686 c1 (fun a w1 hp1 => ?_)
  obtain ⟨P2, c2, n2⟩ := n1 a w1 hp1
  refine j_aload_n X dL_law_689 rfl ?_
  refine j_aload_n X dL_law_690 rfl ?_
  refine j_iload_n X dL_law_691 rfl ?_
  refine j_iconst X dL_law_692 ?_
  refine j_iadd X dL_law_693 ?_
  refine j_sld X S ha (by omega) (by omega) (by omega) dL_law_694 ?_
  refine j_aload_n X dL_law_695 rfl ?_
  refine j_iload_n X dL_law_696 rfl ?_
  refine j_iconst X dL_law_697 ?_
  refine j_iadd X dL_law_698 ?_
  refine j_sld X S ha (by omega) (by omega) (by omega) dL_law_699 ?_
  refine jc_Vi (avs := [vI (sxv xs (((5 * j : Nat) : Int) + 1)), vI (sxv xs (((5 * j : Nat) : Int) + 2))]) (st := [vI a]) X (K.cs (by decide) (by decide)) mf_X10_thickness mv_X10_thickness ml_L_83 (by decide) rfl rfl rfl rfl (Nat.le_of_ble_eq_true rfl) dL_law_700 c2 (fun b2 w2 hp2 => ?_)
  obtain ⟨e9, hj⟩ := n2 b2 w2 hp2
  subst e9
  exact j_eqS (tgt := 1190) X dL_law_703 (by decide) (k w2 hj)
set_option maxHeartbeats 1000000 in
set_option maxRecDepth 20000 in
theorem lc_16 {κ : KT} {ad : Nat → Nat} {b L : Nat} {xs : Nat → Int32} {n j : Nat} {B : Int} {w : wd} (X : Okk κ cL_law RL 30) (K : LwK κ b) (S : ScrOk κ b L xs) (ha : ad 1000 = b) (hL : L ≤ 2560) (hj : 5 * j + 5 ≤ L) (h : JI n B w) (hB : B + 3169056 ≤ 2000000000) (k : ∀ w', JN B w' → J κ LAY ad 79 38217 1190 [some (vR 1000), some (vR 0), some (vR 54), some (vI ((5 * j : Nat) : Int))] [] w') : J κ LAY ad 79 38217 708 [some (vR 1000), some (vR 0), some (vR 54), some (vI ((5 * j : Nat) : Int))] [] w := by
  refine j_aload_n X dL_law_708 rfl ?_
  refine j_aload_n X dL_law_709 rfl ?_
  refine j_iload_n X dL_law_710 rfl ?_
  refine j_iconst X dL_law_711 ?_
  refine j_iadd X dL_law_712 ?_
  refine j_sld X S ha (by omega) (by omega) (by omega) dL_law_713 ?_
  refine j_aload_n X dL_law_714 rfl ?_
  refine j_iload_n X dL_law_715 rfl ?_
  refine j_iconst X dL_law_716 ?_
  refine j_iadd X dL_law_717 ?_
  refine j_sld X S ha (by omega) (by omega) (by omega) dL_law_718 ?_
  refine j_aload_n X dL_law_719 rfl ?_
  refine j_iload_n X dL_law_720 rfl ?_
  refine j_iconst X dL_law_721 ?_
  refine j_iadd X dL_law_722 ?_
  refine j_sld X S ha (by omega) (by omega) (by omega) dL_law_723 ?_
  obtain ⟨P1, c1, n1⟩ := jx_would h (sx_rg (xs := xs) (i := ((5 * j : Nat) : Int) + 1)) (sx_rg (xs := xs) (i := ((5 * j : Nat) : Int) + 2)) (sx_rg (xs := xs) (i := ((5 * j : Nat) : Int) + 3))
  refine jc_Vi (avs := [vI (sxv xs (((5 * j : Nat) : Int) + 1)), vI (sxv xs (((5 * j : Nat) : Int) + 2)), vI (sxv xs (((5 * j : Nat) : Int) + 3))]) (st := []) X (K.cs (by decide) (by decide)) mf_X9_would mv_X9_would ml_L_84 (by decide) rfl rfl rfl rfl (Nat.le_of_ble_eq_true rfl) dL_law_724 c1 (fun a w1 hp1 => ?_)
  obtain ⟨P2, c2, n2⟩ := n1 a w1 hp1
  refine j_aload_n X dL_law_727 rfl ?_
  refine j_aload_n X dL_law_728 rfl ?_
  refine j_iload_n X dL_law_729 rfl ?_
  refine j_iconst X dL_law_730 ?_
  refine j_iadd X dL_law_731 ?_
  refine j_sld X S ha (by omega) (by omega) (by omega) dL_law_732 ?_
  refine j_aload_n X dL_law_733 rfl ?_
  refine j_iload_n X dL_law_734 rfl ?_
  refine j_iconst X dL_law_735 ?_
  refine j_iadd X dL_law_736 ?_
  refine j_sld X S ha (by omega) (by omega) (by omega) dL_law_737 ?_
  refine j_aload_n X dL_law_738 rfl ?_
  refine j_iload_n X dL_law_739 rfl ?_
  refine j_iconst X dL_law_740 ?_
  refine j_iadd X dL_law_741 ?_
  refine j_sld X S ha (by omega) (by omega) (by omega) dL_law_742 ?_
  refine jc_Vi (avs := [vI (sxv xs (((5 * j : Nat) : Int) + 1)), vI (sxv xs (((5 * j : Nat) : Int) + 2)), vI (sxv xs (((5 * j : Nat) : Int) + 3))]) (st := [vI a]) X (K.cs (by decide) (by decide)) mf_X10_would mv_X10_would ml_L_88 (by decide) rfl rfl rfl rfl (Nat.le_of_ble_eq_true rfl) dL_law_743 c2 (fun b2 w2 hp2 => ?_)
  obtain ⟨e9, hj⟩ := n2 b2 w2 hp2
  subst e9
  exact j_eqS (tgt := 1190) X dL_law_746 (by decide) (k w2 hj)
set_option maxHeartbeats 1000000 in
set_option maxRecDepth 20000 in
theorem lc_17 {κ : KT} {ad : Nat → Nat} {b L : Nat} {xs : Nat → Int32} {n j : Nat} {B : Int} {w : wd} (X : Okk κ cL_law RL 30) (K : LwK κ b) (S : ScrOk κ b L xs) (ha : ad 1000 = b) (hL : L ≤ 2560) (hj : 5 * j + 5 ≤ L) (h : JI n B w) (hB : B + 3169056 ≤ 2000000000) (k : ∀ w', JN B w' → J κ LAY ad 79 38217 1190 [some (vR 1000), some (vR 0), some (vR 54), some (vI ((5 * j : Nat) : Int))] [] w') : J κ LAY ad 79 38217 751 [some (vR 1000), some (vR 0), some (vR 54), some (vI ((5 * j : Nat) : Int))] [] w := by
  refine j_aload_n X dL_law_751 rfl ?_
  refine j_aload_n X dL_law_752 rfl ?_
  refine j_iload_n X dL_law_753 rfl ?_
  refine j_iconst X dL_law_754 ?_
  refine j_iadd X dL_law_755 ?_
  refine j_sld X S ha (by omega) (by omega) (by omega) dL_law_756 ?_
  refine j_aload_n X dL_law_757 rfl ?_
  refine j_iload_n X dL_law_758 rfl ?_
  refine j_iconst X dL_law_759 ?_
  refine j_iadd X dL_law_760 ?_
  refine j_sld X S ha (by omega) (by omega) (by omega) dL_law_761 ?_
  refine j_aload_n X dL_law_762 rfl ?_
  refine j_iload_n X dL_law_763 rfl ?_
  refine j_iconst X dL_law_764 ?_
  refine j_iadd X dL_law_765 ?_
  refine j_sld X S ha (by omega) (by omega) (by omega) dL_law_766 ?_
  obtain ⟨P1, c1, n1⟩ := jx_cut h (sx_rg (xs := xs) (i := ((5 * j : Nat) : Int) + 1)) (sx_rg (xs := xs) (i := ((5 * j : Nat) : Int) + 2)) (sx_rg (xs := xs) (i := ((5 * j : Nat) : Int) + 3))
  refine jc_Vi (avs := [vI (sxv xs (((5 * j : Nat) : Int) + 1)), vI (sxv xs (((5 * j : Nat) : Int) + 2)), vI (sxv xs (((5 * j : Nat) : Int) + 3))]) (st := []) X (K.cs (by decide) (by decide)) mf_X9_cut mv_X9_cut ml_L_89 (by decide) rfl rfl rfl rfl (Nat.le_of_ble_eq_true rfl) dL_law_767 c1 (fun a w1 hp1 => ?_)
  obtain ⟨P2, c2, n2⟩ := n1 a w1 hp1
  refine j_aload_n X dL_law_770 rfl ?_
  refine j_aload_n X dL_law_771 rfl ?_
  refine j_iload_n X dL_law_772 rfl ?_
  refine j_iconst X dL_law_773 ?_
  refine j_iadd X dL_law_774 ?_
  refine j_sld X S ha (by omega) (by omega) (by omega) dL_law_775 ?_
  refine j_aload_n X dL_law_776 rfl ?_
  refine j_iload_n X dL_law_777 rfl ?_
  refine j_iconst X dL_law_778 ?_
  refine j_iadd X dL_law_779 ?_
  refine j_sld X S ha (by omega) (by omega) (by omega) dL_law_780 ?_
  refine j_aload_n X dL_law_781 rfl ?_
  refine j_iload_n X dL_law_782 rfl ?_
  refine j_iconst X dL_law_783 ?_
  refine j_iadd X dL_law_784 ?_
  refine j_sld X S ha (by omega) (by omega) (by omega) dL_law_785 ?_
  refine jc_Vi (avs := [vI (sxv xs (((5 * j : Nat) : Int) + 1)), vI (sxv xs (((5 * j : Nat) : Int) + 2)), vI (sxv xs (((5 * j : Nat) : Int) + 3))]) (st := [vI a]) X (K.cs (by decide) (by decide)) mf_X10_cut mv_X10_cut ml_L_92 (by decide) rfl rfl rfl rfl (Nat.le_of_ble_eq_true rfl) dL_law_786 c2 (fun b2 w2 hp2 => ?_)
  obtain ⟨e9, hj⟩ := n2 b2 w2 hp2
  subst e9
  exact j_eqS (tgt := 1190) X dL_law_789 (by decide) (k w2 hj)
set_option maxHeartbeats 1000000 in
set_option maxRecDepth 20000 in
theorem lc_18 {κ : KT} {ad : Nat → Nat} {b L : Nat} {xs : Nat → Int32} {n j : Nat} {B : Int} {w : wd} (X : Okk κ cL_law RL 30) (K : LwK κ b) (S : ScrOk κ b L xs) (ha : ad 1000 = b) (hL : L ≤ 2560) (hj : 5 * j + 5 ≤ L) (h : JI n B w) (hB : B + 3169056 ≤ 2000000000) (k : ∀ w', JN B w' → J κ LAY ad 79 38217 1190 [some (vR 1000), some (vR 0), some (vR 54), some (vI ((5 * j : Nat) : Int))] [] w') : J κ LAY ad 79 38217 794 [some (vR 1000), some (vR 0), some (vR 54), some (vI ((5 * j : Nat) : Int))] [] w := by
  refine j_aload_n X dL_law_794 rfl ?_
  refine j_aload_n X dL_law_795 rfl ?_
  refine j_iload_n X dL_law_796 rfl ?_
  refine j_iconst X dL_law_797 ?_
  refine j_iadd X dL_law_798 ?_
  refine j_sld X S ha (by omega) (by omega) (by omega) dL_law_799 ?_
  have C_800 : ∀ v : Int, v = ib (sxv xs (((5 * j : Nat) : Int) + 1) ≠ 0) → J κ LAY ad 79 38217 808 [some (vR 1000), some (vR 0), some (vR 54), some (vI ((5 * j : Nat) : Int))] ([vI v, vR 0]) w := by
    intro v hv
    subst hv
    obtain ⟨P1, c1, n1⟩ := jx_pieces h (ib_01 (P := sxv xs (((5 * j : Nat) : Int) + 1) ≠ 0))
    refine jc_Vi (avs := [vI (ib (sxv xs (((5 * j : Nat) : Int) + 1) ≠ 0))]) (st := []) X (K.cs (by decide) (by decide)) mf_X9_pieces mv_X9_pieces ml_L_93 (by decide) rfl rfl rfl rfl (Nat.le_of_ble_eq_true rfl) dL_law_808 c1 (fun a w1 hp1 => ?_)
    obtain ⟨P2, c2, n2⟩ := n1 a w1 hp1
    refine j_aload_n X dL_law_811 rfl ?_
    refine j_aload_n X dL_law_812 rfl ?_
    refine j_iload_n X dL_law_813 rfl ?_
    refine j_iconst X dL_law_814 ?_
    refine j_iadd X dL_law_815 ?_
    refine j_sld X S ha (by omega) (by omega) (by omega) dL_law_816 ?_
    have C_817 : ∀ v : Int, v = ib (sxv xs (((5 * j : Nat) : Int) + 1) ≠ 0) → J κ LAY ad 79 38217 825 [some (vR 1000), some (vR 0), some (vR 54), some (vI ((5 * j : Nat) : Int))] ([vI v, vR 54, vI a]) w1 := by
      intro v hv
      subst hv
      refine jc_Vi (avs := [vI (ib (sxv xs (((5 * j : Nat) : Int) + 1) ≠ 0))]) (st := [vI a]) X (K.cs (by decide) (by decide)) mf_X10_pieces mv_X10_pieces ml_L_96 (by decide) rfl rfl rfl rfl (Nat.le_of_ble_eq_true rfl) dL_law_825 c2 (fun b2 w2 hp2 => ?_)
      obtain ⟨e9, hj⟩ := n2 b2 w2 hp2
      subst e9
      exact j_eqS (tgt := 1190) X dL_law_828 (by decide) (k w2 hj)
    refine j_if_eq (tgt := 824) X dL_law_817 (by decide) sx_rg (fun h9 => ?_) (fun h9 => ?_)
    · refine j_iconst X dL_law_824 ?_
      exact C_817 _ (ib_f (fun q => q h9)).symm
    · refine j_iconst X dL_law_820 ?_
      refine j_goto (tgt := 825) X dL_law_821 (by decide) ?_
      exact C_817 _ (ib_t h9).symm
  refine j_if_eq (tgt := 807) X dL_law_800 (by decide) sx_rg (fun h9 => ?_) (fun h9 => ?_)
  · refine j_iconst X dL_law_807 ?_
    exact C_800 _ (ib_f (fun q => q h9)).symm
  · refine j_iconst X dL_law_803 ?_
    refine j_goto (tgt := 808) X dL_law_804 (by decide) ?_
    exact C_800 _ (ib_t h9).symm
set_option maxHeartbeats 1000000 in
set_option maxRecDepth 20000 in
theorem lc_19 {κ : KT} {ad : Nat → Nat} {b L : Nat} {xs : Nat → Int32} {n j : Nat} {B : Int} {w : wd} (X : Okk κ cL_law RL 30) (K : LwK κ b) (S : ScrOk κ b L xs) (ha : ad 1000 = b) (hL : L ≤ 2560) (hj : 5 * j + 5 ≤ L) (h : JI n B w) (hB : B + 3169056 ≤ 2000000000) (k : ∀ w', JN B w' → J κ LAY ad 79 38217 1190 [some (vR 1000), some (vR 0), some (vR 54), some (vI ((5 * j : Nat) : Int))] [] w') : J κ LAY ad 79 38217 833 [some (vR 1000), some (vR 0), some (vR 54), some (vI ((5 * j : Nat) : Int))] [] w := by
  refine j_aload_n X dL_law_833 rfl ?_
  obtain ⟨P1, c1, n1⟩ := jx_holes h
  refine jc_Vi (avs := []) (st := []) X (K.cs (by decide) (by decide)) mf_X9_holes mv_X9_holes ml_L_97 (by decide) rfl rfl rfl rfl (Nat.le_of_ble_eq_true rfl) dL_law_834 c1 (fun a w1 hp1 => ?_)
  obtain ⟨P2, c2, n2⟩ := n1 a w1 hp1
  refine j_aload_n X dL_law_837 rfl ?_
  refine jc_Vi (avs := []) (st := [vI a]) X (K.cs (by decide) (by decide)) mf_X10_holes mv_X10_holes ml_L_100 (by decide) rfl rfl rfl rfl (Nat.le_of_ble_eq_true rfl) dL_law_838 c2 (fun b2 w2 hp2 => ?_)
  obtain ⟨e9, hj⟩ := n2 b2 w2 hp2
  subst e9
  exact j_eqS (tgt := 1190) X dL_law_841 (by decide) (k w2 hj)
set_option maxHeartbeats 1000000 in
set_option maxRecDepth 20000 in
theorem lc_20 {κ : KT} {ad : Nat → Nat} {b L : Nat} {xs : Nat → Int32} {n j : Nat} {B : Int} {w : wd} (X : Okk κ cL_law RL 30) (K : LwK κ b) (S : ScrOk κ b L xs) (ha : ad 1000 = b) (hL : L ≤ 2560) (hj : 5 * j + 5 ≤ L) (h : JI n B w) (hB : B + 3169056 ≤ 2000000000) (k : ∀ w', JN B w' → J κ LAY ad 79 38217 1190 [some (vR 1000), some (vR 0), some (vR 54), some (vI ((5 * j : Nat) : Int))] [] w') : J κ LAY ad 79 38217 846 [some (vR 1000), some (vR 0), some (vR 54), some (vI ((5 * j : Nat) : Int))] [] w := by
  refine j_aload_n X dL_law_846 rfl ?_
  refine j_aload_n X dL_law_847 rfl ?_
  refine j_iload_n X dL_law_848 rfl ?_
  refine j_iconst X dL_law_849 ?_
  refine j_iadd X dL_law_850 ?_
  refine j_sld X S ha (by omega) (by omega) (by omega) dL_law_851 ?_
  have C_852 : ∀ v : Int, v = ib (sxv xs (((5 * j : Nat) : Int) + 1) ≠ 0) → J κ LAY ad 79 38217 860 [some (vR 1000), some (vR 0), some (vR 54), some (vI ((5 * j : Nat) : Int))] ([vI v, vR 0]) w := by
    intro v hv
    subst hv
    obtain ⟨P1, c1, n1⟩ := jx_rims h (ib_01 (P := sxv xs (((5 * j : Nat) : Int) + 1) ≠ 0))
    refine jc_Vi (avs := [vI (ib (sxv xs (((5 * j : Nat) : Int) + 1) ≠ 0))]) (st := []) X (K.cs (by decide) (by decide)) mf_X9_rims mv_X9_rims ml_L_101 (by decide) rfl rfl rfl rfl (Nat.le_of_ble_eq_true rfl) dL_law_860 c1 (fun a w1 hp1 => ?_)
    obtain ⟨P2, c2, n2⟩ := n1 a w1 hp1
    refine j_aload_n X dL_law_863 rfl ?_
    refine j_aload_n X dL_law_864 rfl ?_
    refine j_iload_n X dL_law_865 rfl ?_
    refine j_iconst X dL_law_866 ?_
    refine j_iadd X dL_law_867 ?_
    refine j_sld X S ha (by omega) (by omega) (by omega) dL_law_868 ?_
    have C_869 : ∀ v : Int, v = ib (sxv xs (((5 * j : Nat) : Int) + 1) ≠ 0) → J κ LAY ad 79 38217 877 [some (vR 1000), some (vR 0), some (vR 54), some (vI ((5 * j : Nat) : Int))] ([vI v, vR 54, vI a]) w1 := by
      intro v hv
      subst hv
      refine jc_Vi (avs := [vI (ib (sxv xs (((5 * j : Nat) : Int) + 1) ≠ 0))]) (st := [vI a]) X (K.cs (by decide) (by decide)) mf_X10_rims mv_X10_rims ml_L_104 (by decide) rfl rfl rfl rfl (Nat.le_of_ble_eq_true rfl) dL_law_877 c2 (fun b2 w2 hp2 => ?_)
      obtain ⟨e9, hj⟩ := n2 b2 w2 hp2
      subst e9
      exact j_eqS (tgt := 1190) X dL_law_880 (by decide) (k w2 hj)
    refine j_if_eq (tgt := 876) X dL_law_869 (by decide) sx_rg (fun h9 => ?_) (fun h9 => ?_)
    · refine j_iconst X dL_law_876 ?_
      exact C_869 _ (ib_f (fun q => q h9)).symm
    · refine j_iconst X dL_law_872 ?_
      refine j_goto (tgt := 877) X dL_law_873 (by decide) ?_
      exact C_869 _ (ib_t h9).symm
  refine j_if_eq (tgt := 859) X dL_law_852 (by decide) sx_rg (fun h9 => ?_) (fun h9 => ?_)
  · refine j_iconst X dL_law_859 ?_
    exact C_852 _ (ib_f (fun q => q h9)).symm
  · refine j_iconst X dL_law_855 ?_
    refine j_goto (tgt := 860) X dL_law_856 (by decide) ?_
    exact C_852 _ (ib_t h9).symm
set_option maxHeartbeats 1000000 in
set_option maxRecDepth 20000 in
theorem lc_21 {κ : KT} {ad : Nat → Nat} {b L : Nat} {xs : Nat → Int32} {n j : Nat} {B : Int} {w : wd} (X : Okk κ cL_law RL 30) (K : LwK κ b) (S : ScrOk κ b L xs) (ha : ad 1000 = b) (hL : L ≤ 2560) (hj : 5 * j + 5 ≤ L) (h : JI n B w) (hB : B + 3169056 ≤ 2000000000) (k : ∀ w', JN B w' → J κ LAY ad 79 38217 1190 [some (vR 1000), some (vR 0), some (vR 54), some (vI ((5 * j : Nat) : Int))] [] w') : J κ LAY ad 79 38217 885 [some (vR 1000), some (vR 0), some (vR 54), some (vI ((5 * j : Nat) : Int))] [] w := by
  refine j_aload_n X dL_law_885 rfl ?_
  refine j_aload_n X dL_law_886 rfl ?_
  refine j_iload_n X dL_law_887 rfl ?_
  refine j_iconst X dL_law_888 ?_
  refine j_iadd X dL_law_889 ?_
  refine j_sld X S ha (by omega) (by omega) (by omega) dL_law_890 ?_
  obtain ⟨P1, c1, n1⟩ := jx_piece h (sx_rg (xs := xs) (i := ((5 * j : Nat) : Int) + 1))
  refine jc_Vi (avs := [vI (sxv xs (((5 * j : Nat) : Int) + 1))]) (st := []) X (K.cs (by decide) (by decide)) mf_X9_piece mv_X9_piece ml_L_105 (by decide) rfl rfl rfl rfl (Nat.le_of_ble_eq_true rfl) dL_law_891 c1 (fun a w1 hp1 => ?_)
  obtain ⟨P2, c2, n2⟩ := n1 a w1 hp1
  refine j_aload_n X dL_law_894 rfl ?_
  refine j_aload_n X dL_law_895 rfl ?_
  refine j_iload_n X dL_law_896 rfl ?_
  refine j_iconst X dL_law_897 ?_
  refine j_iadd X dL_law_898 ?_
  refine j_sld X S ha (by omega) (by omega) (by omega) dL_law_899 ?_
  refine jc_Vi (avs := [vI (sxv xs (((5 * j : Nat) : Int) + 1))]) (st := [vI a]) X (K.cs (by decide) (by decide)) mf_X10_piece mv_X10_piece ml_L_108 (by decide) rfl rfl rfl rfl (Nat.le_of_ble_eq_true rfl) dL_law_900 c2 (fun b2 w2 hp2 => ?_)
  obtain ⟨e9, hj⟩ := n2 b2 w2 hp2
  subst e9
  exact j_eqS (tgt := 1190) X dL_law_903 (by decide) (k w2 hj)
set_option maxHeartbeats 1000000 in
set_option maxRecDepth 20000 in
theorem lc_22 {κ : KT} {ad : Nat → Nat} {b L : Nat} {xs : Nat → Int32} {n j : Nat} {B : Int} {w : wd} (X : Okk κ cL_law RL 30) (K : LwK κ b) (S : ScrOk κ b L xs) (ha : ad 1000 = b) (hL : L ≤ 2560) (hj : 5 * j + 5 ≤ L) (h : JI n B w) (hB : B + 3169056 ≤ 2000000000) (k : ∀ w', JN B w' → J κ LAY ad 79 38217 1190 [some (vR 1000), some (vR 0), some (vR 54), some (vI ((5 * j : Nat) : Int))] [] w') : J κ LAY ad 79 38217 908 [some (vR 1000), some (vR 0), some (vR 54), some (vI ((5 * j : Nat) : Int))] [] w := by
  refine j_aload_n X dL_law_908 rfl ?_
  refine j_aload_n X dL_law_909 rfl ?_
  refine j_iload_n X dL_law_910 rfl ?_
  refine j_iconst X dL_law_911 ?_
  refine j_iadd X dL_law_912 ?_
  refine j_sld X S ha (by omega) (by omega) (by omega) dL_law_913 ?_
  refine j_aload_n X dL_law_914 rfl ?_
  refine j_iload_n X dL_law_915 rfl ?_
  refine j_iconst X dL_law_916 ?_
  refine j_iadd X dL_law_917 ?_
  refine j_sld X S ha (by omega) (by omega) (by omega) dL_law_918 ?_
  have C_919 : ∀ v : Int, v = ib (sxv xs (((5 * j : Nat) : Int) + 2) ≠ 0) → J κ LAY ad 79 38217 927 [some (vR 1000), some (vR 0), some (vR 54), some (vI ((5 * j : Nat) : Int))] ([vI v, vI (sxv xs (((5 * j : Nat) : Int) + 1)), vR 0]) w := by
    intro v hv
    subst hv
    obtain ⟨P1, c1, n1⟩ := jx_mark h (sx_rg (xs := xs) (i := ((5 * j : Nat) : Int) + 1)) (ib_01 (P := sxv xs (((5 * j : Nat) : Int) + 2) ≠ 0))
    refine jc_Vi (avs := [vI (sxv xs (((5 * j : Nat) : Int) + 1)), vI (ib (sxv xs (((5 * j : Nat) : Int) + 2) ≠ 0))]) (st := []) X (K.cs (by decide) (by decide)) mf_X9_mark mv_X9_mark ml_L_109 (by decide) rfl rfl rfl rfl (Nat.le_of_ble_eq_true rfl) dL_law_927 c1 (fun a w1 hp1 => ?_)
    obtain ⟨P2, c2, n2⟩ := n1 a w1 hp1
    refine j_aload_n X dL_law_930 rfl ?_
    refine j_aload_n X dL_law_931 rfl ?_
    refine j_iload_n X dL_law_932 rfl ?_
    refine j_iconst X dL_law_933 ?_
    refine j_iadd X dL_law_934 ?_
    refine j_sld X S ha (by omega) (by omega) (by omega) dL_law_935 ?_
    refine j_aload_n X dL_law_936 rfl ?_
    refine j_iload_n X dL_law_937 rfl ?_
    refine j_iconst X dL_law_938 ?_
    refine j_iadd X dL_law_939 ?_
    refine j_sld X S ha (by omega) (by omega) (by omega) dL_law_940 ?_
    have C_941 : ∀ v : Int, v = ib (sxv xs (((5 * j : Nat) : Int) + 2) ≠ 0) → J κ LAY ad 79 38217 949 [some (vR 1000), some (vR 0), some (vR 54), some (vI ((5 * j : Nat) : Int))] ([vI v, vI (sxv xs (((5 * j : Nat) : Int) + 1)), vR 54, vI a]) w1 := by
      intro v hv
      subst hv
      refine jc_Vi (avs := [vI (sxv xs (((5 * j : Nat) : Int) + 1)), vI (ib (sxv xs (((5 * j : Nat) : Int) + 2) ≠ 0))]) (st := [vI a]) X (K.cs (by decide) (by decide)) mf_X10_mark mv_X10_mark ml_L_113 (by decide) rfl rfl rfl rfl (Nat.le_of_ble_eq_true rfl) dL_law_949 c2 (fun b2 w2 hp2 => ?_)
      obtain ⟨e9, hj⟩ := n2 b2 w2 hp2
      subst e9
      exact j_eqS (tgt := 1190) X dL_law_952 (by decide) (k w2 hj)
    refine j_if_eq (tgt := 948) X dL_law_941 (by decide) sx_rg (fun h9 => ?_) (fun h9 => ?_)
    · refine j_iconst X dL_law_948 ?_
      exact C_941 _ (ib_f (fun q => q h9)).symm
    · refine j_iconst X dL_law_944 ?_
      refine j_goto (tgt := 949) X dL_law_945 (by decide) ?_
      exact C_941 _ (ib_t h9).symm
  refine j_if_eq (tgt := 926) X dL_law_919 (by decide) sx_rg (fun h9 => ?_) (fun h9 => ?_)
  · refine j_iconst X dL_law_926 ?_
    exact C_919 _ (ib_f (fun q => q h9)).symm
  · refine j_iconst X dL_law_922 ?_
    refine j_goto (tgt := 927) X dL_law_923 (by decide) ?_
    exact C_919 _ (ib_t h9).symm
set_option maxHeartbeats 1000000 in
set_option maxRecDepth 20000 in
theorem lc_23 {κ : KT} {ad : Nat → Nat} {b L : Nat} {xs : Nat → Int32} {n j : Nat} {B : Int} {w : wd} (X : Okk κ cL_law RL 30) (K : LwK κ b) (S : ScrOk κ b L xs) (ha : ad 1000 = b) (hL : L ≤ 2560) (hj : 5 * j + 5 ≤ L) (h : JI n B w) (hB : B + 3169056 ≤ 2000000000) (k : ∀ w', JN B w' → J κ LAY ad 79 38217 1190 [some (vR 1000), some (vR 0), some (vR 54), some (vI ((5 * j : Nat) : Int))] [] w') : J κ LAY ad 79 38217 957 [some (vR 1000), some (vR 0), some (vR 54), some (vI ((5 * j : Nat) : Int))] [] w := by
  refine j_aload_n X dL_law_957 rfl ?_
  refine j_aload_n X dL_law_958 rfl ?_
  refine j_iload_n X dL_law_959 rfl ?_
  refine j_iconst X dL_law_960 ?_
  refine j_iadd X dL_law_961 ?_
  refine j_sld X S ha (by omega) (by omega) (by omega) dL_law_962 ?_
  refine j_aload_n X dL_law_963 rfl ?_
  refine j_iload_n X dL_law_964 rfl ?_
  refine j_iconst X dL_law_965 ?_
  refine j_iadd X dL_law_966 ?_
  refine j_sld X S ha (by omega) (by omega) (by omega) dL_law_967 ?_
  refine j_aload_n X dL_law_968 rfl ?_
  refine j_iload_n X dL_law_969 rfl ?_
  refine j_iconst X dL_law_970 ?_
  refine j_iadd X dL_law_971 ?_
  refine j_sld X S ha (by omega) (by omega) (by omega) dL_law_972 ?_
  have C_973 : ∀ v : Int, v = ib (sxv xs (((5 * j : Nat) : Int) + 3) ≠ 0) → J κ LAY ad 79 38217 981 [some (vR 1000), some (vR 0), some (vR 54), some (vI ((5 * j : Nat) : Int))] ([vI v, vI (sxv xs (((5 * j : Nat) : Int) + 2)), vI (sxv xs (((5 * j : Nat) : Int) + 1)), vR 0]) w := by
    intro v hv
    subst hv
    obtain ⟨P1, c1, n1⟩ := jx_markCell h (sx_rg (xs := xs) (i := ((5 * j : Nat) : Int) + 1)) (sx_rg (xs := xs) (i := ((5 * j : Nat) : Int) + 2)) (ib_01 (P := sxv xs (((5 * j : Nat) : Int) + 3) ≠ 0))
    refine jc_Vi (avs := [vI (sxv xs (((5 * j : Nat) : Int) + 1)), vI (sxv xs (((5 * j : Nat) : Int) + 2)), vI (ib (sxv xs (((5 * j : Nat) : Int) + 3) ≠ 0))]) (st := []) X (K.cs (by decide) (by decide)) mf_X9_markCell mv_X9_markCell ml_L_114 (by decide) rfl rfl rfl rfl (Nat.le_of_ble_eq_true rfl) dL_law_981 c1 (fun a w1 hp1 => ?_)
    obtain ⟨P2, c2, n2⟩ := n1 a w1 hp1
    refine j_aload_n X dL_law_984 rfl ?_
    refine j_aload_n X dL_law_985 rfl ?_
    refine j_iload_n X dL_law_986 rfl ?_
    refine j_iconst X dL_law_987 ?_
    refine j_iadd X dL_law_988 ?_
    refine j_sld X S ha (by omega) (by omega) (by omega) dL_law_989 ?_
    refine j_aload_n X dL_law_990 rfl ?_
    refine j_iload_n X dL_law_991 rfl ?_
    refine j_iconst X dL_law_992 ?_
    refine j_iadd X dL_law_993 ?_
    refine j_sld X S ha (by omega) (by omega) (by omega) dL_law_994 ?_
    refine j_aload_n X dL_law_995 rfl ?_
    refine j_iload_n X dL_law_996 rfl ?_
    refine j_iconst X dL_law_997 ?_
    refine j_iadd X dL_law_998 ?_
    refine j_sld X S ha (by omega) (by omega) (by omega) dL_law_999 ?_
    have C_1000 : ∀ v : Int, v = ib (sxv xs (((5 * j : Nat) : Int) + 3) ≠ 0) → J κ LAY ad 79 38217 1008 [some (vR 1000), some (vR 0), some (vR 54), some (vI ((5 * j : Nat) : Int))] ([vI v, vI (sxv xs (((5 * j : Nat) : Int) + 2)), vI (sxv xs (((5 * j : Nat) : Int) + 1)), vR 54, vI a]) w1 := by
      intro v hv
      subst hv
      refine jc_Vi (avs := [vI (sxv xs (((5 * j : Nat) : Int) + 1)), vI (sxv xs (((5 * j : Nat) : Int) + 2)), vI (ib (sxv xs (((5 * j : Nat) : Int) + 3) ≠ 0))]) (st := [vI a]) X (K.cs (by decide) (by decide)) mf_X10_markCell mv_X10_markCell ml_L_117 (by decide) rfl rfl rfl rfl (Nat.le_of_ble_eq_true rfl) dL_law_1008 c2 (fun b2 w2 hp2 => ?_)
      obtain ⟨e9, hj⟩ := n2 b2 w2 hp2
      subst e9
      exact j_eqS (tgt := 1190) X dL_law_1011 (by decide) (k w2 hj)
    refine j_if_eq (tgt := 1007) X dL_law_1000 (by decide) sx_rg (fun h9 => ?_) (fun h9 => ?_)
    · refine j_iconst X dL_law_1007 ?_
      exact C_1000 _ (ib_f (fun q => q h9)).symm
    · refine j_iconst X dL_law_1003 ?_
      refine j_goto (tgt := 1008) X dL_law_1004 (by decide) ?_
      exact C_1000 _ (ib_t h9).symm
  refine j_if_eq (tgt := 980) X dL_law_973 (by decide) sx_rg (fun h9 => ?_) (fun h9 => ?_)
  · refine j_iconst X dL_law_980 ?_
    exact C_973 _ (ib_f (fun q => q h9)).symm
  · refine j_iconst X dL_law_976 ?_
    refine j_goto (tgt := 981) X dL_law_977 (by decide) ?_
    exact C_973 _ (ib_t h9).symm
set_option maxHeartbeats 1000000 in
set_option maxRecDepth 20000 in
theorem lc_24 {κ : KT} {ad : Nat → Nat} {b L : Nat} {xs : Nat → Int32} {n j : Nat} {B : Int} {w : wd} (X : Okk κ cL_law RL 30) (K : LwK κ b) (S : ScrOk κ b L xs) (ha : ad 1000 = b) (hL : L ≤ 2560) (hj : 5 * j + 5 ≤ L) (h : JI n B w) (hB : B + 3169056 ≤ 2000000000) (k : ∀ w', JN B w' → J κ LAY ad 79 38217 1190 [some (vR 1000), some (vR 0), some (vR 54), some (vI ((5 * j : Nat) : Int))] [] w') : J κ LAY ad 79 38217 1016 [some (vR 1000), some (vR 0), some (vR 54), some (vI ((5 * j : Nat) : Int))] [] w := by
  refine j_aload_n X dL_law_1016 rfl ?_
  obtain ⟨P1, c1, n1⟩ := jx_take h
  refine jc_Vi (avs := []) (st := []) X (K.cs (by decide) (by decide)) mf_X9_take mv_X9_take ml_L_118 (by decide) rfl rfl rfl rfl (Nat.le_of_ble_eq_true rfl) dL_law_1017 c1 (fun a w1 hp1 => ?_)
  obtain ⟨P2, c2, n2⟩ := n1 a w1 hp1
  refine j_aload_n X dL_law_1020 rfl ?_
  refine jc_Vi (avs := []) (st := [vI a]) X (K.cs (by decide) (by decide)) mf_X10_take mv_X10_take ml_L_121 (by decide) rfl rfl rfl rfl (Nat.le_of_ble_eq_true rfl) dL_law_1021 c2 (fun b2 w2 hp2 => ?_)
  obtain ⟨e9, hj⟩ := n2 b2 w2 hp2
  subst e9
  exact j_eqS (tgt := 1190) X dL_law_1024 (by decide) (k w2 hj)
set_option maxHeartbeats 1000000 in
set_option maxRecDepth 20000 in
theorem lc_25 {κ : KT} {ad : Nat → Nat} {b L : Nat} {xs : Nat → Int32} {n j : Nat} {B : Int} {w : wd} (X : Okk κ cL_law RL 30) (K : LwK κ b) (S : ScrOk κ b L xs) (ha : ad 1000 = b) (hL : L ≤ 2560) (hj : 5 * j + 5 ≤ L) (h : JI n B w) (hB : B + 3169056 ≤ 2000000000) (k : ∀ w', JN B w' → J κ LAY ad 79 38217 1190 [some (vR 1000), some (vR 0), some (vR 54), some (vI ((5 * j : Nat) : Int))] [] w') : J κ LAY ad 79 38217 1029 [some (vR 1000), some (vR 0), some (vR 54), some (vI ((5 * j : Nat) : Int))] [] w := by
  refine j_aload_n X dL_law_1029 rfl ?_
  obtain ⟨P1, c1, n1⟩ := jx_same h
  refine jc_Vi (avs := []) (st := []) X (K.cs (by decide) (by decide)) mf_X9_same mv_X9_same ml_L_122 (by decide) rfl rfl rfl rfl (Nat.le_of_ble_eq_true rfl) dL_law_1030 c1 (fun a w1 hp1 => ?_)
  obtain ⟨P2, c2, n2⟩ := n1 a w1 hp1
  refine j_aload_n X dL_law_1033 rfl ?_
  refine jc_Vi (avs := []) (st := [vI a]) X (K.cs (by decide) (by decide)) mf_X10_same mv_X10_same ml_L_125 (by decide) rfl rfl rfl rfl (Nat.le_of_ble_eq_true rfl) dL_law_1034 c2 (fun b2 w2 hp2 => ?_)
  obtain ⟨e9, hj⟩ := n2 b2 w2 hp2
  subst e9
  exact j_eqS (tgt := 1190) X dL_law_1037 (by decide) (k w2 hj)
set_option maxHeartbeats 1000000 in
set_option maxRecDepth 20000 in
theorem lc_26 {κ : KT} {ad : Nat → Nat} {b L : Nat} {xs : Nat → Int32} {n j : Nat} {B : Int} {w : wd} (X : Okk κ cL_law RL 30) (K : LwK κ b) (S : ScrOk κ b L xs) (ha : ad 1000 = b) (hL : L ≤ 2560) (hj : 5 * j + 5 ≤ L) (h : JI n B w) (hB : B + 3169056 ≤ 2000000000) (k : ∀ w', JN B w' → J κ LAY ad 79 38217 1190 [some (vR 1000), some (vR 0), some (vR 54), some (vI ((5 * j : Nat) : Int))] [] w') : J κ LAY ad 79 38217 1042 [some (vR 1000), some (vR 0), some (vR 54), some (vI ((5 * j : Nat) : Int))] [] w := by
  refine j_aload_n X dL_law_1042 rfl ?_
  refine j_aload_n X dL_law_1043 rfl ?_
  refine j_iload_n X dL_law_1044 rfl ?_
  refine j_iconst X dL_law_1045 ?_
  refine j_iadd X dL_law_1046 ?_
  refine j_sld X S ha (by omega) (by omega) (by omega) dL_law_1047 ?_
  refine j_aload_n X dL_law_1048 rfl ?_
  refine j_iload_n X dL_law_1049 rfl ?_
  refine j_iconst X dL_law_1050 ?_
  refine j_iadd X dL_law_1051 ?_
  refine j_sld X S ha (by omega) (by omega) (by omega) dL_law_1052 ?_
  obtain ⟨P1, c1, n1⟩ := jx_mirror h (sx_rg (xs := xs) (i := ((5 * j : Nat) : Int) + 1)) (sx_rg (xs := xs) (i := ((5 * j : Nat) : Int) + 2))
  refine jc_Vi (avs := [vI (sxv xs (((5 * j : Nat) : Int) + 1)), vI (sxv xs (((5 * j : Nat) : Int) + 2))]) (st := []) X (K.cs (by decide) (by decide)) mf_X9_mirror mv_X9_mirror ml_L_126 (by decide) rfl rfl rfl rfl (Nat.le_of_ble_eq_true rfl) dL_law_1053 c1 (fun a w1 hp1 => ?_)
  obtain ⟨P2, c2, n2⟩ := n1 a w1 hp1
  refine j_aload_n X dL_law_1056 rfl ?_
  refine j_aload_n X dL_law_1057 rfl ?_
  refine j_iload_n X dL_law_1058 rfl ?_
  refine j_iconst X dL_law_1059 ?_
  refine j_iadd X dL_law_1060 ?_
  refine j_sld X S ha (by omega) (by omega) (by omega) dL_law_1061 ?_
  refine j_aload_n X dL_law_1062 rfl ?_
  refine j_iload_n X dL_law_1063 rfl ?_
  refine j_iconst X dL_law_1064 ?_
  refine j_iadd X dL_law_1065 ?_
  refine j_sld X S ha (by omega) (by omega) (by omega) dL_law_1066 ?_
  refine jc_Vi (avs := [vI (sxv xs (((5 * j : Nat) : Int) + 1)), vI (sxv xs (((5 * j : Nat) : Int) + 2))]) (st := [vI a]) X (K.cs (by decide) (by decide)) mf_X10_mirror mv_X10_mirror ml_L_129 (by decide) rfl rfl rfl rfl (Nat.le_of_ble_eq_true rfl) dL_law_1067 c2 (fun b2 w2 hp2 => ?_)
  obtain ⟨e9, hj⟩ := n2 b2 w2 hp2
  subst e9
  exact j_eqS (tgt := 1190) X dL_law_1070 (by decide) (k w2 hj)
set_option maxHeartbeats 1000000 in
set_option maxRecDepth 20000 in
theorem lc_27 {κ : KT} {ad : Nat → Nat} {b L : Nat} {xs : Nat → Int32} {n j : Nat} {B : Int} {w : wd} (X : Okk κ cL_law RL 30) (K : LwK κ b) (S : ScrOk κ b L xs) (ha : ad 1000 = b) (hL : L ≤ 2560) (hj : 5 * j + 5 ≤ L) (h : JI n B w) (hB : B + 3169056 ≤ 2000000000) (k : ∀ w', JN B w' → J κ LAY ad 79 38217 1190 [some (vR 1000), some (vR 0), some (vR 54), some (vI ((5 * j : Nat) : Int))] [] w') : J κ LAY ad 79 38217 1075 [some (vR 1000), some (vR 0), some (vR 54), some (vI ((5 * j : Nat) : Int))] [] w := by
  refine j_aload_n X dL_law_1075 rfl ?_
  obtain ⟨P1, c1, n1⟩ := jx_mirrors h
  refine jc_Vi (avs := []) (st := []) X (K.cs (by decide) (by decide)) mf_X9_mirrors mv_X9_mirrors ml_L_130 (by decide) rfl rfl rfl rfl (Nat.le_of_ble_eq_true rfl) dL_law_1076 c1 (fun a w1 hp1 => ?_)
  obtain ⟨P2, c2, n2⟩ := n1 a w1 hp1
  refine j_aload_n X dL_law_1079 rfl ?_
  refine jc_Vi (avs := []) (st := [vI a]) X (K.cs (by decide) (by decide)) mf_X10_mirrors mv_X10_mirrors ml_L_133 (by decide) rfl rfl rfl rfl (Nat.le_of_ble_eq_true rfl) dL_law_1080 c2 (fun b2 w2 hp2 => ?_)
  obtain ⟨e9, hj⟩ := n2 b2 w2 hp2
  subst e9
  exact j_eqS (tgt := 1190) X dL_law_1083 (by decide) (k w2 hj)
set_option maxHeartbeats 1000000 in
set_option maxRecDepth 20000 in
theorem lc_28 {κ : KT} {ad : Nat → Nat} {b L : Nat} {xs : Nat → Int32} {n j : Nat} {B : Int} {w : wd} (X : Okk κ cL_law RL 30) (K : LwK κ b) (S : ScrOk κ b L xs) (ha : ad 1000 = b) (hL : L ≤ 2560) (hj : 5 * j + 5 ≤ L) (h : JI n B w) (hB : B + 3169056 ≤ 2000000000) (k : ∀ w', JN B w' → J κ LAY ad 79 38217 1190 [some (vR 1000), some (vR 0), some (vR 54), some (vI ((5 * j : Nat) : Int))] [] w') : J κ LAY ad 79 38217 1088 [some (vR 1000), some (vR 0), some (vR 54), some (vI ((5 * j : Nat) : Int))] [] w := by
  refine j_aload_n X dL_law_1088 rfl ?_
  refine j_aload_n X dL_law_1089 rfl ?_
  refine j_iload_n X dL_law_1090 rfl ?_
  refine j_iconst X dL_law_1091 ?_
  refine j_iadd X dL_law_1092 ?_
  refine j_sld X S ha (by omega) (by omega) (by omega) dL_law_1093 ?_
  obtain ⟨P1, c1, n1⟩ := jx_fewest h hB (sx_rg (xs := xs) (i := ((5 * j : Nat) : Int) + 1))
  refine jc_Vi (avs := [vI (sxv xs (((5 * j : Nat) : Int) + 1))]) (st := []) X (K.cs (by decide) (by decide)) mf_X9_fewest mv_X9_fewest ml_L_134 (by decide) rfl rfl rfl rfl (Nat.le_of_ble_eq_true rfl) dL_law_1094 c1 (fun a w1 hp1 => ?_)
  obtain ⟨P2, c2, n2⟩ := n1 a w1 hp1
  refine j_aload_n X dL_law_1097 rfl ?_
  refine j_aload_n X dL_law_1098 rfl ?_
  refine j_iload_n X dL_law_1099 rfl ?_
  refine j_iconst X dL_law_1100 ?_
  refine j_iadd X dL_law_1101 ?_
  refine j_sld X S ha (by omega) (by omega) (by omega) dL_law_1102 ?_
  refine jc_Vi (avs := [vI (sxv xs (((5 * j : Nat) : Int) + 1))]) (st := [vI a]) X (K.cs (by decide) (by decide)) mf_X10_fewest mv_X10_fewest ml_L_137 (by decide) rfl rfl rfl rfl (Nat.le_of_ble_eq_true rfl) dL_law_1103 c2 (fun b2 w2 hp2 => ?_)
  obtain ⟨e9, hj⟩ := n2 b2 w2 hp2
  subst e9
  exact j_eqS (tgt := 1190) X dL_law_1106 (by decide) (k w2 hj)
set_option maxHeartbeats 1000000 in
set_option maxRecDepth 20000 in
theorem lc_29 {κ : KT} {ad : Nat → Nat} {b L : Nat} {xs : Nat → Int32} {n j : Nat} {B : Int} {w : wd} (X : Okk κ cL_law RL 30) (K : LwK κ b) (S : ScrOk κ b L xs) (ha : ad 1000 = b) (hL : L ≤ 2560) (hj : 5 * j + 5 ≤ L) (h : JI n B w) (hB : B + 3169056 ≤ 2000000000) (k : ∀ w', JN B w' → J κ LAY ad 79 38217 1190 [some (vR 1000), some (vR 0), some (vR 54), some (vI ((5 * j : Nat) : Int))] [] w') : J κ LAY ad 79 38217 1111 [some (vR 1000), some (vR 0), some (vR 54), some (vI ((5 * j : Nat) : Int))] [] w := by
  refine j_aload_n X dL_law_1111 rfl ?_
  refine j_aload_n X dL_law_1112 rfl ?_
  refine j_iload_n X dL_law_1113 rfl ?_
  refine j_iconst X dL_law_1114 ?_
  refine j_iadd X dL_law_1115 ?_
  refine j_sld X S ha (by omega) (by omega) (by omega) dL_law_1116 ?_
  refine j_aload_n X dL_law_1117 rfl ?_
  refine j_iload_n X dL_law_1118 rfl ?_
  refine j_iconst X dL_law_1119 ?_
  refine j_iadd X dL_law_1120 ?_
  refine j_sld X S ha (by omega) (by omega) (by omega) dL_law_1121 ?_
  obtain ⟨P1, c1, n1⟩ := jx_way h hB (sx_rg (xs := xs) (i := ((5 * j : Nat) : Int) + 1)) (sx_rg (xs := xs) (i := ((5 * j : Nat) : Int) + 2))
  refine jc_Vi (avs := [vI (sxv xs (((5 * j : Nat) : Int) + 1)), vI (sxv xs (((5 * j : Nat) : Int) + 2))]) (st := []) X (K.cs (by decide) (by decide)) mf_X9_way mv_X9_way ml_L_138 (by decide) rfl rfl rfl rfl (Nat.le_of_ble_eq_true rfl) dL_law_1122 c1 (fun a w1 hp1 => ?_)
  obtain ⟨P2, c2, n2⟩ := n1 a w1 hp1
  refine j_aload_n X dL_law_1125 rfl ?_
  refine j_aload_n X dL_law_1126 rfl ?_
  refine j_iload_n X dL_law_1127 rfl ?_
  refine j_iconst X dL_law_1128 ?_
  refine j_iadd X dL_law_1129 ?_
  refine j_sld X S ha (by omega) (by omega) (by omega) dL_law_1130 ?_
  refine j_aload_n X dL_law_1131 rfl ?_
  refine j_iload_n X dL_law_1132 rfl ?_
  refine j_iconst X dL_law_1133 ?_
  refine j_iadd X dL_law_1134 ?_
  refine j_sld X S ha (by omega) (by omega) (by omega) dL_law_1135 ?_
  refine jc_Vi (avs := [vI (sxv xs (((5 * j : Nat) : Int) + 1)), vI (sxv xs (((5 * j : Nat) : Int) + 2))]) (st := [vI a]) X (K.cs (by decide) (by decide)) mf_X10_way mv_X10_way ml_L_141 (by decide) rfl rfl rfl rfl (Nat.le_of_ble_eq_true rfl) dL_law_1136 c2 (fun b2 w2 hp2 => ?_)
  obtain ⟨e9, hj⟩ := n2 b2 w2 hp2
  subst e9
  exact j_eqS (tgt := 1190) X dL_law_1139 (by decide) (k w2 hj)
set_option maxHeartbeats 1000000 in
set_option maxRecDepth 20000 in
theorem lc_30 {κ : KT} {ad : Nat → Nat} {b L : Nat} {xs : Nat → Int32} {n j : Nat} {B : Int} {w : wd} (X : Okk κ cL_law RL 30) (K : LwK κ b) (S : ScrOk κ b L xs) (ha : ad 1000 = b) (hL : L ≤ 2560) (hj : 5 * j + 5 ≤ L) (h : JI n B w) (hB : B + 3169056 ≤ 2000000000) (k : ∀ w', JN B w' → J κ LAY ad 79 38217 1190 [some (vR 1000), some (vR 0), some (vR 54), some (vI ((5 * j : Nat) : Int))] [] w') : J κ LAY ad 79 38217 1144 [some (vR 1000), some (vR 0), some (vR 54), some (vI ((5 * j : Nat) : Int))] [] w := by
  refine j_aload_n X dL_law_1144 rfl ?_
  refine j_aload_n X dL_law_1145 rfl ?_
  refine j_iload_n X dL_law_1146 rfl ?_
  refine j_iconst X dL_law_1147 ?_
  refine j_iadd X dL_law_1148 ?_
  refine j_sld X S ha (by omega) (by omega) (by omega) dL_law_1149 ?_
  obtain ⟨P1, c1, n1⟩ := jx_ways h hB (sx_rg (xs := xs) (i := ((5 * j : Nat) : Int) + 1))
  refine jc_Vi (avs := [vI (sxv xs (((5 * j : Nat) : Int) + 1))]) (st := []) X (K.cs (by decide) (by decide)) mf_X9_ways mv_X9_ways ml_L_142 (by decide) rfl rfl rfl rfl (Nat.le_of_ble_eq_true rfl) dL_law_1150 c1 (fun a w1 hp1 => ?_)
  obtain ⟨P2, c2, n2⟩ := n1 a w1 hp1
  refine j_aload_n X dL_law_1153 rfl ?_
  refine j_aload_n X dL_law_1154 rfl ?_
  refine j_iload_n X dL_law_1155 rfl ?_
  refine j_iconst X dL_law_1156 ?_
  refine j_iadd X dL_law_1157 ?_
  refine j_sld X S ha (by omega) (by omega) (by omega) dL_law_1158 ?_
  refine jc_Vi (avs := [vI (sxv xs (((5 * j : Nat) : Int) + 1))]) (st := [vI a]) X (K.cs (by decide) (by decide)) mf_X10_ways mv_X10_ways ml_L_145 (by decide) rfl rfl rfl rfl (Nat.le_of_ble_eq_true rfl) dL_law_1159 c2 (fun b2 w2 hp2 => ?_)
  obtain ⟨e9, hj⟩ := n2 b2 w2 hp2
  subst e9
  exact j_eqS (tgt := 1190) X dL_law_1162 (by decide) (k w2 hj)
set_option maxHeartbeats 1000000 in
set_option maxRecDepth 20000 in
theorem lc_31 {κ : KT} {ad : Nat → Nat} {b L : Nat} {xs : Nat → Int32} {n j : Nat} {B : Int} {w : wd} (X : Okk κ cL_law RL 30) (K : LwK κ b) (S : ScrOk κ b L xs) (ha : ad 1000 = b) (hL : L ≤ 2560) (hj : 5 * j + 5 ≤ L) (h : JI n B w) (hB : B + 3169056 ≤ 2000000000) (k : ∀ w', JN B w' → J κ LAY ad 79 38217 1190 [some (vR 1000), some (vR 0), some (vR 54), some (vI ((5 * j : Nat) : Int))] [] w') : J κ LAY ad 79 38217 1167 [some (vR 1000), some (vR 0), some (vR 54), some (vI ((5 * j : Nat) : Int))] [] w := by
  refine j_aload_n X dL_law_1167 rfl ?_
  refine j_aload_n X dL_law_1168 rfl ?_
  refine j_iload_n X dL_law_1169 rfl ?_
  refine j_iconst X dL_law_1170 ?_
  refine j_iadd X dL_law_1171 ?_
  refine j_sld X S ha (by omega) (by omega) (by omega) dL_law_1172 ?_
  obtain ⟨P1, c1, n1⟩ := jx_count h (sx_rg (xs := xs) (i := ((5 * j : Nat) : Int) + 1))
  refine jc_Vi (avs := [vI (sxv xs (((5 * j : Nat) : Int) + 1))]) (st := []) X (K.cs (by decide) (by decide)) mf_X9_count mv_X9_count ml_L_146 (by decide) rfl rfl rfl rfl (Nat.le_of_ble_eq_true rfl) dL_law_1173 c1 (fun a w1 hp1 => ?_)
  obtain ⟨P2, c2, n2⟩ := n1 a w1 hp1
  refine j_aload_n X dL_law_1176 rfl ?_
  refine j_aload_n X dL_law_1177 rfl ?_
  refine j_iload_n X dL_law_1178 rfl ?_
  refine j_iconst X dL_law_1179 ?_
  refine j_iadd X dL_law_1180 ?_
  refine j_sld X S ha (by omega) (by omega) (by omega) dL_law_1181 ?_
  refine jc_Vi (avs := [vI (sxv xs (((5 * j : Nat) : Int) + 1))]) (st := [vI a]) X (K.cs (by decide) (by decide)) mf_X10_count mv_X10_count ml_L_149 (by decide) rfl rfl rfl rfl (Nat.le_of_ble_eq_true rfl) dL_law_1182 c2 (fun b2 w2 hp2 => ?_)
  obtain ⟨e9, hj⟩ := n2 b2 w2 hp2
  subst e9
  exact j_eqS (tgt := 1190) X dL_law_1185 (by decide) (k w2 hj)
