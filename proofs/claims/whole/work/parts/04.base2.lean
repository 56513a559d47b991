/-! ===== the light judgement: fields, arrays, ends, calls ===== -/
def FL (own : String) (idx : Nat) (C : String) (T : u_T) (N j : Nat) : Prop := j < N ∧ (∀ w ∈ u_ws C T N, w ∈ TB) ∧ (Cond.fieldLink own idx (T j).1 (T j).2.1 (T j).2.2.1 ∈ TB ∨ ∃ host, Cond.fieldLinkNest own idx (T j).1 (T j).2.1 (T j).2.2.1 host ∈ nestW)
def FF (own : String) (idx ci j : Nat) : Prop := ∃ (C : String) (T : u_T) (N : Nat), vwCl[ci]? = some (C, T, N) ∧ FL own idx C T N j
def FP (own : String) (idx ci j : Nat) (ty : FieldType) (fin : Bool) : Prop := ∃ (C : String) (T : u_T) (N : Nat) (ty0 : Nat → FieldType), vwCl[ci]? = some (C, T, N) ∧ FL own idx C T N j ∧ (∀ k, k < N → parseFieldDescriptor (T k).2.2.1 = some (ty0 k)) ∧ (∀ a, a < N → ∀ b, b < N → a ≠ b → (T a).2.1 ≠ (T b).2.1) ∧ (T j).2.2.2 = fin ∧ parseFieldDescriptor (T j).2.2.1 = some ty ∧ (fin = true → (T j).1 = own)
section JROWS2
variable {κ : KT} {cc : ByteArray} {own : String} {fr : Nat} {lay : lyT} {ad : Nat → Nat} {cn sn pc : Nat} {ls : List (Option av)} {st : List av} {w : wd}
theorem zb_nar {a : Int} (h : a = 0 ∨ a = 1) : narrow .boolean (.int (zI a)) = .int (zI a) := by
  rcases h with rfl | rfl <;> rfl
theorem zb_fit {a : Int} (h : a = 0 ∨ a = 1) : fits .boolean (.int (zI a)) = true := by
  rcases h with rfl | rfl <;> rfl
theorem zb_vp {a : Int} (h : a = 0 ∨ a = 1) : vp_nar .boolean (zI a) = zI a := by
  rcases h with rfl | rfl <;> rfl
theorem j_getI (X : Okk κ cc own fr) {idx o ci j : Nat} {fs : List (Option (Option Nat))} (hd : decode cc pc = .ok (.getfield idx, 3)) (hf : FF own idx ci j) (hl : lay[o]? = some (.inl (ci, fs))) (hj : fs[j]? = some (none)) (k : J κ lay ad cn sn (pc + 3) ls (vI (w o j) :: st) w) : J κ lay ad cn sn pc ls (vR o :: st) w := by
  obtain ⟨p, l, e, R, s, m, args, below, meth, c, D, cI, cZ, A, Q⟩ := κ
  obtain ⟨hx, hb, hown, hts, hK, hN, hA, hlk, hfr, hlo⟩ := X
  intro H locs arr hP hD hS hL
  obtain ⟨C, T, N, hc, hjN, hin, hl1 | ⟨host, hl1⟩⟩ := hf
  · exact va_get hx hb hts hin hown hK hP o (cells_at hl) hc j hjN (hts _ hl1) (fun _ q => q) (by rw [List.getElem?_mapIdx, hj]; rfl) hd (k H locs arr hP hD hS hL)
  · exact va_getN hx hb hts hin hown hK hP o (cells_at hl) hc j hjN (va_Nw.use (nest_tab (nestW_is _ hl1)) (hN _ hl1)) (fun _ q => q) (by rw [List.getElem?_mapIdx, hj]; rfl) hd (k H locs arr hP hD hS hL)
theorem j_getR (X : Okk κ cc own fr) {idx o ci j : Nat} {fs : List (Option (Option Nat))} {r : Nat} (hd : decode cc pc = .ok (.getfield idx, 3)) (hf : FF own idx ci j) (hl : lay[o]? = some (.inl (ci, fs))) (hj : fs[j]? = some (some (some r))) (k : J κ lay ad cn sn (pc + 3) ls (vR r :: st) w) : J κ lay ad cn sn pc ls (vR o :: st) w := by
  obtain ⟨p, l, e, R, s, m, args, below, meth, c, D, cI, cZ, A, Q⟩ := κ
  obtain ⟨hx, hb, hown, hts, hK, hN, hA, hlk, hfr, hlo⟩ := X
  intro H locs arr hP hD hS hL
  obtain ⟨C, T, N, hc, hjN, hin, hl1 | ⟨host, hl1⟩⟩ := hf
  · exact va_get hx hb hts hin hown hK hP o (cells_at hl) hc j hjN (hts _ hl1) (fun _ q => q) (by rw [List.getElem?_mapIdx, hj]; rfl) hd (k H locs arr hP hD hS hL)
  · exact va_getN hx hb hts hin hown hK hP o (cells_at hl) hc j hjN (va_Nw.use (nest_tab (nestW_is _ hl1)) (hN _ hl1)) (fun _ q => q) (by rw [List.getElem?_mapIdx, hj]; rfl) hd (k H locs arr hP hD hS hL)
theorem j_getN (X : Okk κ cc own fr) {idx o ci j : Nat} {fs : List (Option (Option Nat))} (hd : decode cc pc = .ok (.getfield idx, 3)) (hf : FF own idx ci j) (hl : lay[o]? = some (.inl (ci, fs))) (hj : fs[j]? = some (some none)) (k : J κ lay ad cn sn (pc + 3) ls (vN :: st) w) : J κ lay ad cn sn pc ls (vR o :: st) w := by
  obtain ⟨p, l, e, R, s, m, args, below, meth, c, D, cI, cZ, A, Q⟩ := κ
  obtain ⟨hx, hb, hown, hts, hK, hN, hA, hlk, hfr, hlo⟩ := X
  intro H locs arr hP hD hS hL
  obtain ⟨C, T, N, hc, hjN, hin, hl1 | ⟨host, hl1⟩⟩ := hf
  · exact va_get hx hb hts hin hown hK hP o (cells_at hl) hc j hjN (hts _ hl1) (fun _ q => q) (by rw [List.getElem?_mapIdx, hj]; rfl) hd (k H locs arr hP hD hS hL)
  · exact va_getN hx hb hts hin hown hK hP o (cells_at hl) hc j hjN (va_Nw.use (nest_tab (nestW_is _ hl1)) (hN _ hl1)) (fun _ q => q) (by rw [List.getElem?_mapIdx, hj]; rfl) hd (k H locs arr hP hD hS hL)
theorem j_putI (X : Okk κ cc own fr) {idx o ci j : Nat} {a : Int} {fs : List (Option (Option Nat))} (hd : decode cc pc = .ok (.putfield idx, 3)) (hf : FP own idx ci j .int false) (hl : lay[o]? = some (.inl (ci, fs))) (hj : fs[j]? = some none) (k : J κ lay ad cn sn (pc + 3) ls st (wst w o j a)) : J κ lay ad cn sn pc ls (vI a :: vR o :: st) w := by
  obtain ⟨p, l, e, R, s, m, args, below, meth, c, D, cI, cZ, A, Q⟩ := κ
  obtain ⟨hx, hb, hown, hts, hK, hN, hA, hlk, hfr, hlo⟩ := X
  intro H locs arr hP hD hS hL
  obtain ⟨C, T, N, ty0, hc, ⟨hjN, hin, hl1 | ⟨host, hl1⟩⟩, hty, hnm, hfin, hpd, -⟩ := hf
  · refine va_put hx hb hts hin ty0 hty hnm hown hK hP hD hS o (cells_at hl) hc j hjN (hts _ hl1) (fun _ q => q) hfin hpd rfl rfl (by rw [List.length_mapIdx]; exact (List.getElem?_eq_some_iff.mp hj).1) hd (fun H1 locs1 hP1 hD1 hS1 => ?_)
    have e1 := cel_put (ad := ad) (cI := cI) (cZ := cZ) (f := w o) (ci := ci) (a := a) hj
    have e2 := cells_set (ad := ad) (cI := cI) (cZ := cZ) (w := w) (j := j) (a := a) hl
    rw [e1] at e2
    exact k H1 locs1 arr (by rw [e2]; exact hP1) (by rw [e2]; exact hD1) hS1 hL
  · refine va_putN hx hb hts hin ty0 hty hnm hown hK hP hD hS o (cells_at hl) hc j hjN (va_Nw.use (nest_tab (nestW_is _ hl1)) (hN _ hl1)) (fun _ q => q) hfin hpd rfl rfl (by rw [List.length_mapIdx]; exact (List.getElem?_eq_some_iff.mp hj).1) hd (fun H1 locs1 hP1 hD1 hS1 => ?_)
    have e1 := cel_put (ad := ad) (cI := cI) (cZ := cZ) (f := w o) (ci := ci) (a := a) hj
    have e2 := cells_set (ad := ad) (cI := cI) (cZ := cZ) (w := w) (j := j) (a := a) hl
    rw [e1] at e2
    exact k H1 locs1 arr (by rw [e2]; exact hP1) (by rw [e2]; exact hD1) hS1 hL
theorem j_putZ (X : Okk κ cc own fr) {idx o ci j : Nat} {a : Int} {fs : List (Option (Option Nat))} (hd : decode cc pc = .ok (.putfield idx, 3)) (hf : FP own idx ci j .boolean false) (hl : lay[o]? = some (.inl (ci, fs))) (hj : fs[j]? = some none) (hz : a = 0 ∨ a = 1) (k : J κ lay ad cn sn (pc + 3) ls st (wst w o j a)) : J κ lay ad cn sn pc ls (vI a :: vR o :: st) w := by
  obtain ⟨p, l, e, R, s, m, args, below, meth, c, D, cI, cZ, A, Q⟩ := κ
  obtain ⟨hx, hb, hown, hts, hK, hN, hA, hlk, hfr, hlo⟩ := X
  intro H locs arr hP hD hS hL
  obtain ⟨C, T, N, ty0, hc, ⟨hjN, hin, hl1 | ⟨host, hl1⟩⟩, hty, hnm, hfin, hpd, -⟩ := hf
  · refine va_put hx hb hts hin ty0 hty hnm hown hK hP hD hS o (cells_at hl) hc j hjN (hts _ hl1) (fun _ q => q) hfin hpd (zb_nar hz) (zb_fit hz) (by rw [List.length_mapIdx]; exact (List.getElem?_eq_some_iff.mp hj).1) hd (fun H1 locs1 hP1 hD1 hS1 => ?_)
    have e1 := cel_put (ad := ad) (cI := cI) (cZ := cZ) (f := w o) (ci := ci) (a := a) hj
    have e2 := cells_set (ad := ad) (cI := cI) (cZ := cZ) (w := w) (j := j) (a := a) hl
    rw [e1] at e2
    exact k H1 locs1 arr (by rw [e2]; exact hP1) (by rw [e2]; exact hD1) hS1 hL
  · refine va_putN hx hb hts hin ty0 hty hnm hown hK hP hD hS o (cells_at hl) hc j hjN (va_Nw.use (nest_tab (nestW_is _ hl1)) (hN _ hl1)) (fun _ q => q) hfin hpd (zb_nar hz) (zb_fit hz) (by rw [List.length_mapIdx]; exact (List.getElem?_eq_some_iff.mp hj).1) hd (fun H1 locs1 hP1 hD1 hS1 => ?_)
    have e1 := cel_put (ad := ad) (cI := cI) (cZ := cZ) (f := w o) (ci := ci) (a := a) hj
    have e2 := cells_set (ad := ad) (cI := cI) (cZ := cZ) (w := w) (j := j) (a := a) hl
    rw [e1] at e2
    exact k H1 locs1 arr (by rw [e2]; exact hP1) (by rw [e2]; exact hD1) hS1 hL
theorem j_iald (X : Okk κ cc own fr) {o n : Nat} {i : Int} (hd : decode cc pc = .ok (.iaload, 1)) (hl : lay[o]? = some (.inr (false, n))) (h0 : 0 ≤ i) (h1 : i < n) (hn : n < 2147483648) (k : J κ lay ad cn sn (pc + 1) ls (vI (w o i.toNat) :: st) w) : J κ lay ad cn sn pc ls (vI i :: vR o :: st) w := by
  obtain ⟨p, l, e, R, s, m, args, below, meth, c, D, cI, cZ, A, Q⟩ := κ
  obtain ⟨hx, hb, hown, hts, hK, hN, hA, hlk, hfr, hlo⟩ := X
  intro H locs arr hP hD hS hL
  refine va_iald hx hb hK hP o 0 (cells_at hl) rfl (zI_in h0 h1 hn) hd ?_
  rw [zI_cl h0 (by omega)]
  exact k H locs arr hP hD hS hL
theorem j_zald (X : Okk κ cc own fr) {o n : Nat} {i : Int} (hd : decode cc pc = .ok (.baload, 1)) (hl : lay[o]? = some (.inr (true, n))) (h0 : 0 ≤ i) (h1 : i < n) (hn : n < 2147483648) (k : J κ lay ad cn sn (pc + 1) ls (vI (w o i.toNat) :: st) w) : J κ lay ad cn sn pc ls (vI i :: vR o :: st) w := by
  obtain ⟨p, l, e, R, s, m, args, below, meth, c, D, cI, cZ, A, Q⟩ := κ
  obtain ⟨hx, hb, hown, hts, hK, hN, hA, hlk, hfr, hlo⟩ := X
  intro H locs arr hP hD hS hL
  refine va_zald hx hb hK hP o 1 (cells_at hl) rfl (zI_in h0 h1 hn) hd ?_
  rw [zI_cl h0 (by omega)]
  exact k H locs arr hP hD hS hL
theorem j_iast (X : Okk κ cc own fr) {o n : Nat} {i a : Int} (hd : decode cc pc = .ok (.iastore, 1)) (hl : lay[o]? = some (.inr (false, n))) (h0 : 0 ≤ i) (h1 : i < n) (hn : n < 2147483648) (k : J κ lay ad cn sn (pc + 1) ls st (wst w o i.toNat a)) : J κ lay ad cn sn pc ls (vI a :: vI i :: vR o :: st) w := by
  obtain ⟨p, l, e, R, s, m, args, below, meth, c, D, cI, cZ, A, Q⟩ := κ
  obtain ⟨hx, hb, hown, hts, hK, hN, hA, hlk, hfr, hlo⟩ := X
  intro H locs arr hP hD hS hL
  refine va_iast hx hb hK hP hD hS o 0 (cells_at hl) rfl (zI_in h0 h1 hn) hd (fun H1 locs1 hP1 hD1 hS1 => ?_)
  rw [zI_cl h0 (by omega)] at hP1 hD1
  have e := cel_ast (ad := ad) (cI := cI) (cZ := cZ) (f := w o) (b := false) (n := n) (j := i.toNat) (a := a)
  have e2 := cells_set (ad := ad) (cI := cI) (cZ := cZ) (w := w) (j := i.toNat) (a := a) hl
  rw [e] at e2
  exact k H1 locs1 arr (by rw [e2]; exact hP1) (by rw [e2]; exact hD1) hS1 hL
theorem j_zast (X : Okk κ cc own fr) {o n : Nat} {i a : Int} (hd : decode cc pc = .ok (.bastore, 1)) (hl : lay[o]? = some (.inr (true, n))) (h0 : 0 ≤ i) (h1 : i < n) (hn : n < 2147483648) (hz : a = 0 ∨ a = 1) (k : J κ lay ad cn sn (pc + 1) ls st (wst w o i.toNat a)) : J κ lay ad cn sn pc ls (vI a :: vI i :: vR o :: st) w := by
  obtain ⟨p, l, e, R, s, m, args, below, meth, c, D, cI, cZ, A, Q⟩ := κ
  obtain ⟨hx, hb, hown, hts, hK, hN, hA, hlk, hfr, hlo⟩ := X
  intro H locs arr hP hD hS hL
  refine va_zast hx hb hK hP hD hS o 1 (cells_at hl) rfl (zI_in h0 h1 hn) hd (fun H1 locs1 hP1 hD1 hS1 => ?_)
  rw [zb_vp hz] at hP1 hD1
  rw [zI_cl h0 (by omega)] at hP1 hD1
  have e := cel_ast (ad := ad) (cI := cI) (cZ := cZ) (f := w o) (b := true) (n := n) (j := i.toNat) (a := a)
  have e2 := cells_set (ad := ad) (cI := cI) (cZ := cZ) (w := w) (j := i.toNat) (a := a) hl
  rw [e] at e2
  exact k H1 locs1 arr (by rw [e2]; exact hP1) (by rw [e2]; exact hD1) hS1 hL
theorem j_alen (X : Okk κ cc own fr) {o n : Nat} {b : Bool} (hd : decode cc pc = .ok (.arraylength, 1)) (hl : lay[o]? = some (.inr (b, n))) (k : J κ lay ad cn sn (pc + 1) ls (vI (n : Int) :: st) w) : J κ lay ad cn sn pc ls (vR o :: st) w := by
  obtain ⟨p, l, e, R, s, m, args, below, meth, c, D, cI, cZ, A, Q⟩ := κ
  obtain ⟨hx, hb, hown, hts, hK, hN, hA, hlk, hfr, hlo⟩ := X
  intro H locs arr hP hD hS hL
  cases b
  · exact va_alen (v := zI (n : Int)) hx hb hK hP o 0 (cells_at hl) rfl Int32.ofInt_eq_ofNat.symm hd (k H locs arr hP hD hS hL)
  · exact va_alen (v := zI (n : Int)) hx hb hK hP o 1 (cells_at hl) rfl Int32.ofInt_eq_ofNat.symm hd (k H locs arr hP hD hS hL)
def bW (D : va_G) (cI cZ : ClassId) (lay : lyT) (ad : Nat → Nat) (A : Nat → Prop) (u : wd) (t : State) : Prop := va_P D vwCl (cells lay ad cI cZ u) t.heap ∧ va_K D vwCl [(cI, .int), (cZ, .boolean)] t ∧ va_D A (cells lay ad cI cZ u)
def QI (D : va_G) (cI cZ : ClassId) (lay : lyT) (ad : Nat → Nat) (A : Nat → Prop) (P : Int → wd → Prop) : Array Value → State → Outcome → State → Prop := va_Qi (fun r u => ∃ a, r = zI a ∧ P a u) (bW D cI cZ lay ad A) A
def QV (D : va_G) (cI cZ : ClassId) (lay : lyT) (ad : Nat → Nat) (A : Nat → Prop) (P : wd → Prop) : Array Value → State → Outcome → State → Prop := va_Qv P (bW D cI cZ lay ad A) A
def ReI (κ : KT) (lay : lyT) (ad : Nat → Nat) (ty : FieldType) (P : Int → wd → Prop) : Prop := match κ with
  | (p, l, e, R, s, m, args, below, meth, c, D, cI, cZ, A, Q) => meth.sig.returnType = some ty ∧ Q = MQ below (QI D cI cZ lay ad A P) args s 0 0 A
def ReV (κ : KT) (lay : lyT) (ad : Nat → Nat) (P : wd → Prop) : Prop := match κ with
  | (p, l, e, R, s, m, args, below, meth, c, D, cI, cZ, A, Q) => meth.sig.returnType = none ∧ Q = MQ below (QV D cI cZ lay ad A P) args s 0 0 A
theorem j_ireturn (X : Okk κ cc own fr) {a : Int} {P : Int → wd → Prop} (hR : ReI κ lay ad .int P) (hd : decode cc pc = .ok (.ireturn, 1)) (hp : P a w) : J κ lay ad 0 0 pc ls [vI a] w := by
  obtain ⟨p, l, e, R, s, m, args, below, meth, c, D, cI, cZ, A, Q⟩ := κ
  obtain ⟨hx, hb, hown, hts, hK, hN, hA, hlk, hfr, hlo⟩ := X
  intro H locs arr hP hD hS hL
  obtain ⟨hr, rfl⟩ := hR
  exact W.iret hx hb hr (fun t ht hW => ⟨⟨zI a, w, rfl, ⟨a, rfl, hp⟩, by rw [ht]; exact hP, va_K.moved hW.alike hK, hD⟩, hS.F ht⟩) hS.2.2 hd hlk
theorem j_zreturn (X : Okk κ cc own fr) {a : Int} {P : Int → wd → Prop} (hR : ReI κ lay ad .boolean P) (hd : decode cc pc = .ok (.ireturn, 1)) (hz : a = 0 ∨ a = 1) (hp : P a w) : J κ lay ad 0 0 pc ls [vI a] w := by
  obtain ⟨p, l, e, R, s, m, args, below, meth, c, D, cI, cZ, A, Q⟩ := κ
  obtain ⟨hx, hb, hown, hts, hK, hN, hA, hlk, hfr, hlo⟩ := X
  intro H locs arr hP hD hS hL
  obtain ⟨hr, rfl⟩ := hR
  exact W.zret hx hb hr (zb_nar hz) (fun t ht hW => ⟨⟨zI a, w, rfl, ⟨a, rfl, hp⟩, by rw [ht]; exact hP, va_K.moved hW.alike hK, hD⟩, hS.F ht⟩) hS.2.2 hd hlk
theorem j_return (X : Okk κ cc own fr) {P : wd → Prop} (hR : ReV κ lay ad P) (hd : decode cc pc = .ok (.return_, 1)) (hp : P w) : J κ lay ad 0 0 pc ls [] w := by
  obtain ⟨p, l, e, R, s, m, args, below, meth, c, D, cI, cZ, A, Q⟩ := κ
  obtain ⟨hx, hb, hown, hts, hK, hN, hA, hlk, hfr, hlo⟩ := X
  intro H locs arr hP hD hS hL
  obtain ⟨hr, rfl⟩ := hR
  exact W.vret hx hb hr (fun t ht hW => ⟨⟨w, rfl, hp, by rw [ht]; exact hP, va_K.moved hW.alike hK, hD⟩, hS.F ht⟩) hS.2.2 hd hlk
end JROWS2
def rmD (d : Nat) : Room := { frames := d, cells := 0, slots := 0, locals := 40 * d }
def preW (D : va_G) (cI cZ : ClassId) (lay : lyT) (ad : Nat → Nat) (sz : Nat) (w : wd) (avs : List av) : Array Value → State → Prop := va_Pc (avs.map (cv ad)) (fun U => U.heap.size = sz ∧ va_P D vwCl (cells lay ad cI cZ w) U.heap ∧ va_K D vwCl [(cI, .int), (cZ, .boolean)] U ∧ va_D (fun _ => True) (cells lay ad cI cZ w) ∧ Nst U)
theorem preW_blind {D : va_G} {cI cZ : ClassId} {lay : lyT} {ad : Nat → Nat} {sz : Nat} {w : wd} {avs : List av} : FrameBlind (preW D cI cZ lay ad sz w avs) := fun a U g mk q => by
  obtain ⟨q0, q1, qP, qK, qD, qN⟩ := q
  exact ⟨q0, q1, qP, va_K.moved (u := U) (U := U.calling g mk a) (Vm.Alike.refl U.vm) qK, qD, Nst.same (s := U) (U := U.calling g mk a) rfl qN⟩
def wsY (y : MethodName) (cc : ByteArray) (nL : Nat) (rt : Option FieldType) : List Cond := Cond.code y cc nL rt :: TB
def CalI (y : MethodName) (cc : ByteArray) (nL : Nat) (ty : FieldType) (d : Nat) (lay : lyT) (w : wd) (avs : List av) (P : Int → wd → Prop) : Prop := ∀ (l : Launch) (D : va_G) (cI cZ : ClassId) (ad : Nat → Nat) (sz : Nat), Met l y (wsY y cc nL (some ty)) (rmD d) (preW D cI cZ lay ad sz w avs) (QI D cI cZ lay ad (va_A (cells lay ad cI cZ w) sz) P) 0 0 (va_A (cells lay ad cI cZ w) sz)
def CalV (y : MethodName) (cc : ByteArray) (nL : Nat) (d : Nat) (lay : lyT) (w : wd) (avs : List av) (P : wd → Prop) : Prop := ∀ (l : Launch) (D : va_G) (cI cZ : ClassId) (ad : Nat → Nat) (sz : Nat), Met l y (wsY y cc nL none) (rmD d) (preW D cI cZ lay ad sz w avs) (QV D cI cZ lay ad (va_A (cells lay ad cI cZ w) sz) P) 0 0 (va_A (cells lay ad cI cZ w) sz)
/-- the entry's locals -/
def ent (vs : List av) : List (Option av) := match vs with
  | [] => []
  | .inr (.inl a) :: r => some (vL a) :: none :: ent r
  | v :: r => some v :: ent r
theorem ent_arg {ad : Nat → Nat} : ∀ (vs : List av) (i k : Nat) (v : av), (ent vs)[k]? = some (some v) → (i + k, cv ad v) ∈ lv_args i (vs.map (cv ad))
  | [], i, k, v, h => by simp [ent] at h
  | .inl a :: r, i, k, v, h => by
    simp only [ent] at h
    simp only [List.map_cons, lv_args]
    rw [if_neg (by simp [cv, Value.category])]
    cases k with
    | zero => simp at h; subst h; exact List.mem_cons_self
    | succ k =>
      rw [List.getElem?_cons_succ] at h
      have := ent_arg (ad := ad) r (i + 1) k v h
      rw [show i + (k + 1) = i + 1 + k by omega]
      exact List.mem_cons_of_mem _ this
  | .inr (.inl a) :: r, i, k, v, h => by
    simp only [ent] at h
    simp only [List.map_cons, lv_args]
    rw [if_pos (by simp [cv, Value.category])]
    match k, h with
    | 0, h => simp at h; subst h; exact List.mem_cons_self
    | 1, h => simp at h
    | k + 2, h =>
      rw [List.getElem?_cons_succ, List.getElem?_cons_succ] at h
      have := ent_arg (ad := ad) r (i + 2) k v h
      rw [show i + (k + 2) = i + 2 + k by omega]
      exact List.mem_cons_of_mem _ this
  | .inr (.inr q) :: r, i, k, v, h => by
    simp only [ent] at h
    simp only [List.map_cons, lv_args]
    rw [if_neg (by cases q <;> simp [cv, va_rf, Value.category])]
    cases k with
    | zero => simp at h; subst h; exact List.mem_cons_self
    | succ k =>
      rw [List.getElem?_cons_succ] at h
      have := ent_arg (ad := ad) r (i + 1) k v h
      rw [show i + (k + 1) = i + 1 + k by omega]
      exact List.mem_cons_of_mem _ this
theorem ent_len {ad : Nat → Nat} : ∀ (vs : List av), (lg_sl (vs.map (cv ad))).length = (ent vs).length
  | [] => rfl
  | .inl a :: r => by
    have := ent_len (ad := ad) r
    simp [lg_sl, cv, Value.category, ent] at this ⊢
    omega
  | .inr (.inl a) :: r => by
    have := ent_len (ad := ad) r
    simp [lg_sl, cv, Value.category, ent] at this ⊢
    omega
  | .inr (.inr q) :: r => by
    have := ent_len (ad := ad) r
    cases q <;> (simp [lg_sl, cv, va_rf, Value.category, ent] at this ⊢; omega)
def entL (n : Nat) (vs : List av) : List (Option av) := ent vs ++ List.replicate (n - (ent vs).length) none
theorem entL_has {ad : Nat → Nat} {n : Nat} {vs : List av} (h : (ent vs).length ≤ n) : hasL ad ((lg_sl (vs.map (cv ad)) ++ List.replicate (n - (lg_sl (vs.map (cv ad))).length) Slot.unset).toArray) n (entL n vs) := by
  have hl := lv_entry (vs.map (cv ad)) (n := n) (by rw [ent_len]; exact h)
  refine ⟨hl.1, by simp [entL]; omega, hl.2.1, fun k v hk => ?_⟩
  have hk2 : (ent vs)[k]? = some (some v) := by
    rcases Nat.lt_or_ge k (ent vs).length with q | q
    · rw [entL, List.getElem?_append_left q] at hk
      exact hk
    · rw [entL, List.getElem?_append_right q, List.getElem?_replicate] at hk
      split at hk
      · cases hk
      · cases hk
  have := hl.2.2 _ (ent_arg (ad := ad) vs 0 k v hk2)
  simpa using this
theorem calI_intro {y : MethodName} {cc : ByteArray} {nL : Nat} {ty : FieldType} {d : Nat} {lay : lyT} {w : wd} {avs : List av} {P : Int → wd → Prop} (hy : plainName y.cls = true) (hlen : (ent avs).length ≤ nL) {ls : List (Option av)} (hls : entL nL avs = ls) (body : ∀ κ ad, Okk κ cc y.cls d → ReI κ lay ad ty P → J κ lay ad 0 0 0 ls [] w) : CalI y cc nL ty d lay w avs P := by
  intro l D cI cZ ad sz
  refine Met.ofW (cc := cc) (maxL := nL) (ret := some ty) hy rfl ?_
  intro p e s m args below meth c s₁ B hml hv
  obtain ⟨rfl, hsz, hP, hK, hD0, hN⟩ := hv
  have hts := atoms_spec (ws := wsY y cc nL (some ty)) B.pre
  have hD := hD0.self (sz := sz)
  rw [lg_entry_eq]
  have hL := entL_has (ad := ad) (n := nL) (vs := avs) hlen
  rw [hls, ← hml] at hL
  rw [← hml]
  exact body (p, l, e, rmD d, s, m, (avs.map (cv ad)).toArray, below, meth, c, D, cI, cZ, va_A (cells lay ad cI cZ w) sz, MQ below (QI D cI cZ lay ad (va_A (cells lay ad cI cZ w) sz) P) (avs.map (cv ad)).toArray s 0 0 (va_A (cells lay ad cI cZ w) sz)) ad ⟨B.exec, B.bytes, findClass_of_methodNamed B.named, fun w hw => hts w (List.mem_cons_of_mem _ hw), hK, hN, fun q hq => Or.inr (by rw [← hsz]; exact hq), B.notSynchronized, Nat.le_refl _, Nat.le_refl _⟩ ⟨B.returns, rfl⟩ s.heap [] _ hP hD va_S.rf hL
theorem calV_intro {y : MethodName} {cc : ByteArray} {nL : Nat} {d : Nat} {lay : lyT} {w : wd} {avs : List av} {P : wd → Prop} (hy : plainName y.cls = true) (hlen : (ent avs).length ≤ nL) {ls : List (Option av)} (hls : entL nL avs = ls) (body : ∀ κ ad, Okk κ cc y.cls d → ReV κ lay ad P → J κ lay ad 0 0 0 ls [] w) : CalV y cc nL d lay w avs P := by
  intro l D cI cZ ad sz
  refine Met.ofW (cc := cc) (maxL := nL) (ret := none) hy rfl ?_
  intro p e s m args below meth c s₁ B hml hv
  obtain ⟨rfl, hsz, hP, hK, hD0, hN⟩ := hv
  have hts := atoms_spec (ws := wsY y cc nL none) B.pre
  have hD := hD0.self (sz := sz)
  rw [lg_entry_eq]
  have hL := entL_has (ad := ad) (n := nL) (vs := avs) hlen
  rw [hls, ← hml] at hL
  rw [← hml]
  exact body (p, l, e, rmD d, s, m, (avs.map (cv ad)).toArray, below, meth, c, D, cI, cZ, va_A (cells lay ad cI cZ w) sz, MQ below (QV D cI cZ lay ad (va_A (cells lay ad cI cZ w) sz) P) (avs.map (cv ad)).toArray s 0 0 (va_A (cells lay ad cI cZ w) sz)) ad ⟨B.exec, B.bytes, findClass_of_methodNamed B.named, fun w hw => hts w (List.mem_cons_of_mem _ hw), hK, hN, fun q hq => Or.inr (by rw [← hsz]; exact hq), B.notSynchronized, Nat.le_refl _, Nat.le_refl _⟩ ⟨B.returns, rfl⟩ s.heap [] _ hP hD va_S.rf hL
theorem gTB {y : MethodName} {cc : ByteArray} {nL : Nat} {rt : Option FieldType} (h : Cond.code y cc nL rt ∈ TB) : GoodIn TB (wsY y cc nL rt) := fun w hw => (List.mem_cons.mp hw).elim (fun e => by rw [e]; exact tb_good _ h) (tb_good w)
/-- what a call needs of the method that it calls -/
def MF (y : MethodName) (cc : ByteArray) (nL : Nat) (rt : Option FieldType) (n : Nat) : Prop := Cond.code y cc nL rt ∈ TB ∧ Cond.initialized y.cls ∈ TB ∧ (y.cls ≠ "java/lang/invoke/MethodHandle" ∧ y.cls ≠ "java/lang/invoke/VarHandle" ∧ (parseMethodDescriptor y.desc).map (fun d => d.parameters.length) = some n) ∧ nL ≤ 21
def MV (y : MethodName) : Prop := Cond.instanceMethod y ∈ TB ∧ Cond.selects y.cls y y ∈ TB
def ML (own : String) (idx : Nat) (y : MethodName) : Prop := Cond.methodLink own idx y ∈ TB ∨ ∃ host, Cond.methodLinkNest own idx y host ∈ nestW
section JROWS3
variable {κ : KT} {cc : ByteArray} {own : String} {fr : Nat} {lay : lyT} {ad : Nat → Nat} {cn sn pc : Nat} {ls : List (Option av)} {st st0 : List av} {w : wd} {y : MethodName} {cy : ByteArray} {nLy : Nat} {ty : FieldType} {d n idx : Nat} {avs : List av}
def csOk (κ : KT) (cn sn : Nat) : Prop := match κ with
  | (p, l, e, R, s, m, args, below, meth, c, D, cI, cZ, A, Q) => cn ≤ R.cells ∧ sn ≤ R.slots
theorem csOk_0 : csOk κ 0 0 := by
  obtain ⟨p, l, e, R, s, m, args, below, meth, c, D, cI, cZ, A, Q⟩ := κ
  exact ⟨Nat.zero_le _, Nat.zero_le _⟩
theorem jc_Vi (X : Okk κ cc own fr) {P : Int → wd → Prop} (hcs : csOk κ cn sn) (hm : MF y cy nLy (some ty) n) (hv : MV y) {o ci N : Nat} {T : u_T} {fs : List (Option (Option Nat))} (hl : ML own idx y) (hd2 : d + 1 ≤ fr) (hlay : lay[o]? = some (.inl (ci, fs))) (hc : vwCl[ci]? = some (y.cls, T, N)) (hn : avs.length = n) (hst : st0 = avs.reverse ++ vR o :: st) (hr : ((st.map (cv ad)).map fun v => v.category).sum ≤ 8) (hd : decode cc pc = .ok (.invokevirtual idx, 3)) (hM : CalI y cy nLy ty d lay w (vR o :: avs) P) (k : ∀ a w', P a w' → J κ lay ad cn sn (pc + 3) ls (vI a :: st) w') : J κ lay ad cn sn pc ls st0 w := by
  obtain ⟨p, l, e, R, s, m, args, below, meth, c, D, cI, cZ, A, Q⟩ := κ
  obtain ⟨hx, hb, hown, hts, hK, hN, hA, hlk, hfr, hlo⟩ := X
  intro H locs arr hP hD hS hL
  have hFr : ∀ q, va_A (cells lay ad cI cZ w) H.size q → A q := by
    rintro q (⟨i, e0, h⟩ | h)
    · exact hD.2 i (q, e0) h
    · exact hA q (Nat.le_trans hS.1 h)
  have hM1 := hM l D cI cZ ad H.size
  rcases hl with hl1 | ⟨host, hl1⟩
  · have hcB := callB_of (R := R) (own := own) (index := idx) (rm := rmD d) (mc := 0) (ms := 0) n hts (gTB hm.1) rfl rfl rfl (hts _ hm.2.1) (hts _ hl1) hm.2.2.1 ⟨by show d + 1 ≤ R.frames; omega, by show 8 + (nLy + 11) + 40 * d ≤ R.locals; have := hm.2.2.2; omega⟩
    refine va_calli (va_runV (As := avs.map (cv ad)) (rest := st.map (cv ad)) (C := y.cls) (b := ad o) ⟨hx, hb, rfl, hown, hts⟩ hM1 ⟨hcB, hts _ hv.1, hts _ hv.2⟩ ⟨preW_blind, va_recv hK hP hc (cells_at hlay), fun U hU hW => ⟨rfl, by rw [hU], by rw [hU]; exact hP, va_K.moved hW.alike hK, hD.weaken (fun _ _ _ _ => trivial), Nst.warm hW hN⟩⟩ rfl (by rw [List.length_map]; exact hn) hL.1 (by show (st0.map (cv ad)) = _; rw [hst]; simp [List.map_append, List.map_reverse, cv, va_rf]) (lv_room hr) hd ⟨hcs.1, hcs.2⟩) hS (fun q _ h => hFr q h) hFr (fun r u t H1 locs1 ht hvm hw hB hz1 hk1 hS1 => ?_)
    obtain ⟨a, rfl, hp⟩ := hw
    obtain ⟨hP1, hK1, hD1⟩ := hB
    rw [ht] at hP1
    exact k a u hp H1 locs1 arr hP1 (hD1.weaken (fun _ q _ h => hFr q.1 h)) hS1 hL
  · have hcB := va_cnB (R := R) (own := own) (host := host) (index := idx) (rm := rmD d) (mc := 0) (ms := 0) n hts (gTB hm.1) rfl rfl rfl (hN _ hl1) (hts _ hm.2.1) hm.2.2.1 ⟨by show d + 1 ≤ R.frames; omega, by show 8 + (nLy + 11) + 40 * d ≤ R.locals; have := hm.2.2.2; omega⟩
    refine va_calli (va_runVN (As := avs.map (cv ad)) (rest := st.map (cv ad)) (C := y.cls) (b := ad o) ⟨hx, hb, rfl, hown, hts⟩ hM1 ⟨hcB, hts _ hv.1, hts _ hv.2⟩ ⟨preW_blind, va_recv hK hP hc (cells_at hlay), fun U hU hW => ⟨rfl, by rw [hU], by rw [hU]; exact hP, va_K.moved hW.alike hK, hD.weaken (fun _ _ _ _ => trivial), Nst.warm hW hN⟩⟩ rfl (by rw [List.length_map]; exact hn) hL.1 (by show (st0.map (cv ad)) = _; rw [hst]; simp [List.map_append, List.map_reverse, cv, va_rf]) (lv_room hr) hd ⟨hcs.1, hcs.2⟩) hS (fun q _ h => hFr q h) hFr (fun r u t H1 locs1 ht hvm hw hB hz1 hk1 hS1 => ?_)
    obtain ⟨a, rfl, hp⟩ := hw
    obtain ⟨hP1, hK1, hD1⟩ := hB
    rw [ht] at hP1
    exact k a u hp H1 locs1 arr hP1 (hD1.weaken (fun _ q _ h => hFr q.1 h)) hS1 hL
theorem jc_Vv (X : Okk κ cc own fr) {P : wd → Prop} (hcs : csOk κ cn sn) (hm : MF y cy nLy none n) (hv : MV y) {o ci N : Nat} {T : u_T} {fs : List (Option (Option Nat))} (hl : ML own idx y) (hd2 : d + 1 ≤ fr) (hlay : lay[o]? = some (.inl (ci, fs))) (hc : vwCl[ci]? = some (y.cls, T, N)) (hn : avs.length = n) (hst : st0 = avs.reverse ++ vR o :: st) (hr : ((st.map (cv ad)).map fun v => v.category).sum ≤ 8) (hd : decode cc pc = .ok (.invokevirtual idx, 3)) (hM : CalV y cy nLy d lay w (vR o :: avs) P) (k : ∀ w', P w' → J κ lay ad cn sn (pc + 3) ls st w') : J κ lay ad cn sn pc ls st0 w := by
  obtain ⟨p, l, e, R, s, m, args, below, meth, c, D, cI, cZ, A, Q⟩ := κ
  obtain ⟨hx, hb, hown, hts, hK, hN, hA, hlk, hfr, hlo⟩ := X
  intro H locs arr hP hD hS hL
  have hFr : ∀ q, va_A (cells lay ad cI cZ w) H.size q → A q := by
    rintro q (⟨i, e0, h⟩ | h)
    · exact hD.2 i (q, e0) h
    · exact hA q (Nat.le_trans hS.1 h)
  have hM1 := hM l D cI cZ ad H.size
  rcases hl with hl1 | ⟨host, hl1⟩
  · have hcB := callB_of (R := R) (own := own) (index := idx) (rm := rmD d) (mc := 0) (ms := 0) n hts (gTB hm.1) rfl rfl rfl (hts _ hm.2.1) (hts _ hl1) hm.2.2.1 ⟨by show d + 1 ≤ R.frames; omega, by show 8 + (nLy + 11) + 40 * d ≤ R.locals; have := hm.2.2.2; omega⟩
    refine va_callv (va_runV (As := avs.map (cv ad)) (rest := st.map (cv ad)) (C := y.cls) (b := ad o) ⟨hx, hb, rfl, hown, hts⟩ hM1 ⟨hcB, hts _ hv.1, hts _ hv.2⟩ ⟨preW_blind, va_recv hK hP hc (cells_at hlay), fun U hU hW => ⟨rfl, by rw [hU], by rw [hU]; exact hP, va_K.moved hW.alike hK, hD.weaken (fun _ _ _ _ => trivial), Nst.warm hW hN⟩⟩ rfl (by rw [List.length_map]; exact hn) hL.1 (by show (st0.map (cv ad)) = _; rw [hst]; simp [List.map_append, List.map_reverse, cv, va_rf]) (lv_room hr) hd ⟨hcs.1, hcs.2⟩) hS (fun q _ h => hFr q h) hFr (fun u t H1 locs1 ht hvm hw hB hz1 hk1 hS1 => ?_)
    obtain ⟨hP1, hK1, hD1⟩ := hB
    rw [ht] at hP1
    exact k u hw H1 locs1 arr hP1 (hD1.weaken (fun _ q _ h => hFr q.1 h)) hS1 hL
  · have hcB := va_cnB (R := R) (own := own) (host := host) (index := idx) (rm := rmD d) (mc := 0) (ms := 0) n hts (gTB hm.1) rfl rfl rfl (hN _ hl1) (hts _ hm.2.1) hm.2.2.1 ⟨by show d + 1 ≤ R.frames; omega, by show 8 + (nLy + 11) + 40 * d ≤ R.locals; have := hm.2.2.2; omega⟩
    refine va_callv (va_runVN (As := avs.map (cv ad)) (rest := st.map (cv ad)) (C := y.cls) (b := ad o) ⟨hx, hb, rfl, hown, hts⟩ hM1 ⟨hcB, hts _ hv.1, hts _ hv.2⟩ ⟨preW_blind, va_recv hK hP hc (cells_at hlay), fun U hU hW => ⟨rfl, by rw [hU], by rw [hU]; exact hP, va_K.moved hW.alike hK, hD.weaken (fun _ _ _ _ => trivial), Nst.warm hW hN⟩⟩ rfl (by rw [List.length_map]; exact hn) hL.1 (by show (st0.map (cv ad)) = _; rw [hst]; simp [List.map_append, List.map_reverse, cv, va_rf]) (lv_room hr) hd ⟨hcs.1, hcs.2⟩) hS (fun q _ h => hFr q h) hFr (fun u t H1 locs1 ht hvm hw hB hz1 hk1 hS1 => ?_)
    obtain ⟨hP1, hK1, hD1⟩ := hB
    rw [ht] at hP1
    exact k u hw H1 locs1 arr hP1 (hD1.weaken (fun _ q _ h => hFr q.1 h)) hS1 hL
theorem jc_Si (X : Okk κ cc own fr) {P : Int → wd → Prop} (hcs : csOk κ cn sn) (hm : MF y cy nLy (some ty) n) (hv : Cond.static y ∈ TB) (hl : ML own idx y) (hd2 : d + 1 ≤ fr) (hn : avs.length = n) (hst : st0 = avs.reverse ++ st) (hr : ((st.map (cv ad)).map fun v => v.category).sum ≤ 8) (hd : decode cc pc = .ok (.invokestatic idx, 3)) (hM : CalI y cy nLy ty d lay w (avs) P) (k : ∀ a w', P a w' → J κ lay ad cn sn (pc + 3) ls (vI a :: st) w') : J κ lay ad cn sn pc ls st0 w := by
  obtain ⟨p, l, e, R, s, m, args, below, meth, c, D, cI, cZ, A, Q⟩ := κ
  obtain ⟨hx, hb, hown, hts, hK, hN, hA, hlk, hfr, hlo⟩ := X
  intro H locs arr hP hD hS hL
  have hFr : ∀ q, va_A (cells lay ad cI cZ w) H.size q → A q := by
    rintro q (⟨i, e0, h⟩ | h)
    · exact hD.2 i (q, e0) h
    · exact hA q (Nat.le_trans hS.1 h)
  have hM1 := hM l D cI cZ ad H.size
  rcases hl with hl1 | ⟨host, hl1⟩
  · have hcB := callB_of (R := R) (own := own) (index := idx) (rm := rmD d) (mc := 0) (ms := 0) n hts (gTB hm.1) rfl rfl rfl (hts _ hm.2.1) (hts _ hl1) hm.2.2.1 ⟨by show d + 1 ≤ R.frames; omega, by show 8 + (nLy + 11) + 40 * d ≤ R.locals; have := hm.2.2.2; omega⟩
    refine va_calli (va_runS (As := avs.map (cv ad)) (rest := st.map (cv ad)) ⟨hx, hb, rfl, hown, hts⟩ hM1 ⟨hcB, hts _ hv⟩ ⟨preW_blind, fun U hU hW => ⟨rfl, by rw [hU], by rw [hU]; exact hP, va_K.moved hW.alike hK, hD.weaken (fun _ _ _ _ => trivial), Nst.warm hW hN⟩⟩ rfl (by rw [List.length_map]; exact hn) hL.1 (by show (st0.map (cv ad)) = _; rw [hst]; simp [List.map_append, List.map_reverse]) (lv_room hr) hd ⟨hcs.1, hcs.2⟩) hS (fun q _ h => hFr q h) hFr (fun r u t H1 locs1 ht hvm hw hB hz1 hk1 hS1 => ?_)
    obtain ⟨a, rfl, hp⟩ := hw
    obtain ⟨hP1, hK1, hD1⟩ := hB
    rw [ht] at hP1
    exact k a u hp H1 locs1 arr hP1 (hD1.weaken (fun _ q _ h => hFr q.1 h)) hS1 hL
  · have hcB := va_cnB (R := R) (own := own) (host := host) (index := idx) (rm := rmD d) (mc := 0) (ms := 0) n hts (gTB hm.1) rfl rfl rfl (hN _ hl1) (hts _ hm.2.1) hm.2.2.1 ⟨by show d + 1 ≤ R.frames; omega, by show 8 + (nLy + 11) + 40 * d ≤ R.locals; have := hm.2.2.2; omega⟩
    refine va_calli (va_runSN (As := avs.map (cv ad)) (rest := st.map (cv ad)) ⟨hx, hb, rfl, hown, hts⟩ hM1 ⟨hcB, hts _ hv, trivial⟩ ⟨preW_blind, fun U hU hW => ⟨rfl, by rw [hU], by rw [hU]; exact hP, va_K.moved hW.alike hK, hD.weaken (fun _ _ _ _ => trivial), Nst.warm hW hN⟩⟩ rfl (by rw [List.length_map]; exact hn) hL.1 (by show (st0.map (cv ad)) = _; rw [hst]; simp [List.map_append, List.map_reverse]) (lv_room hr) hd ⟨hcs.1, hcs.2⟩) hS (fun q _ h => hFr q h) hFr (fun r u t H1 locs1 ht hvm hw hB hz1 hk1 hS1 => ?_)
    obtain ⟨a, rfl, hp⟩ := hw
    obtain ⟨hP1, hK1, hD1⟩ := hB
    rw [ht] at hP1
    exact k a u hp H1 locs1 arr hP1 (hD1.weaken (fun _ q _ h => hFr q.1 h)) hS1 hL
theorem jc_Sv (X : Okk κ cc own fr) {P : wd → Prop} (hcs : csOk κ cn sn) (hm : MF y cy nLy none n) (hv : Cond.static y ∈ TB) (hl : ML own idx y) (hd2 : d + 1 ≤ fr) (hn : avs.length = n) (hst : st0 = avs.reverse ++ st) (hr : ((st.map (cv ad)).map fun v => v.category).sum ≤ 8) (hd : decode cc pc = .ok (.invokestatic idx, 3)) (hM : CalV y cy nLy d lay w (avs) P) (k : ∀ w', P w' → J κ lay ad cn sn (pc + 3) ls st w') : J κ lay ad cn sn pc ls st0 w := by
  obtain ⟨p, l, e, R, s, m, args, below, meth, c, D, cI, cZ, A, Q⟩ := κ
  obtain ⟨hx, hb, hown, hts, hK, hN, hA, hlk, hfr, hlo⟩ := X
  intro H locs arr hP hD hS hL
  have hFr : ∀ q, va_A (cells lay ad cI cZ w) H.size q → A q := by
    rintro q (⟨i, e0, h⟩ | h)
    · exact hD.2 i (q, e0) h
    · exact hA q (Nat.le_trans hS.1 h)
  have hM1 := hM l D cI cZ ad H.size
  rcases hl with hl1 | ⟨host, hl1⟩
  · have hcB := callB_of (R := R) (own := own) (index := idx) (rm := rmD d) (mc := 0) (ms := 0) n hts (gTB hm.1) rfl rfl rfl (hts _ hm.2.1) (hts _ hl1) hm.2.2.1 ⟨by show d + 1 ≤ R.frames; omega, by show 8 + (nLy + 11) + 40 * d ≤ R.locals; have := hm.2.2.2; omega⟩
    refine va_callv (va_runS (As := avs.map (cv ad)) (rest := st.map (cv ad)) ⟨hx, hb, rfl, hown, hts⟩ hM1 ⟨hcB, hts _ hv⟩ ⟨preW_blind, fun U hU hW => ⟨rfl, by rw [hU], by rw [hU]; exact hP, va_K.moved hW.alike hK, hD.weaken (fun _ _ _ _ => trivial), Nst.warm hW hN⟩⟩ rfl (by rw [List.length_map]; exact hn) hL.1 (by show (st0.map (cv ad)) = _; rw [hst]; simp [List.map_append, List.map_reverse]) (lv_room hr) hd ⟨hcs.1, hcs.2⟩) hS (fun q _ h => hFr q h) hFr (fun u t H1 locs1 ht hvm hw hB hz1 hk1 hS1 => ?_)
    obtain ⟨hP1, hK1, hD1⟩ := hB
    rw [ht] at hP1
    exact k u hw H1 locs1 arr hP1 (hD1.weaken (fun _ q _ h => hFr q.1 h)) hS1 hL
  · have hcB := va_cnB (R := R) (own := own) (host := host) (index := idx) (rm := rmD d) (mc := 0) (ms := 0) n hts (gTB hm.1) rfl rfl rfl (hN _ hl1) (hts _ hm.2.1) hm.2.2.1 ⟨by show d + 1 ≤ R.frames; omega, by show 8 + (nLy + 11) + 40 * d ≤ R.locals; have := hm.2.2.2; omega⟩
    refine va_callv (va_runSN (As := avs.map (cv ad)) (rest := st.map (cv ad)) ⟨hx, hb, rfl, hown, hts⟩ hM1 ⟨hcB, hts _ hv, trivial⟩ ⟨preW_blind, fun U hU hW => ⟨rfl, by rw [hU], by rw [hU]; exact hP, va_K.moved hW.alike hK, hD.weaken (fun _ _ _ _ => trivial), Nst.warm hW hN⟩⟩ rfl (by rw [List.length_map]; exact hn) hL.1 (by show (st0.map (cv ad)) = _; rw [hst]; simp [List.map_append, List.map_reverse]) (lv_room hr) hd ⟨hcs.1, hcs.2⟩) hS (fun q _ h => hFr q h) hFr (fun u t H1 locs1 ht hvm hw hB hz1 hk1 hS1 => ?_)
    obtain ⟨hP1, hK1, hD1⟩ := hB
    rw [ht] at hP1
    exact k u hw H1 locs1 arr hP1 (hD1.weaken (fun _ q _ h => hFr q.1 h)) hS1 hL
end JROWS3
