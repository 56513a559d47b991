/-! ===== the light judgement where cells come: constructors ===== -/
def avb (m : Nat) (v : av) : Bool := match v with
  | .inr (.inr (some k)) => !(k == m)
  | _ => true
def lsb (m : Nat) (ls : List (Option av)) : Bool := ls.all (fun o => match o with | some v => avb m v | none => true)
def stb (m : Nat) (st : List av) : Bool := st.all (avb m)
def elb (m : Nat) (e : lyE) : Bool := match e with
  | .inl (_, fs) => fs.all (fun o => match o with | some (some k) => decide (k < m) | _ => true)
  | .inr _ => true
def lyb (m : Nat) (lay : lyT) : Bool := lay.all (elb m)
theorem cv_ad {ad ad' : Nat → Nat} {m : Nat} {v : av} (h : avb m v = true) (ha : ∀ k, k ≠ m → ad' k = ad k) : cv ad' v = cv ad v := by
  rcases v with a | a | r
  · rfl
  · rfl
  · cases r with
    | none => rfl
    | some k =>
      have : k ≠ m := by simpa [avb] using h
      simp only [cv, Option.map_some, ha k this]
theorem st_ad {ad ad' : Nat → Nat} {m : Nat} {st : List av} (h : stb m st = true) (ha : ∀ k, k ≠ m → ad' k = ad k) : st.map (cv ad') = st.map (cv ad) := List.map_congr_left (fun v hv => cv_ad (List.all_eq_true.mp h v hv) ha)
theorem hasL_ad {ad ad' : Nat → Nat} {m n : Nat} {arr : Array Slot} {ls : List (Option av)} (hL : hasL ad arr n ls) (h : lsb m ls = true) (ha : ∀ k, k ≠ m → ad' k = ad k) : hasL ad' arr n ls := by
  refine ⟨hL.1, hL.2.1, hL.2.2.1, fun k v hk => ?_⟩
  have h1 := List.all_eq_true.mp h (some v) (List.mem_of_getElem? hk)
  rw [cv_ad h1 ha]
  exact hL.2.2.2 k v hk
theorem cel_ad {ad ad' : Nat → Nat} {cI cZ : ClassId} {m : Nat} {f : Nat → Int} {e : lyE} (h : elb m e = true) (ha : ∀ k, k < m → ad' k = ad k) : cel ad' cI cZ f e = cel ad cI cZ f e := by
  rcases e with ⟨ci, fs⟩ | a
  · simp only [cel]
    have : fs.mapIdx (fun j x => cfv ad' (f j) x) = fs.mapIdx (fun j x => cfv ad (f j) x) := by
      apply List.ext_getElem?
      intro i
      rw [List.getElem?_mapIdx, List.getElem?_mapIdx]
      cases hx : fs[i]? with
      | none => rfl
      | some o =>
        have h1 := List.all_eq_true.mp h o (List.mem_of_getElem? hx)
        rcases o with _ | _ | k
        · rfl
        · rfl
        · have h2 : k < m := by simpa using h1
          simp only [Option.map_some, cfv, ha k h2]
    rw [this]
  · rfl
theorem cells_ad {lay : lyT} {ad ad' : Nat → Nat} {cI cZ : ClassId} {w : wd} (h : lyb lay.length lay = true) (ha : ∀ k, k < lay.length → ad' k = ad k) : cells lay ad' cI cZ w = cells lay ad cI cZ w := by
  apply List.ext_getElem?
  intro i
  simp only [cells, List.getElem?_mapIdx]
  cases hx : lay[i]? with
  | none => rfl
  | some e =>
    have h1 := List.all_eq_true.mp h e (List.mem_of_getElem? hx)
    have h2 := (List.getElem?_eq_some_iff.mp hx).1
    simp only [Option.map_some, ha i h2, cel_ad h1 ha]
theorem cells_app {lay : lyT} {ad : Nat → Nat} {cI cZ : ClassId} {w : wd} {e : lyE} : cells (lay ++ [e]) ad cI cZ w = cells lay ad cI cZ w ++ [(ad lay.length, cel ad cI cZ (w lay.length) e)] := by
  simp only [cells, List.mapIdx_concat]
theorem cells_lset {lay : lyT} {ad : Nat → Nat} {cI cZ : ClassId} {w : wd} {o : Nat} {e : lyE} : cells (lay.set o e) ad cI cZ w = (cells lay ad cI cZ w).set o (ad o, cel ad cI cZ (w o) e) := by
  apply List.ext_getElem?
  intro i
  by_cases hi : i = o
  · subst hi
    by_cases hl : i < lay.length
    · have h2 : ((cells lay ad cI cZ w).set i (ad i, cel ad cI cZ (w i) e))[i]? = _ := List.getElem?_set_self (by simpa [cells] using hl)
      rw [h2]
      simp only [cells, List.getElem?_mapIdx, List.getElem?_set_self hl, Option.map_some]
    · rw [List.getElem?_eq_none (by simp [cells]; omega), List.getElem?_eq_none (by simp [cells]; omega)]
  · rw [List.getElem?_set_ne (fun q => hi q.symm)]
    simp only [cells, List.getElem?_mapIdx]
    rw [List.getElem?_set_ne (fun q => hi q.symm)]
theorem cel_putR {ad : Nat → Nat} {cI cZ : ClassId} {f : Nat → Int} {ci j : Nat} {fs : List (Option (Option Nat))} {r : Option Nat} : cel ad cI cZ f (.inl (ci, fs.set j (some r))) = .inr (ci, (fs.mapIdx (fun j x => cfv ad (f j) x)).set j (va_rf (r.map ad))) := by
  simp only [cel]
  congr 2
  apply List.ext_getElem?
  intro i
  by_cases hi : i = j
  · subst hi
    by_cases hl : i < fs.length
    · have h2 : ((fs.mapIdx (fun j x => cfv ad (f j) x)).set i (va_rf (r.map ad)))[i]? = _ := List.getElem?_set_self (by simpa using hl)
      rw [h2]
      simp only [List.getElem?_mapIdx, List.getElem?_set_self hl, Option.map_some, cfv]
    · rw [List.getElem?_eq_none (by simp; omega), List.getElem?_eq_none (by simp; omega)]
  · rw [List.getElem?_set_ne (fun q => hi q.symm)]
    simp only [List.getElem?_mapIdx]
    rw [List.getElem?_set_ne (fun q => hi q.symm)]
def dfv (o : Option (Option Nat)) : Value := match o with
  | none => .int 0
  | some _ => .null
def nob (fs : List (Option (Option Nat))) : Bool := fs.all (fun o => match o with | some (some _) => false | _ => true)
theorem cel_new {ad : Nat → Nat} {cI cZ : ClassId} {f : Nat → Int} {ci : Nat} {fs : List (Option (Option Nat))} (h : nob fs = true) (hz : ∀ i, f i = 0) : cel ad cI cZ f (.inl (ci, fs)) = .inr (ci, fs.map dfv) := by
  simp only [cel]
  congr 2
  apply List.ext_getElem?
  intro i
  rw [List.getElem?_mapIdx, List.getElem?_map]
  cases hx : fs[i]? with
  | none => rfl
  | some o =>
    have h1 := List.all_eq_true.mp h o (List.mem_of_getElem? hx)
    rcases o with _ | _ | k
    · simp only [Option.map_some, cfv, dfv, hz]; rfl
    · rfl
    · simp at h1
def Ini (κ : KT) : Prop := match κ with
  | (p, l, e, R, s, m, args, below, meth, c, D, cI, cZ, A, Q) => meth.name = "<init>"
theorem csOk.mono {κ : KT} {a b c d : Nat} (h : csOk κ a b) (h1 : c ≤ a) (h2 : d ≤ b) : csOk κ c d := by
  obtain ⟨p, l, e, R, s, m, args, below, meth, cc, D, cI, cZ, A, Q⟩ := κ
  exact ⟨Nat.le_trans h1 h.1, Nat.le_trans h2 h.2⟩
section JROWSN
variable {κ : KT} {cc : ByteArray} {own : String} {fr : Nat} {lay : lyT} {ad : Nat → Nat} {cn sn pc : Nat} {ls : List (Option av)} {st st0 : List av} {w : wd}
theorem j_newN (X : Okk κ cc own fr) {idx ci N : Nat} {C : String} {T : u_T} {ty : Nat → FieldType} {fs : List (Option (Option Nat))} (hc : vwCl[ci]? = some (C, T, N)) (hin : ∀ w ∈ u_ws C T N, w ∈ TB) (hty : ∀ k, k < N → parseFieldDescriptor (T k).2.2.1 = some (ty k)) (hcl : Cond.classLink own idx C ∈ TB) (hinst : Cond.instantiable C N ∈ TB) (hini : Cond.initialized C ∈ TB) (hfs : ∀ j, j < N → defaultValue (ty j) = vp_V (fs.map dfv) j) (hnb : nob fs = true) (hb3 : (lyb lay.length lay && lsb lay.length ls && stb lay.length st) = true) (hz : ∀ i, w lay.length i = 0) (hroom : csOk κ (cn + 1) (sn + N)) (hd : decode cc pc = .ok (.new idx, 3)) (k : ∀ ad', (∀ k, k ≠ lay.length → ad' k = ad k) → J κ (lay ++ [.inl (ci, fs)]) ad' (cn + 1) (sn + N) (pc + 3) ls (vR lay.length :: st) w) : J κ lay ad cn sn pc ls st w := by
  obtain ⟨p, l, e, R, s, m, args, below, meth, c, D, cI, cZ, A, Q⟩ := κ
  obtain ⟨hx, hb, hown, hts, hK, hN, hA, hlk, hfr, hlo⟩ := X
  simp only [Bool.and_eq_true] at hb3
  intro H locs arr hP hD hS hL
  refine va_new (own := own) hx hb hts hin ty hty hown (hts _ hcl) (hts _ hinst) (hts _ hini) hK hP hD hS hA hc hfs hroom.1 hroom.2 hd (fun q H1 hP1 hD1 hS1 => ?_)
  have ha : ∀ k, k ≠ lay.length → (fun k => if k = lay.length then q else ad k) k = ad k := fun k hk => if_neg hk
  have e1 : cells (lay ++ [.inl (ci, fs)]) (fun k => if k = lay.length then q else ad k) cI cZ w = cells lay ad cI cZ w ++ [(q, .inr (ci, fs.map dfv))] := by
    rw [cells_app, cells_ad hb3.1.1 (fun k hk => ha k (by omega)), cel_new hnb hz, if_pos rfl]
  have e2 : (vR lay.length :: st).map (cv (fun k => if k = lay.length then q else ad k)) = .ref q :: st.map (cv ad) := by
    rw [List.map_cons, st_ad hb3.2 ha]
    simp [cv, va_rf]
  have h9 := k _ ha H1 locs arr (by rw [e1]; exact hP1) (by rw [e1]; exact hD1) hS1 (hasL_ad hL hb3.1.2 ha)
  rw [e2] at h9
  exact h9
theorem va_cls {D : va_G} {cI cZ cA : ClassId} {s : State} {ty : FieldType} (t0 : Nat) (c0 : ClassId) (ht : [(cI, FieldType.int), (cZ, FieldType.boolean)][t0]? = some (c0, ty)) (hty : ty = .int ∨ ty = .boolean) (hK : va_K D vwCl ([(cI, .int), (cZ, .boolean)] ++ [(cA, ty)]) s) : cA = c0 := by
  have h1 := (hK.2 2 (cA, ty) rfl).2
  have h2 := (hK.2 t0 (c0, ty) (by rw [List.getElem?_append_left (List.getElem?_eq_some_iff.mp ht).1]; exact ht)).2
  rcases hty with rfl | rfl
  · exact Option.some.inj (Eq.trans (Eq.symm h1) h2)
  · exact Option.some.inj (Eq.trans (Eq.symm h1) h2)
theorem j_newaN (X : Okk κ cc own fr) {b : Bool} {atype : ArrayType} {N : Nat} (hat : newarray.typeOf atype = if b then .boolean else .int) (harr : Cond.arrayClass (newarray.typeOf atype) ∈ TB) (hN9 : N < 100000) (hb3 : (lyb lay.length lay && lsb lay.length ls && stb lay.length st) = true) (hz : ∀ i, w lay.length i = 0) (hroom : csOk κ (cn + 1) (sn + N)) (hd : decode cc pc = .ok (.newarray atype, 2)) (k : ∀ ad', (∀ k, k ≠ lay.length → ad' k = ad k) → J κ (lay ++ [.inr (b, N)]) ad' (cn + 1) (sn + N) (pc + 2) ls (vR lay.length :: st) w) : J κ lay ad cn sn pc ls (vI (N : Int) :: st) w := by
  obtain ⟨p, l, e, R, s, m, args, below, meth, c, D, cI, cZ, A, Q⟩ := κ
  obtain ⟨hx, hb, hown, hts, hK, hN, hA, hlk, hfr, hlo⟩ := X
  simp only [Bool.and_eq_true] at hb3
  intro H locs arr hP hD hS hL
  have hNt : (zI (N : Int)).toNatClampNeg = N := by rw [zI_cl (by omega) (by omega)]; rfl
  have hNn : ¬ zI (N : Int) < 0 := by
    rw [show (0 : Int32) = zI 0 from rfl, zI_lt ⟨by omega, by omega⟩ ⟨by omega, by omega⟩]
    omega
  refine va_newa (N' := N) (a0 := (N, .inl (fun _ => 0))) hx hb (hts _ harr) hat hK hP hD hS hA (fun cA => by cases b <;> rfl) hNn hNt (by cases b <;> (show N * _ ≤ _; simp [componentBytes]; omega)) hroom.1 hroom.2 hd (fun q cA H1 hK1 hP1 hD1 hS1 => ?_)
  have ha : ∀ k, k ≠ lay.length → (fun k => if k = lay.length then q else ad k) k = ad k := fun k hk => if_neg hk
  have ec : cA = if b then cZ else cI := by
    cases b
    · exact va_cls 0 cI rfl (Or.inl rfl) hK1
    · exact va_cls 1 cZ rfl (Or.inr rfl) hK1
  have e0 : cel (fun k => if k = lay.length then q else ad k) cI cZ (w lay.length) (.inr (b, N)) = .inl (cA, N, .inl (fun _ => 0)) := by
    simp only [cel]
    rw [ec]
    have : (fun i => zI (w lay.length i)) = fun _ => 0 := by funext i; rw [hz i]; rfl
    rw [this]
  have e1 : cells (lay ++ [.inr (b, N)]) (fun k => if k = lay.length then q else ad k) cI cZ w = cells lay ad cI cZ w ++ [(q, .inl (cA, N, .inl (fun _ => 0)))] := by
    rw [cells_app, cells_ad hb3.1.1 (fun k hk => ha k (by omega)), e0, if_pos rfl]
  have e2 : (vR lay.length :: st).map (cv (fun k => if k = lay.length then q else ad k)) = .ref q :: st.map (cv ad) := by
    rw [List.map_cons, st_ad hb3.2 ha]
    simp [cv, va_rf]
  have h9 := k _ ha H1 locs arr (by rw [e1]; exact hP1) (by rw [e1]; exact hD1) hS1 (hasL_ad hL hb3.1.2 ha)
  rw [e2] at h9
  exact h9
theorem j_putR (X : Okk κ cc own fr) (hI : Ini κ) {idx o ci j : Nat} {r : Option Nat} {ty : FieldType} {fin : Bool} {fs : List (Option (Option Nat))} (hd : decode cc pc = .ok (.putfield idx, 3)) (hf : FP own idx ci j ty fin) (hl : lay[o]? = some (.inl (ci, fs))) (hj : j < fs.length) (hne : nestW.all (fun w => match w with | .fieldLinkNest o i _ _ _ _ => !(o == own && i == idx) | _ => true) = true) (hn : ∀ v, narrow ty (va_rf v) = va_rf v) (hft : ∀ v, fits ty (va_rf v) = true) (k : J κ (lay.set o (.inl (ci, fs.set j (some r)))) ad cn sn (pc + 3) ls st w) : J κ lay ad cn sn pc ls ((.inr (.inr r)) :: vR o :: st) w := by
  obtain ⟨p, l, e, R, s, m, args, below, meth, c, D, cI, cZ, A, Q⟩ := κ
  obtain ⟨hx, hb, hown, hts, hK, hN, hA, hlk, hfr, hlo⟩ := X
  have hI : meth.name = "<init>" := hI
  intro H locs arr hP hD hS hL
  obtain ⟨C, T, N, ty0, hc, ⟨hjN, hin, hl1 | ⟨host, hl1⟩⟩, hty, hnm, hfin, hpd, hdc⟩ := hf
  · cases fin with
    | true =>
      refine va_putF hx hb hts hin ty0 hty hnm hown hK hP hD hS o (cells_at hl) hc j hjN (hts _ hl1) (fun _ q => q) hfin hI (hdc rfl) hpd (hn (r.map ad)) (hft (r.map ad)) (by rw [List.length_mapIdx]; exact hj) hd (fun H1 locs1 hP1 hD1 hS1 => ?_)
      have e1 : cells (lay.set o (.inl (ci, fs.set j (some r)))) ad cI cZ w = _ := cells_lset
      rw [cel_putR] at e1
      exact k H1 locs1 arr (by rw [e1]; exact hP1) (by rw [e1]; exact hD1) hS1 hL
    | false =>
      refine va_put hx hb hts hin ty0 hty hnm hown hK hP hD hS o (cells_at hl) hc j hjN (hts _ hl1) (fun _ q => q) hfin hpd (hn (r.map ad)) (hft (r.map ad)) (by rw [List.length_mapIdx]; exact hj) hd (fun H1 locs1 hP1 hD1 hS1 => ?_)
      have e1 : cells (lay.set o (.inl (ci, fs.set j (some r)))) ad cI cZ w = _ := cells_lset
      rw [cel_putR] at e1
      exact k H1 locs1 arr (by rw [e1]; exact hP1) (by rw [e1]; exact hD1) hS1 hL
  · have h9 := List.all_eq_true.mp hne _ hl1
    simp at h9
theorem j_objI (X : Okk κ cc own fr) {idx o : Nat} (hlk0 : Cond.methodLink own idx objectInit ∈ TB) (hin : Cond.instanceMethod objectInit ∈ TB) (hco : Cond.code objectInit ⟨#[0xb1]⟩ 1 none ∈ TB) (hf1 : 1 ≤ fr) (hr : ((st.map (cv ad)).map fun v => v.category).sum ≤ 8) (hd : decode cc pc = .ok (.invokespecial idx, 3)) (k : J κ lay ad cn sn (pc + 3) ls st w) : J κ lay ad cn sn pc ls (vR o :: st) w := by
  obtain ⟨p, l, e, R, s, m, args, below, meth, c, D, cI, cZ, A, Q⟩ := κ
  obtain ⟨hx, hb, hown, hts, hK, hN, hA, hlk, hfr, hlo⟩ := X
  intro H locs arr hP hD hS hL
  refine W.objInit hx hb hown (hts _ hlk0) (hts _ hin) (hts _ hco) rfl hL.1 rfl hd (by omega) ?_ (k H locs arr hP hD hS hL)
  have h8 : 2 * (F0 m pc arr ((vR o :: st).map (cv ad))).monitorRoom + ((st.map (cv ad)).map fun v => v.category).sum ≤ 8 := lv_room hr
  omega
end JROWSN
