/-! ===== the light judgement: worlds as numbers ===== -/
abbrev wd : Type := Nat → Nat → Int
abbrev av : Type := Int ⊕ (Int ⊕ Option Nat)
abbrev vI (a : Int) : av := .inl a
abbrev vL (a : Int) : av := .inr (.inl a)
abbrev vR (k : Nat) : av := .inr (.inr (some k))
abbrev vN : av := .inr (.inr none)
def zI (a : Int) : Int32 := Int32.ofInt a
def zL (a : Int) : Int64 := Int64.ofInt a
abbrev rg (a : Int) : Prop := -2147483648 ≤ a ∧ a ≤ 2147483647
theorem zI_add (a b : Int) : zI (a + b) = zI a + zI b := Int32.ofInt_add a b
theorem zI_sub (a b : Int) : zI (a - b) = zI a - zI b := Int32.ofInt_sub a b
theorem zI_mul (a b : Int) : zI (a * b) = zI a * zI b := Int32.ofInt_mul a b
theorem zI_neg (a : Int) : zI (-a) = -zI a := Int32.ofInt_neg a
theorem zI_toInt {a : Int} (h : rg a) : (zI a).toInt = a := Int32.toInt_ofInt_of_le (by have := h.1; omega) (by have := h.2; omega)
theorem zI_of (x : Int32) : zI x.toInt = x := Int32.ofInt_toInt x
theorem zI_rg (x : Int32) : rg x.toInt := by
  have h1 := Int32.le_toInt x
  have h2 := Int32.toInt_lt x
  exact ⟨by omega, by omega⟩
theorem zI_lt {a b : Int} (ha : rg a) (hb : rg b) : zI a < zI b ↔ a < b := by rw [Int32.lt_iff_toInt_lt, zI_toInt ha, zI_toInt hb]
theorem zI_le {a b : Int} (ha : rg a) (hb : rg b) : zI a ≤ zI b ↔ a ≤ b := by rw [Int32.le_iff_toInt_le, zI_toInt ha, zI_toInt hb]
theorem zI_eq {a b : Int} (ha : rg a) (hb : rg b) : zI a = zI b ↔ a = b := by rw [← Int32.toInt_inj, zI_toInt ha, zI_toInt hb]
theorem zI_0 : zI 0 = 0 := rfl
theorem zI_in {i : Int} {n : Nat} (h0 : 0 ≤ i) (h1 : i < n) (hn : n < 2147483648) : vp_in (zI i) n := vp_in_iff.mpr (by rw [zI_toInt ⟨by omega, by omega⟩]; exact ⟨h0, h1⟩)
theorem zI_cl {i : Int} (h0 : 0 ≤ i) (h1 : i < 2147483648) : (zI i).toNatClampNeg = i.toNat := by
  show ((zI i).toInt).toNat = i.toNat
  rw [zI_toInt ⟨by omega, by omega⟩]
theorem zL_toInt {a : Int} (h : rg a) : (zL a).toInt = a := Int64.toInt_ofInt_of_le (by have := h.1; omega) (by have := h.2; omega)
def cv (ad : Nat → Nat) (v : av) : Value := match v with
  | .inl a => .int (zI a)
  | .inr (.inl a) => .long (zL a)
  | .inr (.inr r) => va_rf (r.map ad)
theorem cv_cat1 {ad : Nat → Nat} {v : av} (h : ∀ a, v ≠ vL a) : ¬ (cv ad v).category = 2 := by
  rcases v with a | a | r
  · simp [cv, Value.category]
  · exact absurd rfl (h a)
  · cases r <;> simp [cv, va_rf, Value.category]
abbrev lyE : Type := (Nat × List (Option (Option Nat))) ⊕ (Bool × Nat)
abbrev lyT : Type := List lyE
def cfv (ad : Nat → Nat) (x : Int) (o : Option (Option Nat)) : Value := match o with
  | none => .int (zI x)
  | some r => va_rf (r.map ad)
def cel (ad : Nat → Nat) (cI cZ : ClassId) (f : Nat → Int) (e : lyE) : va_E := match e with
  | .inl o => .inr (o.1, o.2.mapIdx (fun j x => cfv ad (f j) x))
  | .inr a => .inl (if a.1 then cZ else cI, a.2, .inl (fun i => zI (f i)))
def cells (lay : lyT) (ad : Nat → Nat) (cI cZ : ClassId) (w : wd) : va_W := lay.mapIdx (fun k e => (ad k, cel ad cI cZ (w k) e))
def w1 (f : Nat → Int) (j : Nat) (a : Int) : Nat → Int := fun i => if i = j then a else f i
def wst (w : wd) (k j : Nat) (a : Int) : wd := fun i => if i = k then w1 (w k) j a else w i
theorem cells_at {lay : lyT} {ad : Nat → Nat} {cI cZ : ClassId} {w : wd} {k : Nat} {e : lyE} (h : lay[k]? = some e) : (cells lay ad cI cZ w)[k]? = some (ad k, cel ad cI cZ (w k) e) := by
  simp [cells, List.getElem?_mapIdx, h]
theorem cells_set {lay : lyT} {ad : Nat → Nat} {cI cZ : ClassId} {w : wd} {k j : Nat} {a : Int} {e : lyE} (h : lay[k]? = some e) : cells lay ad cI cZ (wst w k j a) = (cells lay ad cI cZ w).set k (ad k, cel ad cI cZ (w1 (w k) j a) e) := by
  apply List.ext_getElem?
  intro i
  by_cases hi : i = k
  · subst hi
    have hl : i < (cells lay ad cI cZ w).length := by
      have := (List.getElem?_eq_some_iff.mp (cells_at (ad := ad) (cI := cI) (cZ := cZ) (w := w) h)).1
      exact this
    rw [cells_at h, List.getElem?_set_self hl]
    simp [wst]
  · rw [List.getElem?_set_ne (fun q => hi q.symm)]
    simp only [cells, List.getElem?_mapIdx, wst, if_neg hi]
theorem cel_put {ad : Nat → Nat} {cI cZ : ClassId} {f : Nat → Int} {ci j : Nat} {fs : List (Option (Option Nat))} {a : Int} (h : fs[j]? = some none) : cel ad cI cZ (w1 f j a) (.inl (ci, fs)) = .inr (ci, (fs.mapIdx (fun j x => cfv ad (f j) x)).set j (.int (zI a))) := by
  simp only [cel]
  congr 2
  apply List.ext_getElem?
  intro i
  by_cases hi : i = j
  · subst hi
    have hl : i < (fs.mapIdx (fun j x => cfv ad (f j) x)).length := by
      rw [List.length_mapIdx]
      exact (List.getElem?_eq_some_iff.mp h).1
    rw [List.getElem?_set_self hl, List.getElem?_mapIdx, h]
    simp [cfv, w1]
  · rw [List.getElem?_set_ne (fun q => hi q.symm)]
    simp only [List.getElem?_mapIdx, w1, if_neg hi]
theorem cel_ast {ad : Nat → Nat} {cI cZ : ClassId} {f : Nat → Int} {b : Bool} {n j : Nat} {a : Int} : cel ad cI cZ (w1 f j a) (.inr (b, n)) = .inl (if b then cZ else cI, n, .inl (upd (fun i => zI (f i)) j (zI a))) := by
  simp only [cel]
  congr 4
  funext i
  by_cases hi : i = j
  · subst hi
    simp [w1, upd]
  · simp [w1, upd, hi]
/-- the locals -/
def hasL (ad : Nat → Nat) (arr : Array Slot) (n : Nat) (ls : List (Option av)) : Prop := arr.size = n ∧ ls.length ≤ n ∧ lv_wf arr ∧ ∀ (k : Nat) (v : av), ls[k]? = some (some v) → arr[k]? = some (.val (cv ad v))
def prs (ad : Nat → Nat) (ls : List (Option av)) : List (Nat × Value) := (List.range ls.length).filterMap (fun k => match ls[k]? with | some (some v) => some (k, cv ad v) | _ => none)
theorem prs_mem {ad : Nat → Nat} {ls : List (Option av)} {k : Nat} {v : av} (h : ls[k]? = some (some v)) : (k, cv ad v) ∈ prs ad ls := by
  refine List.mem_filterMap.mpr ⟨k, List.mem_range.mpr (List.getElem?_eq_some_iff.mp h).1, ?_⟩
  rw [h]
theorem hasL.lv {ad : Nat → Nat} {arr : Array Slot} {n : Nat} {ls : List (Option av)} (h : hasL ad arr n ls) : lv_has arr n (prs ad ls) := by
  refine ⟨h.1, h.2.2.1, fun q hq => ?_⟩
  obtain ⟨k, -, hk⟩ := List.mem_filterMap.mp hq
  split at hk
  · rename_i v hv
    cases hk
    exact h.2.2.2 k v hv
  · cases hk
def noL (ls : List (Option av)) : Bool := ls.all (fun v => match v with | some (.inr (.inl _)) => false | _ => true)
theorem noL_at {ls : List (Option av)} (h : noL ls = true) {k : Nat} {v : av} (hk : ls[k]? = some (some v)) : ∀ a, v ≠ vL a := by
  intro a e
  subst e
  have := List.all_eq_true.mp h _ (List.mem_of_getElem? hk)
  simp at this
theorem hasL_set {ad : Nat → Nat} {arr : Array Slot} {n i : Nat} {ls : List (Option av)} {v : av} (hL : hasL ad arr n ls) (hN : noL ls = true) (hi : i < ls.length) {arr' : Array Slot} (h' : lv_has arr' n ((i, cv ad v) :: (prs ad ls).filter (fun q => !(q.1 == i) && !(q.1 + 1 == i && q.2.category == 2)))) : hasL ad arr' n (ls.set i (some v)) := by
  refine ⟨h'.1, by rw [List.length_set]; exact hL.2.1, h'.2.1, fun k u hk => ?_⟩
  by_cases e : k = i
  · subst e
    rw [List.getElem?_set_self hi] at hk
    cases hk
    exact h'.2.2 (k, cv ad v) List.mem_cons_self
  · rw [List.getElem?_set_ne (fun q => e q.symm)] at hk
    refine h'.2.2 (k, cv ad u) (List.mem_cons_of_mem _ (List.mem_filter.mpr ⟨prs_mem hk, ?_⟩))
    have h1 := cv_cat1 (ad := ad) (noL_at hN hk)
    simp [e, h1]
/-- the tables' words that any state keeps -/
def TB : List Cond := lw_tbl.filter goodWord
theorem tb_in {w : Cond} (i : Nat) (h : lw_tbl[i]? = some w) (g : goodWord w = true) : w ∈ TB := List.mem_filter.mpr ⟨List.mem_of_getElem? h, g⟩
theorem tb_good : GoodIn TB TB := fun _ h => ⟨h, good_of_word (List.mem_filter.mp h).2⟩
def isNest (w : Cond) : Bool := match w with
  | .fieldLinkNest .. => true
  | .methodLinkNest .. => true
  | _ => false
theorem nest_warm {w : Cond} (h : isNest w = true) {s U : State} (hW : s.WarmedH U.vm) (hz : va_Nw w s) : va_Nw w U := by
  cases w <;> first | exact absurd h Bool.false_ne_true | exact va_Nw.warmF hW hz | exact va_Nw.warmM hW hz
theorem nest_tab {w : Cond} (h : isNest w = true) : w.onTables = true := by
  cases w <;> first | exact absurd h Bool.false_ne_true | rfl

def nestW : List Cond := [(Cond.methodLinkNest "OneSnip" (11 : Nat) ({ cls := "OneSnip$Sheet", name := "<init>", desc := "()V" } : MethodName) "OneSnip"), (Cond.fieldLinkNest "OneSnip" (65 : Nat) "OneSnip$Sheet" "size" "I" "OneSnip"), (Cond.fieldLinkNest "OneSnip$Layout" (59 : Nat) "OneSnip$Sheet" "size" "I" "OneSnip"), (Cond.fieldLinkNest "OneSnip$Layout" (42 : Nat) "OneSnip$Sheet" "leaves" "I" "OneSnip"), (Cond.fieldLinkNest "OneSnip$Creases" (36 : Nat) "OneSnip$Sheet" "leaves" "I" "OneSnip"), (Cond.fieldLinkNest "OneSnip$Snip" (42 : Nat) "OneSnip$Sheet" "leaves" "I" "OneSnip"), (Cond.fieldLinkNest "OneSnip$Pile" (73 : Nat) "OneSnip$Sheet" "leaves" "I" "OneSnip"), (Cond.fieldLinkNest "OneSnip$Figure" (41 : Nat) "OneSnip$Sheet" "leaves" "I" "OneSnip"), (Cond.fieldLinkNest "OneSnip" (205 : Nat) "OneSnip$Sheet" "leaves" "I" "OneSnip"), (Cond.fieldLinkNest "OneSnip" (85 : Nat) "OneSnip$Pile" "made" "I" "OneSnip"), (Cond.fieldLinkNest "OneSnip" (78 : Nat) "OneSnip$Snip" "made" "Z" "OneSnip"), (Cond.fieldLinkNest "OneSnip" (179 : Nat) "OneSnip$Snip" "fallen" "I" "OneSnip"), (Cond.fieldLinkNest "OneSnip$Layout" (36 : Nat) "OneSnip$Figure" "total" "I" "OneSnip"), (Cond.fieldLinkNest "OneSnip" (203 : Nat) "OneSnip$Figure" "total" "I" "OneSnip"), (Cond.fieldLinkNest "OneSnip$Search" (77 : Nat) "OneSnip$Layout" "next" "LOneSnip$Layout;" "OneSnip"), (Cond.fieldLinkNest "OneSnip" (221 : Nat) "OneSnip$Search" "found" "I" "OneSnip"), (Cond.methodLinkNest "OneSnip$Pile" (61 : Nat) ({ cls := "OneSnip", name := "yes", desc := "(Z)I" } : MethodName) "OneSnip"), (Cond.methodLinkNest "OneSnip$Creases" (47 : Nat) ({ cls := "OneSnip", name := "yes", desc := "(Z)I" } : MethodName) "OneSnip"), (Cond.methodLinkNest "OneSnip$Snip" (53 : Nat) ({ cls := "OneSnip", name := "yes", desc := "(Z)I" } : MethodName) "OneSnip"), (Cond.methodLinkNest "OneSnip$Figure" (33 : Nat) ({ cls := "OneSnip", name := "yes", desc := "(Z)I" } : MethodName) "OneSnip"), (Cond.methodLinkNest "OneSnip$Layout" (110 : Nat) ({ cls := "OneSnip", name := "yes", desc := "(Z)I" } : MethodName) "OneSnip")]
theorem nestW_is : ∀ w ∈ nestW, isNest w = true := by decide +kernel
def Nst (s : State) : Prop := ∀ w ∈ nestW, va_Nw w s
theorem Nst.warm {s U : State} (hW : s.WarmedH U.vm) (h : Nst s) : Nst U := fun w hw => nest_warm (nestW_is w hw) hW (h w hw)
theorem Nst.same {s U : State} (e : s.vm = U.vm) (h : Nst s) : Nst U := fun w hw => va_Nw.same (nest_tab (nestW_is w hw)) e (h w hw)
/-- all that a walk has fixed -/
abbrev KT : Type := Program × Launch × Env × Room × State × MethodId × Array Value × List Frame × Method × Code × va_G × ClassId × ClassId × (Nat → Prop) × (State → Prop)
def J (κ : KT) (lay : lyT) (ad : Nat → Nat) (cn sn pc : Nat) (ls : List (Option av)) (st : List av) (w : wd) : Prop := match κ with
  | (p, l, e, R, s, m, args, below, meth, c, D, cI, cZ, A, Q) => ∀ (H : Heap) (locs : List Loc) (arr : Array Slot), va_P D vwCl (cells lay ad cI cZ w) H → va_D A (cells lay ad cI cZ w) → va_S A s.heap H locs → hasL ad arr c.maxLocals ls → W p l e R s m args below meth c H locs cn sn Q (F0 m pc arr (st.map (cv ad)))
def Okk (κ : KT) (cc : ByteArray) (own : String) (fr : Nat) : Prop := match κ with
  | (p, l, e, R, s, m, args, below, meth, c, D, cI, cZ, A, Q) => p.tables.exec = Jvm.exec ∧ c.code = cc ∧ s.vm.findClass own = some m.cls ∧ (∀ w ∈ TB, w.before args s = true) ∧ va_K D vwCl [(cI, .int), (cZ, .boolean)] s ∧ Nst s ∧ (∀ q, s.heap.size ≤ q → A q) ∧ meth.locks = false ∧ fr ≤ R.frames ∧ 40 * fr ≤ R.locals
section JROWS
variable {κ : KT} {cc : ByteArray} {own : String} {fr : Nat} {lay : lyT} {ad : Nat → Nat} {cn sn pc : Nat} {ls : List (Option av)} {st : List av} {w : wd}
theorem j_iconst (X : Okk κ cc own fr) {n : Int} (hd : decode cc pc = .ok (.iconst n, 1)) (k : J κ lay ad cn sn (pc + 1) ls (vI n :: st) w) : J κ lay ad cn sn pc ls st w := by
  obtain ⟨p, l, e, R, s, m, args, below, meth, c, D, cI, cZ, A, Q⟩ := κ
  obtain ⟨hx, hb, hown, hts, hK, hN, hA, hlk, hfr, hlo⟩ := X
  intro H locs arr hP hD hS hL
  exact lv_iconst (v := zI n) hx hb hd rfl (k H locs arr hP hD hS hL)
theorem j_bipush (X : Okk κ cc own fr) {n : Int} (hd : decode cc pc = .ok (.bipush n, 2)) (hv : (Int8.ofInt n).toInt32 = zI n) (k : J κ lay ad cn sn (pc + 2) ls (vI n :: st) w) : J κ lay ad cn sn pc ls st w := by
  obtain ⟨p, l, e, R, s, m, args, below, meth, c, D, cI, cZ, A, Q⟩ := κ
  obtain ⟨hx, hb, hown, hts, hK, hN, hA, hlk, hfr, hlo⟩ := X
  intro H locs arr hP hD hS hL
  exact lv_bipush (v := zI n) hx hb hd hv (k H locs arr hP hD hS hL)
theorem j_sipush (X : Okk κ cc own fr) {n : Int} (hd : decode cc pc = .ok (.sipush n, 3)) (hv : (Int16.ofInt n).toInt32 = zI n) (k : J κ lay ad cn sn (pc + 3) ls (vI n :: st) w) : J κ lay ad cn sn pc ls st w := by
  obtain ⟨p, l, e, R, s, m, args, below, meth, c, D, cI, cZ, A, Q⟩ := κ
  obtain ⟨hx, hb, hown, hts, hK, hN, hA, hlk, hfr, hlo⟩ := X
  intro H locs arr hP hD hS hL
  exact lv_sipush (v := zI n) hx hb hd hv (k H locs arr hP hD hS hL)
theorem j_lconst (X : Okk κ cc own fr) {n : Fin 2} (hd : decode cc pc = .ok (.lconst n, 1)) (k : J κ lay ad cn sn (pc + 1) ls (vL ((n : Nat) : Int) :: st) w) : J κ lay ad cn sn pc ls st w := by
  obtain ⟨p, l, e, R, s, m, args, below, meth, c, D, cI, cZ, A, Q⟩ := κ
  obtain ⟨hx, hb, hown, hts, hK, hN, hA, hlk, hfr, hlo⟩ := X
  intro H locs arr hP hD hS hL
  refine lv_lconst (v := zL ((n : Nat) : Int)) hx hb hd ?_ (k H locs arr hP hD hS hL)
  exact Int64.ofInt_eq_ofNat.symm
theorem j_aconst_null (X : Okk κ cc own fr) (hd : decode cc pc = .ok (.aconst_null, 1)) (k : J κ lay ad cn sn (pc + 1) ls (vN :: st) w) : J κ lay ad cn sn pc ls st w := by
  obtain ⟨p, l, e, R, s, m, args, below, meth, c, D, cI, cZ, A, Q⟩ := κ
  obtain ⟨hx, hb, hown, hts, hK, hN, hA, hlk, hfr, hlo⟩ := X
  intro H locs arr hP hD hS hL
  exact lv_null hx hb hd (k H locs arr hP hD hS hL)
theorem j_iload_n (X : Okk κ cc own fr) {i : Fin 4} {a : Int} (hd : decode cc pc = .ok (.iload_n i, 1)) (hl : ls[(i : Nat)]? = some (some (vI a))) (k : J κ lay ad cn sn (pc + 1) ls (vI a :: st) w) : J κ lay ad cn sn pc ls st w := by
  obtain ⟨p, l, e, R, s, m, args, below, meth, c, D, cI, cZ, A, Q⟩ := κ
  obtain ⟨hx, hb, hown, hts, hK, hN, hA, hlk, hfr, hlo⟩ := X
  intro H locs arr hP hD hS hL
  exact lv_iload_n hx hb hd rfl (hL.2.2.2 _ _ hl) (k H locs arr hP hD hS hL)
theorem j_iload (X : Okk κ cc own fr) {i : Nat} {a : Int} (hd : decode cc pc = .ok (.iload i, 2)) (hl : ls[i]? = some (some (vI a))) (k : J κ lay ad cn sn (pc + 2) ls (vI a :: st) w) : J κ lay ad cn sn pc ls st w := by
  obtain ⟨p, l, e, R, s, m, args, below, meth, c, D, cI, cZ, A, Q⟩ := κ
  obtain ⟨hx, hb, hown, hts, hK, hN, hA, hlk, hfr, hlo⟩ := X
  intro H locs arr hP hD hS hL
  exact lv_iload hx hb hd (hL.2.2.2 _ _ hl) (k H locs arr hP hD hS hL)
theorem j_lload_n (X : Okk κ cc own fr) {i : Fin 4} {a : Int} (hd : decode cc pc = .ok (.lload_n i, 1)) (hl : ls[(i : Nat)]? = some (some (vL a))) (k : J κ lay ad cn sn (pc + 1) ls (vL a :: st) w) : J κ lay ad cn sn pc ls st w := by
  obtain ⟨p, l, e, R, s, m, args, below, meth, c, D, cI, cZ, A, Q⟩ := κ
  obtain ⟨hx, hb, hown, hts, hK, hN, hA, hlk, hfr, hlo⟩ := X
  intro H locs arr hP hD hS hL
  exact lv_lload_n hx hb hd rfl (hL.2.2.2 _ _ hl) (k H locs arr hP hD hS hL)
theorem j_lload (X : Okk κ cc own fr) {i : Nat} {a : Int} (hd : decode cc pc = .ok (.lload i, 2)) (hl : ls[i]? = some (some (vL a))) (k : J κ lay ad cn sn (pc + 2) ls (vL a :: st) w) : J κ lay ad cn sn pc ls st w := by
  obtain ⟨p, l, e, R, s, m, args, below, meth, c, D, cI, cZ, A, Q⟩ := κ
  obtain ⟨hx, hb, hown, hts, hK, hN, hA, hlk, hfr, hlo⟩ := X
  intro H locs arr hP hD hS hL
  exact lv_lload hx hb hd (hL.2.2.2 _ _ hl) (k H locs arr hP hD hS hL)
theorem j_aload_n (X : Okk κ cc own fr) {i : Fin 4} {a : Nat} (hd : decode cc pc = .ok (.aload_n i, 1)) (hl : ls[(i : Nat)]? = some (some (vR a))) (k : J κ lay ad cn sn (pc + 1) ls (vR a :: st) w) : J κ lay ad cn sn pc ls st w := by
  obtain ⟨p, l, e, R, s, m, args, below, meth, c, D, cI, cZ, A, Q⟩ := κ
  obtain ⟨hx, hb, hown, hts, hK, hN, hA, hlk, hfr, hlo⟩ := X
  intro H locs arr hP hD hS hL
  exact lv_aload_n hx hb hd rfl (hL.2.2.2 _ _ hl) (k H locs arr hP hD hS hL)
theorem j_aload (X : Okk κ cc own fr) {i : Nat} {a : Nat} (hd : decode cc pc = .ok (.aload i, 2)) (hl : ls[i]? = some (some (vR a))) (k : J κ lay ad cn sn (pc + 2) ls (vR a :: st) w) : J κ lay ad cn sn pc ls st w := by
  obtain ⟨p, l, e, R, s, m, args, below, meth, c, D, cI, cZ, A, Q⟩ := κ
  obtain ⟨hx, hb, hown, hts, hK, hN, hA, hlk, hfr, hlo⟩ := X
  intro H locs arr hP hD hS hL
  exact lv_aload hx hb hd (hL.2.2.2 _ _ hl) (k H locs arr hP hD hS hL)
theorem j_istore_ng (X : Okk κ cc own fr) {i : Fin 4} {a : Int} {ls' : List (Option av)} (hd : decode cc pc = .ok (.istore_n i, 1)) (hn : noL ls = true) (hi : (i : Nat) < ls.length) (hs : ls.set (i : Nat) (some (vI a)) = ls') (k : J κ lay ad cn sn (pc + 1) ls' st w) : J κ lay ad cn sn pc ls (vI a :: st) w := by
  obtain ⟨p, l, e, R, s, m, args, below, meth, c, D, cI, cZ, A, Q⟩ := κ
  obtain ⟨hx, hb, hown, hts, hK, hN, hA, hlk, hfr, hlo⟩ := X
  intro H locs arr hP hD hS hL
  subst hs
  exact lv_istore_n (lv' := (_ :: _)) hx hb hd rfl hL.lv (Nat.lt_of_lt_of_le hi hL.2.1) rfl (fun arr' h' => k H locs arr' hP hD hS (hasL_set hL hn hi h'))
theorem j_istoreg (X : Okk κ cc own fr) {i : Nat} {a : Int} {ls' : List (Option av)} (hd : decode cc pc = .ok (.istore i, 2)) (hn : noL ls = true) (hi : i < ls.length) (hs : ls.set i (some (vI a)) = ls') (k : J κ lay ad cn sn (pc + 2) ls' st w) : J κ lay ad cn sn pc ls (vI a :: st) w := by
  obtain ⟨p, l, e, R, s, m, args, below, meth, c, D, cI, cZ, A, Q⟩ := κ
  obtain ⟨hx, hb, hown, hts, hK, hN, hA, hlk, hfr, hlo⟩ := X
  intro H locs arr hP hD hS hL
  subst hs
  exact lv_istore (lv' := (_ :: _)) hx hb hd hL.lv (Nat.lt_of_lt_of_le hi hL.2.1) rfl (fun arr' h' => k H locs arr' hP hD hS (hasL_set hL hn hi h'))
theorem j_astore_ng (X : Okk κ cc own fr) {i : Fin 4} {a : Nat} {ls' : List (Option av)} (hd : decode cc pc = .ok (.astore_n i, 1)) (hn : noL ls = true) (hi : (i : Nat) < ls.length) (hs : ls.set (i : Nat) (some (vR a)) = ls') (k : J κ lay ad cn sn (pc + 1) ls' st w) : J κ lay ad cn sn pc ls (vR a :: st) w := by
  obtain ⟨p, l, e, R, s, m, args, below, meth, c, D, cI, cZ, A, Q⟩ := κ
  obtain ⟨hx, hb, hown, hts, hK, hN, hA, hlk, hfr, hlo⟩ := X
  intro H locs arr hP hD hS hL
  subst hs
  exact lv_astore_n (lv' := (_ :: _)) hx hb hd rfl hL.lv (Nat.lt_of_lt_of_le hi hL.2.1) rfl (fun arr' h' => k H locs arr' hP hD hS (hasL_set hL hn hi h'))
theorem j_iincg (X : Okk κ cc own fr) {i : Nat} {n a : Int} {ls' : List (Option av)} (hd : decode cc pc = .ok (.iinc i n, 3)) (hn : noL ls = true) (hl : ls[i]? = some (some (vI a))) (hs : ls.set i (some (vI (a + n))) = ls') (k : J κ lay ad cn sn (pc + 3) ls' st w) : J κ lay ad cn sn pc ls st w := by
  obtain ⟨p, l, e, R, s, m, args, below, meth, c, D, cI, cZ, A, Q⟩ := κ
  obtain ⟨hx, hb, hown, hts, hK, hN, hA, hlk, hfr, hlo⟩ := X
  intro H locs arr hP hD hS hL
  subst hs
  have hi : i < ls.length := (List.getElem?_eq_some_iff.mp hl).1
  obtain ⟨q, hq⟩ := List.getElem?_of_mem (prs_mem (ad := ad) hl)
  exact lv_iinc (v := zI (a + n)) (lv' := (_ :: _)) hx hb hd hL.lv hq (zI_add a n).symm (Nat.lt_of_lt_of_le hi hL.2.1) rfl (fun arr' h' => k H locs arr' hP hD hS (hasL_set (v := vI (a + n)) hL hn hi h'))
theorem j_iadd (X : Okk κ cc own fr) {a b : Int} (hd : decode cc pc = .ok (.iadd, 1)) (k : J κ lay ad cn sn (pc + 1) ls (vI (a + b) :: st) w) : J κ lay ad cn sn pc ls (vI b :: vI a :: st) w := by
  obtain ⟨p, l, e, R, s, m, args, below, meth, c, D, cI, cZ, A, Q⟩ := κ
  obtain ⟨hx, hb, hown, hts, hK, hN, hA, hlk, hfr, hlo⟩ := X
  intro H locs arr hP hD hS hL
  refine lv_iadd (x := zI a) (y := zI b) hx hb hd ?_
  rw [← zI_add]
  exact k H locs arr hP hD hS hL
theorem j_isub (X : Okk κ cc own fr) {a b : Int} (hd : decode cc pc = .ok (.isub, 1)) (k : J κ lay ad cn sn (pc + 1) ls (vI (a - b) :: st) w) : J κ lay ad cn sn pc ls (vI b :: vI a :: st) w := by
  obtain ⟨p, l, e, R, s, m, args, below, meth, c, D, cI, cZ, A, Q⟩ := κ
  obtain ⟨hx, hb, hown, hts, hK, hN, hA, hlk, hfr, hlo⟩ := X
  intro H locs arr hP hD hS hL
  refine lv_isub (x := zI a) (y := zI b) hx hb hd ?_
  rw [← zI_sub]
  exact k H locs arr hP hD hS hL
theorem j_imul (X : Okk κ cc own fr) {a b : Int} (hd : decode cc pc = .ok (.imul, 1)) (k : J κ lay ad cn sn (pc + 1) ls (vI (a * b) :: st) w) : J κ lay ad cn sn pc ls (vI b :: vI a :: st) w := by
  obtain ⟨p, l, e, R, s, m, args, below, meth, c, D, cI, cZ, A, Q⟩ := κ
  obtain ⟨hx, hb, hown, hts, hK, hN, hA, hlk, hfr, hlo⟩ := X
  intro H locs arr hP hD hS hL
  refine lv_imul (x := zI a) (y := zI b) hx hb hd ?_
  rw [← zI_mul]
  exact k H locs arr hP hD hS hL
theorem j_ineg (X : Okk κ cc own fr) {a : Int} (hd : decode cc pc = .ok (.ineg, 1)) (k : J κ lay ad cn sn (pc + 1) ls (vI (-a) :: st) w) : J κ lay ad cn sn pc ls (vI a :: st) w := by
  obtain ⟨p, l, e, R, s, m, args, below, meth, c, D, cI, cZ, A, Q⟩ := κ
  obtain ⟨hx, hb, hown, hts, hK, hN, hA, hlk, hfr, hlo⟩ := X
  intro H locs arr hP hD hS hL
  refine lv_ineg (x := zI a) hx hb hd ?_
  rw [← zI_neg]
  exact k H locs arr hP hD hS hL
theorem j_iand (X : Okk κ cc own fr) {a b r : Int} (hd : decode cc pc = .ok (.iand, 1)) (hv : zI a &&& zI b = zI r) (k : J κ lay ad cn sn (pc + 1) ls (vI r :: st) w) : J κ lay ad cn sn pc ls (vI b :: vI a :: st) w := by
  obtain ⟨p, l, e, R, s, m, args, below, meth, c, D, cI, cZ, A, Q⟩ := κ
  obtain ⟨hx, hb, hown, hts, hK, hN, hA, hlk, hfr, hlo⟩ := X
  intro H locs arr hP hD hS hL
  refine lv_iand (x := zI a) (y := zI b) hx hb hd ?_
  rw [hv]
  exact k H locs arr hP hD hS hL
theorem j_ior (X : Okk κ cc own fr) {a b r : Int} (hd : decode cc pc = .ok (.ior, 1)) (hv : zI a ||| zI b = zI r) (k : J κ lay ad cn sn (pc + 1) ls (vI r :: st) w) : J κ lay ad cn sn pc ls (vI b :: vI a :: st) w := by
  obtain ⟨p, l, e, R, s, m, args, below, meth, c, D, cI, cZ, A, Q⟩ := κ
  obtain ⟨hx, hb, hown, hts, hK, hN, hA, hlk, hfr, hlo⟩ := X
  intro H locs arr hP hD hS hL
  refine lv_ior (x := zI a) (y := zI b) hx hb hd ?_
  rw [hv]
  exact k H locs arr hP hD hS hL
theorem j_ixor (X : Okk κ cc own fr) {a b r : Int} (hd : decode cc pc = .ok (.ixor, 1)) (hv : zI a ^^^ zI b = zI r) (k : J κ lay ad cn sn (pc + 1) ls (vI r :: st) w) : J κ lay ad cn sn pc ls (vI b :: vI a :: st) w := by
  obtain ⟨p, l, e, R, s, m, args, below, meth, c, D, cI, cZ, A, Q⟩ := κ
  obtain ⟨hx, hb, hown, hts, hK, hN, hA, hlk, hfr, hlo⟩ := X
  intro H locs arr hP hD hS hL
  refine lv_ixor (x := zI a) (y := zI b) hx hb hd ?_
  rw [hv]
  exact k H locs arr hP hD hS hL
theorem j_ishl (X : Okk κ cc own fr) {a b r : Int} (hd : decode cc pc = .ok (.ishl, 1)) (hv : zI a <<< (zI b &&& 31) = zI r) (k : J κ lay ad cn sn (pc + 1) ls (vI r :: st) w) : J κ lay ad cn sn pc ls (vI b :: vI a :: st) w := by
  obtain ⟨p, l, e, R, s, m, args, below, meth, c, D, cI, cZ, A, Q⟩ := κ
  obtain ⟨hx, hb, hown, hts, hK, hN, hA, hlk, hfr, hlo⟩ := X
  intro H locs arr hP hD hS hL
  refine lv_ishl (x := zI a) (y := zI b) hx hb hd ?_
  rw [hv]
  exact k H locs arr hP hD hS hL
theorem zI_tdiv {a b : Int} (ha : rg a) (hb : 0 < b) (hb2 : b ≤ 2147483647) : zI (a.tdiv b) = zI a / zI b := Int32.ofInt_tdiv (by have := ha.1; have e : Int32.minValue.toInt = -2147483648 := rfl; omega) (by have := ha.2; have e : Int32.maxValue.toInt = 2147483647 := rfl; omega) (by have e : Int32.minValue.toInt = -2147483648 := rfl; omega) (by have e : Int32.maxValue.toInt = 2147483647 := rfl; omega)
theorem zI_tmod {a b : Int} (ha : rg a) (hb : 0 < b) (hb2 : b ≤ 2147483647) : zI (a.tmod b) = zI a % zI b := Int32.ofInt_tmod (by have := ha.1; have e : Int32.minValue.toInt = -2147483648 := rfl; omega) (by have := ha.2; have e : Int32.maxValue.toInt = 2147483647 := rfl; omega) (by have e : Int32.minValue.toInt = -2147483648 := rfl; omega) (by have e : Int32.maxValue.toInt = 2147483647 := rfl; omega)
theorem j_idiv (X : Okk κ cc own fr) {a b : Int} (hd : decode cc pc = .ok (.idiv, 1)) (ha : 0 ≤ a) (ha2 : a ≤ 2147483647) (h0 : 0 < b) (h1 : b ≤ 2147483647) (k : J κ lay ad cn sn (pc + 1) ls (vI (a / b) :: st) w) : J κ lay ad cn sn pc ls (vI b :: vI a :: st) w := by
  obtain ⟨p, l, e, R, s, m, args, below, meth, c, D, cI, cZ, A, Q⟩ := κ
  obtain ⟨hx, hb, hown, hts, hK, hN, hA, hlk, hfr, hlo⟩ := X
  intro H locs arr hP hD hS hL
  have hne : ¬ zI b = 0 := fun q => by
    have := (zI_eq (a := b) (b := 0) ⟨by omega, h1⟩ ⟨by omega, by omega⟩).mp q
    omega
  refine lv_idiv (x := zI a) (y := zI b) hx hb hd hne ?_
  rw [← zI_tdiv ⟨by omega, ha2⟩ h0 h1, Int.tdiv_eq_ediv_of_nonneg ha]
  exact k H locs arr hP hD hS hL
theorem j_irem (X : Okk κ cc own fr) {a b : Int} (hd : decode cc pc = .ok (.irem, 1)) (ha : 0 ≤ a) (ha2 : a ≤ 2147483647) (h0 : 0 < b) (h1 : b ≤ 2147483647) (k : J κ lay ad cn sn (pc + 1) ls (vI (a % b) :: st) w) : J κ lay ad cn sn pc ls (vI b :: vI a :: st) w := by
  obtain ⟨p, l, e, R, s, m, args, below, meth, c, D, cI, cZ, A, Q⟩ := κ
  obtain ⟨hx, hb, hown, hts, hK, hN, hA, hlk, hfr, hlo⟩ := X
  intro H locs arr hP hD hS hL
  have hne : ¬ zI b = 0 := fun q => by
    have := (zI_eq (a := b) (b := 0) ⟨by omega, h1⟩ ⟨by omega, by omega⟩).mp q
    omega
  refine lv_irem (x := zI a) (y := zI b) hx hb hd hne ?_
  have e : zI a - zI a / zI b * zI b = zI (a % b) := by
    rw [← zI_tdiv ⟨by omega, ha2⟩ h0 h1, ← zI_mul, ← zI_sub, Int.tdiv_eq_ediv_of_nonneg ha]
    congr 1
    have := Int.mul_ediv_add_emod a b
    rw [Int.mul_comm (a / b) b]
    omega
  rw [e]
  exact k H locs arr hP hD hS hL
theorem j_i2l (X : Okk κ cc own fr) {a : Int} (hd : decode cc pc = .ok (.i2l, 1)) (ha : rg a) (k : J κ lay ad cn sn (pc + 1) ls (vL a :: st) w) : J κ lay ad cn sn pc ls (vI a :: st) w := by
  obtain ⟨p, l, e, R, s, m, args, below, meth, c, D, cI, cZ, A, Q⟩ := κ
  obtain ⟨hx, hb, hown, hts, hK, hN, hA, hlk, hfr, hlo⟩ := X
  intro H locs arr hP hD hS hL
  refine lv_i2l (v := zL a) hx hb hd ?_ (k H locs arr hP hD hS hL)
  rw [← Int64.toInt_inj, Int32.toInt_toInt64, zI_toInt ha, zL_toInt ha]
theorem j_dup (X : Okk κ cc own fr) {v : av} (hd : decode cc pc = .ok (.dup, 1)) (hc : ∀ a, v ≠ vL a) (k : J κ lay ad cn sn (pc + 1) ls (v :: v :: st) w) : J κ lay ad cn sn pc ls (v :: st) w := by
  obtain ⟨p, l, e, R, s, m, args, below, meth, c, D, cI, cZ, A, Q⟩ := κ
  obtain ⟨hx, hb, hown, hts, hK, hN, hA, hlk, hfr, hlo⟩ := X
  intro H locs arr hP hD hS hL
  exact lv_dup hx hb hd ((lv_cat _).resolve_right (cv_cat1 hc)) (k H locs arr hP hD hS hL)
theorem j_dup2 (X : Okk κ cc own fr) {u v : av} (hd : decode cc pc = .ok (.dup2, 1)) (hc : ∀ a, v ≠ vL a) (hc2 : ∀ a, u ≠ vL a) (k : J κ lay ad cn sn (pc + 1) ls (v :: u :: v :: u :: st) w) : J κ lay ad cn sn pc ls (v :: u :: st) w := by
  obtain ⟨p, l, e, R, s, m, args, below, meth, c, D, cI, cZ, A, Q⟩ := κ
  obtain ⟨hx, hb, hown, hts, hK, hN, hA, hlk, hfr, hlo⟩ := X
  intro H locs arr hP hD hS hL
  exact lv_dup2_11 hx hb hd ((lv_cat _).resolve_right (cv_cat1 hc)) ((lv_cat _).resolve_right (cv_cat1 hc2)) (k H locs arr hP hD hS hL)
theorem j_icmp_eq (X : Okk κ cc own fr) {a b : Int} {off : Int} {tgt : Nat} (hd : decode cc pc = .ok (.if_icmp .eq off, 3)) (ht : (pc : Int) + off = (tgt : Int)) (ha : rg a) (hb2 : rg b) (kt : a = b → J κ lay ad cn sn tgt ls st w) (kf : ¬ a = b → J κ lay ad cn sn (pc + 3) ls st w) : J κ lay ad cn sn pc ls (vI b :: vI a :: st) w := by
  obtain ⟨p, l, e, R, s, m, args, below, meth, c, D, cI, cZ, A, Q⟩ := κ
  obtain ⟨hx, hb, hown, hts, hK, hN, hA, hlk, hfr, hlo⟩ := X
  intro H locs arr hP hD hS hL
  exact lv_icmp_eq hx hb hd ht (fun q => kt ((zI_eq ha hb2).mp q) H locs arr hP hD hS hL) (fun q => kf (fun z => q ((zI_eq ha hb2).mpr z)) H locs arr hP hD hS hL)
theorem j_if_eq (X : Okk κ cc own fr) {a : Int} {off : Int} {tgt : Nat} (hd : decode cc pc = .ok (.ifCond .eq off, 3)) (ht : (pc : Int) + off = (tgt : Int)) (ha : rg a) (kt : a = (0 : Int) → J κ lay ad cn sn tgt ls st w) (kf : ¬ a = (0 : Int) → J κ lay ad cn sn (pc + 3) ls st w) : J κ lay ad cn sn pc ls (vI a :: st) w := by
  obtain ⟨p, l, e, R, s, m, args, below, meth, c, D, cI, cZ, A, Q⟩ := κ
  obtain ⟨hx, hb, hown, hts, hK, hN, hA, hlk, hfr, hlo⟩ := X
  intro H locs arr hP hD hS hL
  exact lv_if_eq hx hb hd ht (fun q => kt ((zI_eq (b := 0) ha (⟨by decide, by decide⟩ : rg 0)).mp q) H locs arr hP hD hS hL) (fun q => kf (fun z => q ((zI_eq (b := 0) ha (⟨by decide, by decide⟩ : rg 0)).mpr z)) H locs arr hP hD hS hL)
theorem j_icmp_ne (X : Okk κ cc own fr) {a b : Int} {off : Int} {tgt : Nat} (hd : decode cc pc = .ok (.if_icmp .ne off, 3)) (ht : (pc : Int) + off = (tgt : Int)) (ha : rg a) (hb2 : rg b) (kt : a ≠ b → J κ lay ad cn sn tgt ls st w) (kf : a = b → J κ lay ad cn sn (pc + 3) ls st w) : J κ lay ad cn sn pc ls (vI b :: vI a :: st) w := by
  obtain ⟨p, l, e, R, s, m, args, below, meth, c, D, cI, cZ, A, Q⟩ := κ
  obtain ⟨hx, hb, hown, hts, hK, hN, hA, hlk, hfr, hlo⟩ := X
  intro H locs arr hP hD hS hL
  exact lv_icmp_ne hx hb hd ht (fun q => kt (fun z => q ((zI_eq ha hb2).mpr z)) H locs arr hP hD hS hL) (fun q => kf ((zI_eq ha hb2).mp q) H locs arr hP hD hS hL)
theorem j_if_ne (X : Okk κ cc own fr) {a : Int} {off : Int} {tgt : Nat} (hd : decode cc pc = .ok (.ifCond .ne off, 3)) (ht : (pc : Int) + off = (tgt : Int)) (ha : rg a) (kt : a ≠ (0 : Int) → J κ lay ad cn sn tgt ls st w) (kf : a = (0 : Int) → J κ lay ad cn sn (pc + 3) ls st w) : J κ lay ad cn sn pc ls (vI a :: st) w := by
  obtain ⟨p, l, e, R, s, m, args, below, meth, c, D, cI, cZ, A, Q⟩ := κ
  obtain ⟨hx, hb, hown, hts, hK, hN, hA, hlk, hfr, hlo⟩ := X
  intro H locs arr hP hD hS hL
  exact lv_if_ne hx hb hd ht (fun q => kt (fun z => q ((zI_eq (b := 0) ha (⟨by decide, by decide⟩ : rg 0)).mpr z)) H locs arr hP hD hS hL) (fun q => kf ((zI_eq (b := 0) ha (⟨by decide, by decide⟩ : rg 0)).mp q) H locs arr hP hD hS hL)
theorem j_icmp_lt (X : Okk κ cc own fr) {a b : Int} {off : Int} {tgt : Nat} (hd : decode cc pc = .ok (.if_icmp .lt off, 3)) (ht : (pc : Int) + off = (tgt : Int)) (ha : rg a) (hb2 : rg b) (kt : a < b → J κ lay ad cn sn tgt ls st w) (kf : ¬ a < b → J κ lay ad cn sn (pc + 3) ls st w) : J κ lay ad cn sn pc ls (vI b :: vI a :: st) w := by
  obtain ⟨p, l, e, R, s, m, args, below, meth, c, D, cI, cZ, A, Q⟩ := κ
  obtain ⟨hx, hb, hown, hts, hK, hN, hA, hlk, hfr, hlo⟩ := X
  intro H locs arr hP hD hS hL
  exact lv_icmp_lt hx hb hd ht (fun q => kt ((zI_lt ha hb2).mp q) H locs arr hP hD hS hL) (fun q => kf (fun z => q ((zI_lt ha hb2).mpr z)) H locs arr hP hD hS hL)
theorem j_if_lt (X : Okk κ cc own fr) {a : Int} {off : Int} {tgt : Nat} (hd : decode cc pc = .ok (.ifCond .lt off, 3)) (ht : (pc : Int) + off = (tgt : Int)) (ha : rg a) (kt : a < (0 : Int) → J κ lay ad cn sn tgt ls st w) (kf : ¬ a < (0 : Int) → J κ lay ad cn sn (pc + 3) ls st w) : J κ lay ad cn sn pc ls (vI a :: st) w := by
  obtain ⟨p, l, e, R, s, m, args, below, meth, c, D, cI, cZ, A, Q⟩ := κ
  obtain ⟨hx, hb, hown, hts, hK, hN, hA, hlk, hfr, hlo⟩ := X
  intro H locs arr hP hD hS hL
  exact lv_if_lt hx hb hd ht (fun q => kt ((zI_lt (b := 0) ha (⟨by decide, by decide⟩ : rg 0)).mp q) H locs arr hP hD hS hL) (fun q => kf (fun z => q ((zI_lt (b := 0) ha (⟨by decide, by decide⟩ : rg 0)).mpr z)) H locs arr hP hD hS hL)
theorem j_icmp_ge (X : Okk κ cc own fr) {a b : Int} {off : Int} {tgt : Nat} (hd : decode cc pc = .ok (.if_icmp .ge off, 3)) (ht : (pc : Int) + off = (tgt : Int)) (ha : rg a) (hb2 : rg b) (kt : a ≥ b → J κ lay ad cn sn tgt ls st w) (kf : ¬ a ≥ b → J κ lay ad cn sn (pc + 3) ls st w) : J κ lay ad cn sn pc ls (vI b :: vI a :: st) w := by
  obtain ⟨p, l, e, R, s, m, args, below, meth, c, D, cI, cZ, A, Q⟩ := κ
  obtain ⟨hx, hb, hown, hts, hK, hN, hA, hlk, hfr, hlo⟩ := X
  intro H locs arr hP hD hS hL
  exact lv_icmp_ge hx hb hd ht (fun q => kt ((zI_le hb2 ha).mp q) H locs arr hP hD hS hL) (fun q => kf (fun z => q ((zI_le hb2 ha).mpr z)) H locs arr hP hD hS hL)
theorem j_if_ge (X : Okk κ cc own fr) {a : Int} {off : Int} {tgt : Nat} (hd : decode cc pc = .ok (.ifCond .ge off, 3)) (ht : (pc : Int) + off = (tgt : Int)) (ha : rg a) (kt : a ≥ (0 : Int) → J κ lay ad cn sn tgt ls st w) (kf : ¬ a ≥ (0 : Int) → J κ lay ad cn sn (pc + 3) ls st w) : J κ lay ad cn sn pc ls (vI a :: st) w := by
  obtain ⟨p, l, e, R, s, m, args, below, meth, c, D, cI, cZ, A, Q⟩ := κ
  obtain ⟨hx, hb, hown, hts, hK, hN, hA, hlk, hfr, hlo⟩ := X
  intro H locs arr hP hD hS hL
  exact lv_if_ge hx hb hd ht (fun q => kt ((zI_le (a := 0) (⟨by decide, by decide⟩ : rg 0) ha).mp q) H locs arr hP hD hS hL) (fun q => kf (fun z => q ((zI_le (a := 0) (⟨by decide, by decide⟩ : rg 0) ha).mpr z)) H locs arr hP hD hS hL)
theorem j_icmp_gt (X : Okk κ cc own fr) {a b : Int} {off : Int} {tgt : Nat} (hd : decode cc pc = .ok (.if_icmp .gt off, 3)) (ht : (pc : Int) + off = (tgt : Int)) (ha : rg a) (hb2 : rg b) (kt : a > b → J κ lay ad cn sn tgt ls st w) (kf : ¬ a > b → J κ lay ad cn sn (pc + 3) ls st w) : J κ lay ad cn sn pc ls (vI b :: vI a :: st) w := by
  obtain ⟨p, l, e, R, s, m, args, below, meth, c, D, cI, cZ, A, Q⟩ := κ
  obtain ⟨hx, hb, hown, hts, hK, hN, hA, hlk, hfr, hlo⟩ := X
  intro H locs arr hP hD hS hL
  exact lv_icmp_gt hx hb hd ht (fun q => kt ((zI_lt hb2 ha).mp q) H locs arr hP hD hS hL) (fun q => kf (fun z => q ((zI_lt hb2 ha).mpr z)) H locs arr hP hD hS hL)
theorem j_if_gt (X : Okk κ cc own fr) {a : Int} {off : Int} {tgt : Nat} (hd : decode cc pc = .ok (.ifCond .gt off, 3)) (ht : (pc : Int) + off = (tgt : Int)) (ha : rg a) (kt : a > (0 : Int) → J κ lay ad cn sn tgt ls st w) (kf : ¬ a > (0 : Int) → J κ lay ad cn sn (pc + 3) ls st w) : J κ lay ad cn sn pc ls (vI a :: st) w := by
  obtain ⟨p, l, e, R, s, m, args, below, meth, c, D, cI, cZ, A, Q⟩ := κ
  obtain ⟨hx, hb, hown, hts, hK, hN, hA, hlk, hfr, hlo⟩ := X
  intro H locs arr hP hD hS hL
  exact lv_if_gt hx hb hd ht (fun q => kt ((zI_lt (a := 0) (⟨by decide, by decide⟩ : rg 0) ha).mp q) H locs arr hP hD hS hL) (fun q => kf (fun z => q ((zI_lt (a := 0) (⟨by decide, by decide⟩ : rg 0) ha).mpr z)) H locs arr hP hD hS hL)
theorem j_icmp_le (X : Okk κ cc own fr) {a b : Int} {off : Int} {tgt : Nat} (hd : decode cc pc = .ok (.if_icmp .le off, 3)) (ht : (pc : Int) + off = (tgt : Int)) (ha : rg a) (hb2 : rg b) (kt : a ≤ b → J κ lay ad cn sn tgt ls st w) (kf : ¬ a ≤ b → J κ lay ad cn sn (pc + 3) ls st w) : J κ lay ad cn sn pc ls (vI b :: vI a :: st) w := by
  obtain ⟨p, l, e, R, s, m, args, below, meth, c, D, cI, cZ, A, Q⟩ := κ
  obtain ⟨hx, hb, hown, hts, hK, hN, hA, hlk, hfr, hlo⟩ := X
  intro H locs arr hP hD hS hL
  exact lv_icmp_le hx hb hd ht (fun q => kt ((zI_le ha hb2).mp q) H locs arr hP hD hS hL) (fun q => kf (fun z => q ((zI_le ha hb2).mpr z)) H locs arr hP hD hS hL)
theorem j_if_le (X : Okk κ cc own fr) {a : Int} {off : Int} {tgt : Nat} (hd : decode cc pc = .ok (.ifCond .le off, 3)) (ht : (pc : Int) + off = (tgt : Int)) (ha : rg a) (kt : a ≤ (0 : Int) → J κ lay ad cn sn tgt ls st w) (kf : ¬ a ≤ (0 : Int) → J κ lay ad cn sn (pc + 3) ls st w) : J κ lay ad cn sn pc ls (vI a :: st) w := by
  obtain ⟨p, l, e, R, s, m, args, below, meth, c, D, cI, cZ, A, Q⟩ := κ
  obtain ⟨hx, hb, hown, hts, hK, hN, hA, hlk, hfr, hlo⟩ := X
  intro H locs arr hP hD hS hL
  exact lv_if_le hx hb hd ht (fun q => kt ((zI_le (b := 0) ha (⟨by decide, by decide⟩ : rg 0)).mp q) H locs arr hP hD hS hL) (fun q => kf (fun z => q ((zI_le (b := 0) ha (⟨by decide, by decide⟩ : rg 0)).mpr z)) H locs arr hP hD hS hL)
theorem j_goto (X : Okk κ cc own fr) {off : Int} {tgt : Nat} (hd : decode cc pc = .ok (.goto off, 3)) (ht : (pc : Int) + off = (tgt : Int)) (k : J κ lay ad cn sn tgt ls st w) : J κ lay ad cn sn pc ls st w := by
  obtain ⟨p, l, e, R, s, m, args, below, meth, c, D, cI, cZ, A, Q⟩ := κ
  obtain ⟨hx, hb, hown, hts, hK, hN, hA, hlk, hfr, hlo⟩ := X
  intro H locs arr hP hD hS hL
  exact lv_goto hx hb hd ht (k H locs arr hP hD hS hL)
theorem j_ifnonnull (X : Okk κ cc own fr) {a : Nat} {off : Int} {tgt : Nat} (hd : decode cc pc = .ok (.ifnonnull off, 3)) (ht : (pc : Int) + off = (tgt : Int)) (k : J κ lay ad cn sn tgt ls st w) : J κ lay ad cn sn pc ls (vR a :: st) w := by
  obtain ⟨p, l, e, R, s, m, args, below, meth, c, D, cI, cZ, A, Q⟩ := κ
  obtain ⟨hx, hb, hown, hts, hK, hN, hA, hlk, hfr, hlo⟩ := X
  intro H locs arr hP hD hS hL
  exact lv_ifnonnull hx hb hd ht (k H locs arr hP hD hS hL)
theorem j_ifnonnull_n (X : Okk κ cc own fr) {off : Int} (hd : decode cc pc = .ok (.ifnonnull off, 3)) (k : J κ lay ad cn sn (pc + 3) ls st w) : J κ lay ad cn sn pc ls (vN :: st) w := by
  obtain ⟨p, l, e, R, s, m, args, below, meth, c, D, cI, cZ, A, Q⟩ := κ
  obtain ⟨hx, hb, hown, hts, hK, hN, hA, hlk, hfr, hlo⟩ := X
  intro H locs arr hP hD hS hL
  exact lv_ifnonnullN hx hb hd (k H locs arr hP hD hS hL)
theorem j_ifnull (X : Okk κ cc own fr) {a : Nat} {off : Int} (hd : decode cc pc = .ok (.ifnull off, 3)) (k : J κ lay ad cn sn (pc + 3) ls st w) : J κ lay ad cn sn pc ls (vR a :: st) w := by
  obtain ⟨p, l, e, R, s, m, args, below, meth, c, D, cI, cZ, A, Q⟩ := κ
  obtain ⟨hx, hb, hown, hts, hK, hN, hA, hlk, hfr, hlo⟩ := X
  intro H locs arr hP hD hS hL
  exact lv_ifnull hx hb hd (k H locs arr hP hD hS hL)
theorem j_tabIn (X : Okk κ cc own fr) {dflt lo hi : Int} {offs : Array Int} {len : Nat} {a off : Int} {tgt : Nat} (hd : decode cc pc = .ok (.tableswitch dflt lo hi offs, len)) (ha : rg a) (h1 : lo ≤ a) (h2 : a ≤ hi) (ho : offs[(a - lo).toNat]? = some off) (ht : (pc : Int) + off = (tgt : Int)) (k : J κ lay ad cn sn tgt ls st w) : J κ lay ad cn sn pc ls (vI a :: st) w := by
  obtain ⟨p, l, e, R, s, m, args, below, meth, c, D, cI, cZ, A, Q⟩ := κ
  obtain ⟨hx, hb, hown, hts, hK, hN, hA, hlk, hfr, hlo⟩ := X
  intro H locs arr hP hD hS hL
  exact lv_tableIn (x := zI a) hx hb hd (by rw [zI_toInt ha]; omega) (by rw [zI_toInt ha]; omega) (by rw [zI_toInt ha]; exact ho) ht (k H locs arr hP hD hS hL)
theorem j_tabOut (X : Okk κ cc own fr) {dflt lo hi : Int} {offs : Array Int} {len : Nat} {a : Int} {tgt : Nat} (hd : decode cc pc = .ok (.tableswitch dflt lo hi offs, len)) (ha : rg a) (h : a < lo ∨ hi < a) (ht : (pc : Int) + dflt = (tgt : Int)) (k : J κ lay ad cn sn tgt ls st w) : J κ lay ad cn sn pc ls (vI a :: st) w := by
  obtain ⟨p, l, e, R, s, m, args, below, meth, c, D, cI, cZ, A, Q⟩ := κ
  obtain ⟨hx, hb, hown, hts, hK, hN, hA, hlk, hfr, hlo⟩ := X
  intro H locs arr hP hD hS hL
  exact lv_tableOut (x := zI a) hx hb hd (by rw [zI_toInt ha]; exact h) ht (k H locs arr hP hD hS hL)
theorem j_ldc (X : Okk κ cc own fr) {i : Nat} {a : Int} (hd : decode cc pc = .ok (.ldc i, 2)) (hc : Cond.constant own i (zI a) ∈ TB) (k : J κ lay ad cn sn (pc + 2) ls (vI a :: st) w) : J κ lay ad cn sn pc ls st w := by
  obtain ⟨p, l, e, R, s, m, args, below, meth, c, D, cI, cZ, A, Q⟩ := κ
  obtain ⟨hx, hb, hown, hts, hK, hN, hA, hlk, hfr, hlo⟩ := X
  intro H locs arr hP hD hS hL
  exact lv_ldc hx hb hown (hts _ hc) hd (k H locs arr hP hD hS hL)
theorem j_ldc2 (X : Okk κ cc own fr) {i : Nat} {a : Int} (hd : decode cc pc = .ok (.ldc2_w i, 3)) (hc : Cond.constantLong own i (zL a) ∈ TB) (k : J κ lay ad cn sn (pc + 3) ls (vL a :: st) w) : J κ lay ad cn sn pc ls st w := by
  obtain ⟨p, l, e, R, s, m, args, below, meth, c, D, cI, cZ, A, Q⟩ := κ
  obtain ⟨hx, hb, hown, hts, hK, hN, hA, hlk, hfr, hlo⟩ := X
  intro H locs arr hP hD hS hL
  exact lv_ldc2 hx hb hown (hts _ hc) hd (k H locs arr hP hD hS hL)
theorem j_lcmp (X : Okk κ cc own fr) {a b : Int} (hd : decode cc pc = .ok (.lcmp, 1)) (ha : rg a) (hb2 : rg b) (k : J κ lay ad cn sn (pc + 1) ls (vI (if a < b then -1 else if a = b then 0 else 1) :: st) w) : J κ lay ad cn sn pc ls (vL b :: vL a :: st) w := by
  obtain ⟨p, l, e, R, s, m, args, below, meth, c, D, cI, cZ, A, Q⟩ := κ
  obtain ⟨hx, hb, hown, hts, hK, hN, hA, hlk, hfr, hlo⟩ := X
  intro H locs arr hP hD hS hL
  refine W.lcmp (x := zL a) (y := zL b) hx hb hd ?_
  have e : lg_cmp (zL a) (zL b) = zI (if a < b then -1 else if a = b then 0 else 1) := by
    unfold lg_cmp
    have h1 : (zL a > zL b) ↔ b < a := by show zL b < zL a ↔ _; rw [Int64.lt_iff_toInt_lt, zL_toInt ha, zL_toInt hb2]
    have h2 : (zL a = zL b) ↔ a = b := by rw [← Int64.toInt_inj, zL_toInt ha, zL_toInt hb2]
    by_cases q1 : b < a
    · rw [if_pos (h1.mpr q1), if_neg (by omega), if_neg (by omega)]; rfl
    · rw [if_neg (fun z => q1 (h1.mp z))]
      by_cases q2 : a = b
      · rw [if_pos (h2.mpr q2), if_neg (by omega), if_pos q2]; rfl
      · rw [if_neg (fun z => q2 (h2.mp z)), if_pos (by omega)]; rfl
  rw [e]
  exact k H locs arr hP hD hS hL
end JROWS
