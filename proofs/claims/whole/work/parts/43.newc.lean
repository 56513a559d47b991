/-! ===== constructors: contracts with new cells ===== -/
def avr (a b : Nat) (v : av) : Bool := match v with
  | .inr (.inr (some k)) => decide (k < a) || decide (b ≤ k)
  | _ => true
def lsr (a b : Nat) (ls : List (Option av)) : Bool := ls.all (fun o => match o with | some v => avr a b v | none => true)
def str (a b : Nat) (st : List av) : Bool := st.all (avr a b)
theorem cv_adr {ad ad' : Nat → Nat} {a b : Nat} {v : av} (h : avr a b v = true) (ha : ∀ k, (k < a ∨ b ≤ k) → ad' k = ad k) : cv ad' v = cv ad v := by
  rcases v with x | x | r
  · rfl
  · rfl
  · cases r with
    | none => rfl
    | some k =>
      have : k < a ∨ b ≤ k := by simpa [avr] using h
      simp only [cv, Option.map_some, ha k this]
theorem st_adr {ad ad' : Nat → Nat} {a b : Nat} {st : List av} (h : str a b st = true) (ha : ∀ k, (k < a ∨ b ≤ k) → ad' k = ad k) : st.map (cv ad') = st.map (cv ad) := List.map_congr_left (fun v hv => cv_adr (List.all_eq_true.mp h v hv) ha)
theorem hasL_adr {ad ad' : Nat → Nat} {a b n : Nat} {arr : Array Slot} {ls : List (Option av)} (hL : hasL ad arr n ls) (h : lsr a b ls = true) (ha : ∀ k, (k < a ∨ b ≤ k) → ad' k = ad k) : hasL ad' arr n ls := by
  refine ⟨hL.1, hL.2.1, hL.2.2.1, fun k v hk => ?_⟩
  have h1 := List.all_eq_true.mp h (some v) (List.mem_of_getElem? hk)
  rw [cv_adr h1 ha]
  exact hL.2.2.2 k v hk
def rmN (d nc ns : Nat) : Room := { frames := d, cells := nc, slots := ns, locals := 40 * d }
def QN (D : va_G) (cI cZ : ClassId) (lay lay' : lyT) (ad : Nat → Nat) (A : Nat → Prop) (P : wd → Prop) : Array Value → State → Outcome → State → Prop := va_Qv (fun u : wd × (Nat → Nat) => P u.1 ∧ ∀ k, (k < lay.length ∨ lay'.length ≤ k) → u.2 k = ad k) (fun u t => bW D cI cZ lay' u.2 A u.1 t) A
def CalN (y : MethodName) (cc : ByteArray) (nL d nc ns : Nat) (lay lay' : lyT) (w : wd) (avs : List av) (P : wd → Prop) : Prop := ∀ (l : Launch) (D : va_G) (cI cZ : ClassId) (ad : Nat → Nat) (sz : Nat), Met l y (wsY y cc nL none) (rmN d nc ns) (preW D cI cZ lay ad sz w avs) (QN D cI cZ lay lay' ad (va_A (cells lay ad cI cZ w) sz) P) nc ns (va_A (cells lay ad cI cZ w) sz)
def ReN (κ : KT) (lay lay' : lyT) (ad : Nat → Nat) (nc ns : Nat) (P : wd → Prop) : Prop := match κ with
  | (p, l, e, R, s, m, args, below, meth, c, D, cI, cZ, A, Q) => meth.sig.returnType = none ∧ Q = MQ below (QN D cI cZ lay lay' ad A P) args s nc ns A
theorem calN_intro {y : MethodName} {cc : ByteArray} {nL d nc ns : Nat} {lay lay' : lyT} {w : wd} {avs : List av} {P : wd → Prop} (hy : plainName y.cls = true) (hini : y.name = "<init>") (hlen : (ent avs).length ≤ nL) {ls : List (Option av)} (hls : entL nL avs = ls) (body : ∀ κ ad, Okk κ cc y.cls d → Ini κ → csOk κ nc ns → ReN κ lay lay' ad nc ns P → J κ lay ad 0 0 0 ls [] w) : CalN y cc nL d nc ns lay lay' w avs P := by
  intro l D cI cZ ad sz
  refine Met.ofW (cc := cc) (maxL := nL) (ret := none) hy rfl ?_
  intro p e s m args below meth c s₁ B hml hv
  obtain ⟨rfl, hsz, hP, hK, hD0, hN⟩ := hv
  have hts := atoms_spec (ws := wsY y cc nL none) B.pre
  have hD := hD0.self (sz := sz)
  have hin : meth.name = "<init>" := by rw [← hini]; exact (name_of_methodNamed B.named B.method).1
  rw [lg_entry_eq]
  have hL := entL_has (ad := ad) (n := nL) (vs := avs) hlen
  rw [hls, ← hml] at hL
  rw [← hml]
  exact body (p, l, e, rmN d nc ns, s, m, (avs.map (cv ad)).toArray, below, meth, c, D, cI, cZ, va_A (cells lay ad cI cZ w) sz, MQ below (QN D cI cZ lay lay' ad (va_A (cells lay ad cI cZ w) sz) P) (avs.map (cv ad)).toArray s nc ns (va_A (cells lay ad cI cZ w) sz)) ad ⟨B.exec, B.bytes, findClass_of_methodNamed B.named, fun w hw => hts w (List.mem_cons_of_mem _ hw), hK, hN, fun q hq => Or.inr (by rw [← hsz]; exact hq), B.notSynchronized, Nat.le_refl _, Nat.le_refl _⟩ hin ⟨Nat.le_refl _, Nat.le_refl _⟩ ⟨B.returns, rfl⟩ s.heap [] _ hP hD va_S.rf hL
section JROWSC
variable {κ : KT} {cc : ByteArray} {own : String} {fr : Nat} {lay lay' lay0 : lyT} {ad ad0 : Nat → Nat} {cn sn pc : Nat} {ls : List (Option av)} {st st0 : List av} {w : wd} {y : MethodName} {cy : ByteArray} {nLy d n idx nc ns : Nat} {avs : List av}
theorem j_retN (X : Okk κ cc own fr) {P : wd → Prop} (hR : ReN κ lay0 lay' ad0 cn sn P) (hd : decode cc pc = .ok (.return_, 1)) (hp : P w) (had : ∀ k, (k < lay0.length ∨ lay'.length ≤ k) → ad k = ad0 k) : J κ lay' ad cn sn pc ls [] w := by
  obtain ⟨p, l, e, R, s, m, args, below, meth, c, D, cI, cZ, A, Q⟩ := κ
  obtain ⟨hx, hb, hown, hts, hK, hN, hA, hlk, hfr, hlo⟩ := X
  intro H locs arr hP hD hS hL
  obtain ⟨hr, rfl⟩ := hR
  exact W.vret hx hb hr (fun t ht hW => ⟨⟨(w, ad), rfl, ⟨hp, had⟩, by rw [ht]; exact hP, va_K.moved hW.alike hK, hD⟩, hS.F ht⟩) hS.2.2 hd hlk
theorem jc_N (X : Okk κ cc own fr) {P : wd → Prop} (hcs : csOk κ (cn + nc) (sn + ns)) (hm : MF y cy nLy none n) (hy1 : y.name = "<init>") (hv : Cond.instanceMethod y ∈ TB) (hl : ML own idx y) (hd2 : d + 1 ≤ fr) {o : Nat} (hn : avs.length = n) (hst : st0 = avs.reverse ++ vR o :: st) (hr : ((st.map (cv ad)).map fun v => v.category).sum ≤ 8) (hd : decode cc pc = .ok (.invokespecial idx, 3)) (hM : CalN y cy nLy d nc ns lay lay' w (vR o :: avs) P) (hb2 : (lsr lay.length lay'.length ls && str lay.length lay'.length st) = true) (k : ∀ ad' w', P w' → (∀ k, (k < lay.length ∨ lay'.length ≤ k) → ad' k = ad k) → J κ lay' ad' (cn + nc) (sn + ns) (pc + 3) ls st w') : J κ lay ad cn sn pc ls st0 w := by
  obtain ⟨p, l, e, R, s, m, args, below, meth, c, D, cI, cZ, A, Q⟩ := κ
  obtain ⟨hx, hb, hown, hts, hK, hN, hA, hlk, hfr, hlo⟩ := X
  simp only [Bool.and_eq_true] at hb2
  intro H locs arr hP hD hS hL
  have hFr : ∀ q, va_A (cells lay ad cI cZ w) H.size q → A q := by
    rintro q (⟨i, e0, h⟩ | h)
    · exact hD.2 i (q, e0) h
    · exact hA q (Nat.le_trans hS.1 h)
  have hM1 := hM l D cI cZ ad H.size
  have hgo : ∀ (u : wd × (Nat → Nat)) (t : State) (H1 : Heap) (locs1 : List Loc), t.heap = H1 → (P u.1 ∧ ∀ k, (k < lay.length ∨ lay'.length ≤ k) → u.2 k = ad k) → bW D cI cZ lay' u.2 (va_A (cells lay ad cI cZ w) H.size) u.1 t → va_S A s.heap H1 locs1 → W p l e R s m args below meth c H1 locs1 (cn + nc) (sn + ns) Q (F0 m (pc + 3) arr (st.map (cv ad))) := by
    intro u t H1 locs1 ht hw hB hS1
    obtain ⟨hP1, hK1, hD1⟩ := hB
    rw [ht] at hP1
    have h9 := k u.2 u.1 hw.1 hw.2 H1 locs1 arr hP1 (hD1.weaken (fun _ q _ h => hFr q.1 h)) hS1 (hasL_adr hL hb2.1 hw.2)
    rw [st_adr hb2.2 hw.2] at h9
    exact h9
  rcases hl with hl1 | ⟨host, hl1⟩
  · refine va_callv (va_runI (As := avs.map (cv ad)) (rest := st.map (cv ad)) (b := ad o) ⟨hx, hb, rfl, hown, hts⟩ hM1 (cwI n hts (gTB hm.1) rfl rfl rfl (hts _ hm.2.1) (hts _ hl1) (hts _ hv) hy1 hm.2.2.1 ⟨by show d + 1 ≤ R.frames; omega, by show 8 + (nLy + 11) + 40 * d ≤ R.locals; have := hm.2.2.2; omega⟩) ⟨preW_blind, fun U hU hW => ⟨rfl, by rw [hU], by rw [hU]; exact hP, va_K.moved hW.alike hK, hD.weaken (fun _ _ _ _ => trivial), Nst.warm hW hN⟩⟩ rfl (by rw [List.length_map]; exact hn) hL.1 (by show (st0.map (cv ad)) = _; rw [hst]; simp [List.map_append, List.map_reverse, cv, va_rf]) (lv_room hr) hd ⟨hcs.1, hcs.2⟩) hS (fun q _ h => hFr q h) hFr (fun u t H1 locs1 ht hvm hw hB hz1 hk1 hS1 => hgo u t H1 locs1 ht hw hB hS1)
  · have hcB := va_cnB (R := R) (own := own) (host := host) (index := idx) (rm := rmN d nc ns) (mc := nc) (ms := ns) n hts (gTB hm.1) rfl rfl rfl (hN _ hl1) (hts _ hm.2.1) hm.2.2.1 ⟨by show d + 1 ≤ R.frames; omega, by show 8 + (nLy + 11) + 40 * d ≤ R.locals; have := hm.2.2.2; omega⟩
    refine va_callv (va_runIN (As := avs.map (cv ad)) (rest := st.map (cv ad)) (b := ad o) ⟨hx, hb, rfl, hown, hts⟩ hM1 ⟨hcB, hy1, hts _ hv⟩ ⟨preW_blind, fun U hU hW => ⟨rfl, by rw [hU], by rw [hU]; exact hP, va_K.moved hW.alike hK, hD.weaken (fun _ _ _ _ => trivial), Nst.warm hW hN⟩⟩ rfl (by rw [List.length_map]; exact hn) hL.1 (by show (st0.map (cv ad)) = _; rw [hst]; simp [List.map_append, List.map_reverse, cv, va_rf]) (lv_room hr) hd ⟨hcs.1, hcs.2⟩) hS (fun q _ h => hFr q h) hFr (fun u t H1 locs1 ht hvm hw hB hz1 hk1 hS1 => hgo u t H1 locs1 ht hw hB hS1)
end JROWSC
theorem CalN.mono {y : MethodName} {cc : ByteArray} {nL d nc ns : Nat} {lay lay' : lyT} {w : wd} {avs : List av} {P P' : wd → Prop} (h : CalN y cc nL d nc ns lay lay' w avs P) (hp : ∀ w', P w' → P' w') : CalN y cc nL d nc ns lay lay' w avs P' := by
  intro l D cI cZ ad sz
  refine MetFree.mono (h l D cI cZ ad sz) (fun _ _ q => q) (fun _ _ _ _ _ q => q) (fun a s o t _ q => ⟨?_, q.2⟩)
  obtain ⟨⟨u, e1, hb, e3⟩, hF⟩ := q.1
  exact ⟨⟨u, e1, ⟨hp u.1 hb.1, hb.2⟩, e3⟩, hF⟩
