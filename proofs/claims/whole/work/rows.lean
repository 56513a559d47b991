section
-- ===== PART A: goes FIRST, ahead of the names: the tables' words, and 'selects' of the private methods out of them =====
/-- a private method of a class that the tables say can be made, by its rows of tables_1 -/
def lw_okq (q : MethodName × Nat) : Prop := (q.1.cls ≠ "java/lang/invoke/MethodHandle" ∧ q.1.cls ≠ "java/lang/invoke/VarHandle") ∧ Cond.instantiable q.1.cls q.2 ∈ tables_1 ∧ Cond.privateMethod q.1 ∈ tables_1 ∧ Cond.instanceMethod q.1 ∈ tables_1
theorem lw_p0 : lw_okq (⟨"OneSnip", "begin", "(I)V"⟩, 7) := ⟨⟨by decide +kernel, by decide +kernel⟩, List.mem_of_getElem? (i := 15) (by decide +kernel), List.mem_of_getElem? (i := 238) (by decide +kernel), List.mem_of_getElem? (i := 239) (by decide +kernel)⟩
theorem lw_p1 : lw_okq (⟨"OneSnip$Sheet", "place", "(III)V"⟩, 5) := ⟨⟨by decide +kernel, by decide +kernel⟩, List.mem_of_getElem? (i := 23) (by decide +kernel), List.mem_of_getElem? (i := 246) (by decide +kernel), List.mem_of_getElem? (i := 247) (by decide +kernel)⟩
theorem lw_p2 : lw_okq (⟨"OneSnip$Sheet", "across", "(III)I"⟩, 5) := ⟨⟨by decide +kernel, by decide +kernel⟩, List.mem_of_getElem? (i := 23) (by decide +kernel), List.mem_of_getElem? (i := 257) (by decide +kernel), List.mem_of_getElem? (i := 258) (by decide +kernel)⟩
theorem lw_p3 : lw_okq (⟨"OneSnip$Pile", "spread", "()V"⟩, 12) := ⟨⟨by decide +kernel, by decide +kernel⟩, List.mem_of_getElem? (i := 54) (by decide +kernel), List.mem_of_getElem? (i := 270) (by decide +kernel), List.mem_of_getElem? (i := 271) (by decide +kernel)⟩
theorem lw_p4 : lw_okq (⟨"OneSnip$Pile", "measure", "()V"⟩, 12) := ⟨⟨by decide +kernel, by decide +kernel⟩, List.mem_of_getElem? (i := 54) (by decide +kernel), List.mem_of_getElem? (i := 290) (by decide +kernel), List.mem_of_getElem? (i := 291) (by decide +kernel)⟩
theorem lw_p5 : lw_okq (⟨"OneSnip$Pile", "spot", "(I)I"⟩, 12) := ⟨⟨by decide +kernel, by decide +kernel⟩, List.mem_of_getElem? (i := 54) (by decide +kernel), List.mem_of_getElem? (i := 300) (by decide +kernel), List.mem_of_getElem? (i := 301) (by decide +kernel)⟩
theorem lw_p6 : lw_okq (⟨"OneSnip$Snip", "part", "()V"⟩, 6) := ⟨⟨by decide +kernel, by decide +kernel⟩, List.mem_of_getElem? (i := 111) (by decide +kernel), List.mem_of_getElem? (i := 313) (by decide +kernel), List.mem_of_getElem? (i := 314) (by decide +kernel)⟩
theorem lw_p7 : lw_okq (⟨"OneSnip$Snip", "gather", "(I)V"⟩, 6) := ⟨⟨by decide +kernel, by decide +kernel⟩, List.mem_of_getElem? (i := 111) (by decide +kernel), List.mem_of_getElem? (i := 323) (by decide +kernel), List.mem_of_getElem? (i := 324) (by decide +kernel)⟩
theorem lw_p8 : lw_okq (⟨"OneSnip$Pile", "turn", "(IIIZ)V"⟩, 12) := ⟨⟨by decide +kernel, by decide +kernel⟩, List.mem_of_getElem? (i := 54) (by decide +kernel), List.mem_of_getElem? (i := 419) (by decide +kernel), List.mem_of_getElem? (i := 420) (by decide +kernel)⟩
theorem lw_p9 : lw_okq (⟨"OneSnip$Pile", "layerBehind", "(IIIIZ)I"⟩, 12) := ⟨⟨by decide +kernel, by decide +kernel⟩, List.mem_of_getElem? (i := 54) (by decide +kernel), List.mem_of_getElem? (i := 423) (by decide +kernel), List.mem_of_getElem? (i := 424) (by decide +kernel)⟩
theorem lw_p10 : lw_okq (⟨"OneSnip$Pile", "mirrorSpot", "(III)I"⟩, 12) := ⟨⟨by decide +kernel, by decide +kernel⟩, List.mem_of_getElem? (i := 54) (by decide +kernel), List.mem_of_getElem? (i := 427) (by decide +kernel), List.mem_of_getElem? (i := 428) (by decide +kernel)⟩
theorem lw_p11 : lw_okq (⟨"OneSnip$Pile", "flip", "(III)V"⟩, 12) := ⟨⟨by decide +kernel, by decide +kernel⟩, List.mem_of_getElem? (i := 54) (by decide +kernel), List.mem_of_getElem? (i := 448) (by decide +kernel), List.mem_of_getElem? (i := 449) (by decide +kernel)⟩
theorem lw_p12 : lw_okq (⟨"OneSnip$Pile", "least", "([I)I"⟩, 12) := ⟨⟨by decide +kernel, by decide +kernel⟩, List.mem_of_getElem? (i := 54) (by decide +kernel), List.mem_of_getElem? (i := 521) (by decide +kernel), List.mem_of_getElem? (i := 522) (by decide +kernel)⟩
theorem lw_p13 : lw_okq (⟨"OneSnip$Pile", "greatest", "([I)I"⟩, 12) := ⟨⟨by decide +kernel, by decide +kernel⟩, List.mem_of_getElem? (i := 54) (by decide +kernel), List.mem_of_getElem? (i := 532) (by decide +kernel), List.mem_of_getElem? (i := 533) (by decide +kernel)⟩
theorem lw_p14 : lw_okq (⟨"OneSnip$Creases", "isFirstOf", "(II)Z"⟩, 2) := ⟨⟨by decide +kernel, by decide +kernel⟩, List.mem_of_getElem? (i := 98) (by decide +kernel), List.mem_of_getElem? (i := 576) (by decide +kernel), List.mem_of_getElem? (i := 577) (by decide +kernel)⟩
theorem lw_p15 : lw_okq (⟨"OneSnip$Creases", "endsAt", "(IIII)Z"⟩, 2) := ⟨⟨by decide +kernel, by decide +kernel⟩, List.mem_of_getElem? (i := 98) (by decide +kernel), List.mem_of_getElem? (i := 594) (by decide +kernel), List.mem_of_getElem? (i := 595) (by decide +kernel)⟩
def lw_privs_1 : List (MethodName × Nat) := [(⟨"OneSnip", "begin", "(I)V"⟩, 7), (⟨"OneSnip$Sheet", "place", "(III)V"⟩, 5), (⟨"OneSnip$Sheet", "across", "(III)I"⟩, 5), (⟨"OneSnip$Pile", "spread", "()V"⟩, 12), (⟨"OneSnip$Pile", "measure", "()V"⟩, 12), (⟨"OneSnip$Pile", "spot", "(I)I"⟩, 12), (⟨"OneSnip$Snip", "part", "()V"⟩, 6), (⟨"OneSnip$Snip", "gather", "(I)V"⟩, 6), (⟨"OneSnip$Pile", "turn", "(IIIZ)V"⟩, 12), (⟨"OneSnip$Pile", "layerBehind", "(IIIIZ)I"⟩, 12), (⟨"OneSnip$Pile", "mirrorSpot", "(III)I"⟩, 12), (⟨"OneSnip$Pile", "flip", "(III)V"⟩, 12), (⟨"OneSnip$Pile", "least", "([I)I"⟩, 12), (⟨"OneSnip$Pile", "greatest", "([I)I"⟩, 12), (⟨"OneSnip$Creases", "isFirstOf", "(II)Z"⟩, 2), (⟨"OneSnip$Creases", "endsAt", "(IIII)Z"⟩, 2)]
theorem lw_r1 : ∀ q ∈ lw_privs_1, lw_okq q := List.forall_mem_cons.mpr ⟨lw_p0, List.forall_mem_cons.mpr ⟨lw_p1, List.forall_mem_cons.mpr ⟨lw_p2, List.forall_mem_cons.mpr ⟨lw_p3, List.forall_mem_cons.mpr ⟨lw_p4, List.forall_mem_cons.mpr ⟨lw_p5, List.forall_mem_cons.mpr ⟨lw_p6, List.forall_mem_cons.mpr ⟨lw_p7, List.forall_mem_cons.mpr ⟨lw_p8, List.forall_mem_cons.mpr ⟨lw_p9, List.forall_mem_cons.mpr ⟨lw_p10, List.forall_mem_cons.mpr ⟨lw_p11, List.forall_mem_cons.mpr ⟨lw_p12, List.forall_mem_cons.mpr ⟨lw_p13, List.forall_mem_cons.mpr ⟨lw_p14, List.forall_mem_cons.mpr ⟨lw_p15, fun _ h => absurd h List.not_mem_nil⟩⟩⟩⟩⟩⟩⟩⟩⟩⟩⟩⟩⟩⟩⟩⟩
theorem lw_p16 : lw_okq (⟨"OneSnip$Snip", "reachesOut", "(I)Z"⟩, 6) := ⟨⟨by decide +kernel, by decide +kernel⟩, List.mem_of_getElem? (i := 111) (by decide +kernel), List.mem_of_getElem? (i := 654) (by decide +kernel), List.mem_of_getElem? (i := 655) (by decide +kernel)⟩
theorem lw_p17 : lw_okq (⟨"OneSnip", "draw", "(IZ)V"⟩, 7) := ⟨⟨by decide +kernel, by decide +kernel⟩, List.mem_of_getElem? (i := 15) (by decide +kernel), List.mem_of_getElem? (i := 675) (by decide +kernel), List.mem_of_getElem? (i := 676) (by decide +kernel)⟩
theorem lw_p18 : lw_okq (⟨"OneSnip$Layout", "clear", "(I)V"⟩, 10) := ⟨⟨by decide +kernel, by decide +kernel⟩, List.mem_of_getElem? (i := 162) (by decide +kernel), List.mem_of_getElem? (i := 739) (by decide +kernel), List.mem_of_getElem? (i := 740) (by decide +kernel)⟩
theorem lw_p19 : lw_okq (⟨"OneSnip$Layout", "putAround", "(LOneSnip$Sheet;LOneSnip$Figure;ZI)V"⟩, 10) := ⟨⟨by decide +kernel, by decide +kernel⟩, List.mem_of_getElem? (i := 162) (by decide +kernel), List.mem_of_getElem? (i := 747) (by decide +kernel), List.mem_of_getElem? (i := 748) (by decide +kernel)⟩
theorem lw_p20 : lw_okq (⟨"OneSnip$Layout", "put", "(IIII)V"⟩, 10) := ⟨⟨by decide +kernel, by decide +kernel⟩, List.mem_of_getElem? (i := 162) (by decide +kernel), List.mem_of_getElem? (i := 765) (by decide +kernel), List.mem_of_getElem? (i := 766) (by decide +kernel)⟩
theorem lw_p21 : lw_okq (⟨"OneSnip$Layout", "widen", "(II)V"⟩, 10) := ⟨⟨by decide +kernel, by decide +kernel⟩, List.mem_of_getElem? (i := 162) (by decide +kernel), List.mem_of_getElem? (i := 774) (by decide +kernel), List.mem_of_getElem? (i := 775) (by decide +kernel)⟩
theorem lw_p22 : lw_okq (⟨"OneSnip$Search", "tryRows", "(I)V"⟩, 12) := ⟨⟨by decide +kernel, by decide +kernel⟩, List.mem_of_getElem? (i := 156) (by decide +kernel), List.mem_of_getElem? (i := 780) (by decide +kernel), List.mem_of_getElem? (i := 781) (by decide +kernel)⟩
theorem lw_p23 : lw_okq (⟨"OneSnip$Search", "weigh", "(LOneSnip$Layout;)V"⟩, 12) := ⟨⟨by decide +kernel, by decide +kernel⟩, List.mem_of_getElem? (i := 156) (by decide +kernel), List.mem_of_getElem? (i := 787) (by decide +kernel), List.mem_of_getElem? (i := 788) (by decide +kernel)⟩
theorem lw_p24 : lw_okq (⟨"OneSnip$Layout", "lastCut", "(II)I"⟩, 10) := ⟨⟨by decide +kernel, by decide +kernel⟩, List.mem_of_getElem? (i := 162) (by decide +kernel), List.mem_of_getElem? (i := 795) (by decide +kernel), List.mem_of_getElem? (i := 796) (by decide +kernel)⟩
theorem lw_p25 : lw_okq (⟨"OneSnip$Layout", "firstCut", "(II)I"⟩, 10) := ⟨⟨by decide +kernel, by decide +kernel⟩, List.mem_of_getElem? (i := 162) (by decide +kernel), List.mem_of_getElem? (i := 799) (by decide +kernel), List.mem_of_getElem? (i := 800) (by decide +kernel)⟩
theorem lw_p26 : lw_okq (⟨"OneSnip$Layout", "greatest", "(I)I"⟩, 10) := ⟨⟨by decide +kernel, by decide +kernel⟩, List.mem_of_getElem? (i := 162) (by decide +kernel), List.mem_of_getElem? (i := 816) (by decide +kernel), List.mem_of_getElem? (i := 817) (by decide +kernel)⟩
theorem lw_p27 : lw_okq (⟨"OneSnip$Layout", "least", "(I)I"⟩, 10) := ⟨⟨by decide +kernel, by decide +kernel⟩, List.mem_of_getElem? (i := 162) (by decide +kernel), List.mem_of_getElem? (i := 825) (by decide +kernel), List.mem_of_getElem? (i := 826) (by decide +kernel)⟩
theorem lw_p28 : lw_okq (⟨"OneSnip$Layout", "secondKind", "()I"⟩, 10) := ⟨⟨by decide +kernel, by decide +kernel⟩, List.mem_of_getElem? (i := 162) (by decide +kernel), List.mem_of_getElem? (i := 838) (by decide +kernel), List.mem_of_getElem? (i := 839) (by decide +kernel)⟩
theorem lw_p29 : lw_okq (⟨"OneSnip$Layout", "isEntangled", "()Z"⟩, 10) := ⟨⟨by decide +kernel, by decide +kernel⟩, List.mem_of_getElem? (i := 162) (by decide +kernel), List.mem_of_getElem? (i := 851) (by decide +kernel), List.mem_of_getElem? (i := 852) (by decide +kernel)⟩
theorem lw_p30 : lw_okq (⟨"OneSnipModel", "begin", "(I)V"⟩, 35) := ⟨⟨by decide +kernel, by decide +kernel⟩, List.mem_of_getElem? (i := 876) (by decide +kernel), List.mem_of_getElem? (i := 882) (by decide +kernel), List.mem_of_getElem? (i := 883) (by decide +kernel)⟩
theorem lw_p31 : lw_okq (⟨"OneSnipModel", "facets", "()I"⟩, 35) := ⟨⟨by decide +kernel, by decide +kernel⟩, List.mem_of_getElem? (i := 876) (by decide +kernel), List.mem_of_getElem? (i := 886) (by decide +kernel), List.mem_of_getElem? (i := 887) (by decide +kernel)⟩
def lw_privs_2 : List (MethodName × Nat) := [(⟨"OneSnip$Snip", "reachesOut", "(I)Z"⟩, 6), (⟨"OneSnip", "draw", "(IZ)V"⟩, 7), (⟨"OneSnip$Layout", "clear", "(I)V"⟩, 10), (⟨"OneSnip$Layout", "putAround", "(LOneSnip$Sheet;LOneSnip$Figure;ZI)V"⟩, 10), (⟨"OneSnip$Layout", "put", "(IIII)V"⟩, 10), (⟨"OneSnip$Layout", "widen", "(II)V"⟩, 10), (⟨"OneSnip$Search", "tryRows", "(I)V"⟩, 12), (⟨"OneSnip$Search", "weigh", "(LOneSnip$Layout;)V"⟩, 12), (⟨"OneSnip$Layout", "lastCut", "(II)I"⟩, 10), (⟨"OneSnip$Layout", "firstCut", "(II)I"⟩, 10), (⟨"OneSnip$Layout", "greatest", "(I)I"⟩, 10), (⟨"OneSnip$Layout", "least", "(I)I"⟩, 10), (⟨"OneSnip$Layout", "secondKind", "()I"⟩, 10), (⟨"OneSnip$Layout", "isEntangled", "()Z"⟩, 10), (⟨"OneSnipModel", "begin", "(I)V"⟩, 35), (⟨"OneSnipModel", "facets", "()I"⟩, 35)]
theorem lw_r2 : ∀ q ∈ lw_privs_2, lw_okq q := List.forall_mem_cons.mpr ⟨lw_p16, List.forall_mem_cons.mpr ⟨lw_p17, List.forall_mem_cons.mpr ⟨lw_p18, List.forall_mem_cons.mpr ⟨lw_p19, List.forall_mem_cons.mpr ⟨lw_p20, List.forall_mem_cons.mpr ⟨lw_p21, List.forall_mem_cons.mpr ⟨lw_p22, List.forall_mem_cons.mpr ⟨lw_p23, List.forall_mem_cons.mpr ⟨lw_p24, List.forall_mem_cons.mpr ⟨lw_p25, List.forall_mem_cons.mpr ⟨lw_p26, List.forall_mem_cons.mpr ⟨lw_p27, List.forall_mem_cons.mpr ⟨lw_p28, List.forall_mem_cons.mpr ⟨lw_p29, List.forall_mem_cons.mpr ⟨lw_p30, List.forall_mem_cons.mpr ⟨lw_p31, fun _ h => absurd h List.not_mem_nil⟩⟩⟩⟩⟩⟩⟩⟩⟩⟩⟩⟩⟩⟩⟩⟩
theorem lw_p32 : lw_okq (⟨"OneSnipModel", "keep", "()V"⟩, 35) := ⟨⟨by decide +kernel, by decide +kernel⟩, List.mem_of_getElem? (i := 876) (by decide +kernel), List.mem_of_getElem? (i := 1021) (by decide +kernel), List.mem_of_getElem? (i := 1022) (by decide +kernel)⟩
theorem lw_p33 : lw_okq (⟨"OneSnipModel", "nextTo", "(II)I"⟩, 35) := ⟨⟨by decide +kernel, by decide +kernel⟩, List.mem_of_getElem? (i := 876) (by decide +kernel), List.mem_of_getElem? (i := 1025) (by decide +kernel), List.mem_of_getElem? (i := 1026) (by decide +kernel)⟩
theorem lw_p34 : lw_okq (⟨"OneSnipModel", "turn", "(IIIII)V"⟩, 35) := ⟨⟨by decide +kernel, by decide +kernel⟩, List.mem_of_getElem? (i := 876) (by decide +kernel), List.mem_of_getElem? (i := 1030) (by decide +kernel), List.mem_of_getElem? (i := 1031) (by decide +kernel)⟩
theorem lw_p35 : lw_okq (⟨"OneSnipModel", "isThere", "(IIII)Z"⟩, 35) := ⟨⟨by decide +kernel, by decide +kernel⟩, List.mem_of_getElem? (i := 876) (by decide +kernel), List.mem_of_getElem? (i := 1034) (by decide +kernel), List.mem_of_getElem? (i := 1035) (by decide +kernel)⟩
theorem lw_p36 : lw_okq (⟨"OneSnipModel", "placesOf", "()I"⟩, 35) := ⟨⟨by decide +kernel, by decide +kernel⟩, List.mem_of_getElem? (i := 876) (by decide +kernel), List.mem_of_getElem? (i := 1038) (by decide +kernel), List.mem_of_getElem? (i := 1039) (by decide +kernel)⟩
theorem lw_p37 : lw_okq (⟨"OneSnipModel", "noFacet", "(I)Z"⟩, 35) := ⟨⟨by decide +kernel, by decide +kernel⟩, List.mem_of_getElem? (i := 876) (by decide +kernel), List.mem_of_getElem? (i := 1050) (by decide +kernel), List.mem_of_getElem? (i := 1051) (by decide +kernel)⟩
theorem lw_p38 : lw_okq (⟨"OneSnipModel", "deepOf", "(III)I"⟩, 35) := ⟨⟨by decide +kernel, by decide +kernel⟩, List.mem_of_getElem? (i := 876) (by decide +kernel), List.mem_of_getElem? (i := 1054) (by decide +kernel), List.mem_of_getElem? (i := 1055) (by decide +kernel)⟩
theorem lw_p39 : lw_okq (⟨"OneSnipModel", "noPoint", "(IIZ)Z"⟩, 35) := ⟨⟨by decide +kernel, by decide +kernel⟩, List.mem_of_getElem? (i := 876) (by decide +kernel), List.mem_of_getElem? (i := 1095) (by decide +kernel), List.mem_of_getElem? (i := 1096) (by decide +kernel)⟩
theorem lw_p40 : lw_okq (⟨"OneSnipModel", "ends", "(IIZI)I"⟩, 35) := ⟨⟨by decide +kernel, by decide +kernel⟩, List.mem_of_getElem? (i := 876) (by decide +kernel), List.mem_of_getElem? (i := 1099) (by decide +kernel), List.mem_of_getElem? (i := 1100) (by decide +kernel)⟩
theorem lw_p41 : lw_okq (⟨"OneSnipModel", "slant", "(III)I"⟩, 35) := ⟨⟨by decide +kernel, by decide +kernel⟩, List.mem_of_getElem? (i := 876) (by decide +kernel), List.mem_of_getElem? (i := 1103) (by decide +kernel), List.mem_of_getElem? (i := 1104) (by decide +kernel)⟩
theorem lw_p42 : lw_okq (⟨"OneSnipModel", "outer", "(III)I"⟩, 35) := ⟨⟨by decide +kernel, by decide +kernel⟩, List.mem_of_getElem? (i := 876) (by decide +kernel), List.mem_of_getElem? (i := 1107) (by decide +kernel), List.mem_of_getElem? (i := 1108) (by decide +kernel)⟩
theorem lw_p43 : lw_okq (⟨"OneSnipModel", "thickOf", "(II)I"⟩, 35) := ⟨⟨by decide +kernel, by decide +kernel⟩, List.mem_of_getElem? (i := 876) (by decide +kernel), List.mem_of_getElem? (i := 1124) (by decide +kernel), List.mem_of_getElem? (i := 1125) (by decide +kernel)⟩
theorem lw_p44 : lw_okq (⟨"OneSnipModel", "touches", "(III)Z"⟩, 35) := ⟨⟨by decide +kernel, by decide +kernel⟩, List.mem_of_getElem? (i := 876) (by decide +kernel), List.mem_of_getElem? (i := 1128) (by decide +kernel), List.mem_of_getElem? (i := 1129) (by decide +kernel)⟩
theorem lw_p45 : lw_okq (⟨"OneSnipModel", "fallsOf", "(III)I"⟩, 35) := ⟨⟨by decide +kernel, by decide +kernel⟩, List.mem_of_getElem? (i := 876) (by decide +kernel), List.mem_of_getElem? (i := 1136) (by decide +kernel), List.mem_of_getElem? (i := 1137) (by decide +kernel)⟩
theorem lw_p46 : lw_okq (⟨"OneSnipModel", "hang", "()V"⟩, 35) := ⟨⟨by decide +kernel, by decide +kernel⟩, List.mem_of_getElem? (i := 876) (by decide +kernel), List.mem_of_getElem? (i := 1148) (by decide +kernel), List.mem_of_getElem? (i := 1149) (by decide +kernel)⟩
theorem lw_p47 : lw_okq (⟨"OneSnipModel", "marked", "()I"⟩, 35) := ⟨⟨by decide +kernel, by decide +kernel⟩, List.mem_of_getElem? (i := 876) (by decide +kernel), List.mem_of_getElem? (i := 1172) (by decide +kernel), List.mem_of_getElem? (i := 1173) (by decide +kernel)⟩
def lw_privs_3 : List (MethodName × Nat) := [(⟨"OneSnipModel", "keep", "()V"⟩, 35), (⟨"OneSnipModel", "nextTo", "(II)I"⟩, 35), (⟨"OneSnipModel", "turn", "(IIIII)V"⟩, 35), (⟨"OneSnipModel", "isThere", "(IIII)Z"⟩, 35), (⟨"OneSnipModel", "placesOf", "()I"⟩, 35), (⟨"OneSnipModel", "noFacet", "(I)Z"⟩, 35), (⟨"OneSnipModel", "deepOf", "(III)I"⟩, 35), (⟨"OneSnipModel", "noPoint", "(IIZ)Z"⟩, 35), (⟨"OneSnipModel", "ends", "(IIZI)I"⟩, 35), (⟨"OneSnipModel", "slant", "(III)I"⟩, 35), (⟨"OneSnipModel", "outer", "(III)I"⟩, 35), (⟨"OneSnipModel", "thickOf", "(II)I"⟩, 35), (⟨"OneSnipModel", "touches", "(III)Z"⟩, 35), (⟨"OneSnipModel", "fallsOf", "(III)I"⟩, 35), (⟨"OneSnipModel", "hang", "()V"⟩, 35), (⟨"OneSnipModel", "marked", "()I"⟩, 35)]
theorem lw_r3 : ∀ q ∈ lw_privs_3, lw_okq q := List.forall_mem_cons.mpr ⟨lw_p32, List.forall_mem_cons.mpr ⟨lw_p33, List.forall_mem_cons.mpr ⟨lw_p34, List.forall_mem_cons.mpr ⟨lw_p35, List.forall_mem_cons.mpr ⟨lw_p36, List.forall_mem_cons.mpr ⟨lw_p37, List.forall_mem_cons.mpr ⟨lw_p38, List.forall_mem_cons.mpr ⟨lw_p39, List.forall_mem_cons.mpr ⟨lw_p40, List.forall_mem_cons.mpr ⟨lw_p41, List.forall_mem_cons.mpr ⟨lw_p42, List.forall_mem_cons.mpr ⟨lw_p43, List.forall_mem_cons.mpr ⟨lw_p44, List.forall_mem_cons.mpr ⟨lw_p45, List.forall_mem_cons.mpr ⟨lw_p46, List.forall_mem_cons.mpr ⟨lw_p47, fun _ h => absurd h List.not_mem_nil⟩⟩⟩⟩⟩⟩⟩⟩⟩⟩⟩⟩⟩⟩⟩⟩
theorem lw_p48 : lw_okq (⟨"OneSnipModel", "isMirror", "(II)Z"⟩, 35) := ⟨⟨by decide +kernel, by decide +kernel⟩, List.mem_of_getElem? (i := 876) (by decide +kernel), List.mem_of_getElem? (i := 1188) (by decide +kernel), List.mem_of_getElem? (i := 1189) (by decide +kernel)⟩
theorem lw_p49 : lw_okq (⟨"OneSnipModel", "look", "(I)I"⟩, 35) := ⟨⟨by decide +kernel, by decide +kernel⟩, List.mem_of_getElem? (i := 876) (by decide +kernel), List.mem_of_getElem? (i := 1200) (by decide +kernel), List.mem_of_getElem? (i := 1201) (by decide +kernel)⟩
theorem lw_p50 : lw_okq (⟨"OneSnipModel", "measure", "(I)V"⟩, 35) := ⟨⟨by decide +kernel, by decide +kernel⟩, List.mem_of_getElem? (i := 876) (by decide +kernel), List.mem_of_getElem? (i := 1204) (by decide +kernel), List.mem_of_getElem? (i := 1205) (by decide +kernel)⟩
theorem lw_p51 : lw_okq (⟨"OneSnipModel", "goThrough", "(I)Z"⟩, 35) := ⟨⟨by decide +kernel, by decide +kernel⟩, List.mem_of_getElem? (i := 876) (by decide +kernel), List.mem_of_getElem? (i := 1210) (by decide +kernel), List.mem_of_getElem? (i := 1211) (by decide +kernel)⟩
theorem lw_p52 : lw_okq (⟨"OneSnipModel", "cuts", "(I)I"⟩, 35) := ⟨⟨by decide +kernel, by decide +kernel⟩, List.mem_of_getElem? (i := 876) (by decide +kernel), List.mem_of_getElem? (i := 1214) (by decide +kernel), List.mem_of_getElem? (i := 1215) (by decide +kernel)⟩
theorem lw_p53 : lw_okq (⟨"OneSnipModel", "goes", "(II)Z"⟩, 35) := ⟨⟨by decide +kernel, by decide +kernel⟩, List.mem_of_getElem? (i := 876) (by decide +kernel), List.mem_of_getElem? (i := 1218) (by decide +kernel), List.mem_of_getElem? (i := 1219) (by decide +kernel)⟩
def lw_privs_4 : List (MethodName × Nat) := [(⟨"OneSnipModel", "isMirror", "(II)Z"⟩, 35), (⟨"OneSnipModel", "look", "(I)I"⟩, 35), (⟨"OneSnipModel", "measure", "(I)V"⟩, 35), (⟨"OneSnipModel", "goThrough", "(I)Z"⟩, 35), (⟨"OneSnipModel", "cuts", "(I)I"⟩, 35), (⟨"OneSnipModel", "goes", "(II)Z"⟩, 35)]
theorem lw_r4 : ∀ q ∈ lw_privs_4, lw_okq q := List.forall_mem_cons.mpr ⟨lw_p48, List.forall_mem_cons.mpr ⟨lw_p49, List.forall_mem_cons.mpr ⟨lw_p50, List.forall_mem_cons.mpr ⟨lw_p51, List.forall_mem_cons.mpr ⟨lw_p52, List.forall_mem_cons.mpr ⟨lw_p53, fun _ h => absurd h List.not_mem_nil⟩⟩⟩⟩⟩⟩
def lw_privs : List (MethodName × Nat) := lw_privs_1 ++ (lw_privs_2 ++ (lw_privs_3 ++ (lw_privs_4)))
def lw_tbl : List Cond := k2_sels lw_privs ++ tables_1
theorem lw_privs_ok : ∀ q ∈ lw_privs, lw_okq q := by
  show ∀ q ∈ lw_privs_1 ++ (lw_privs_2 ++ (lw_privs_3 ++ (lw_privs_4))), lw_okq q
  exact List.forall_mem_append.mpr ⟨lw_r1, List.forall_mem_append.mpr ⟨lw_r2, List.forall_mem_append.mpr ⟨lw_r3, lw_r4⟩⟩⟩
-- ===== end of PART A; then your names; then what follows =====
end
section
/-! the printed names of the claim (claim/NAMES.whole): names, field tables, decode rows -/
def RX0 : String := "OneSnip$Creases"
def TX0 : u_T := fun k => match k with
  | 0 => ("OneSnip$Creases", "sheet", "LOneSnip$Sheet;", true)
  | _ => ("OneSnip$Creases", "pile", "LOneSnip$Pile;", true)
def tyX0 : Nat → FieldType := fun k => match k with
  | 0 => .object "OneSnip$Sheet"
  | _ => .object "OneSnip$Pile"
abbrev wsX00 : List Cond := u_ws RX0 TX0 2
theorem nmX0 : ∀ a, a < 2 → ∀ b, b < 2 → a ≠ b → (TX0 a).2.1 ≠ (TX0 b).2.1 := by decide +kernel
theorem tyX0_ok : ∀ k, k < 2 → parseFieldDescriptor (TX0 k).2.2.1 = some (tyX0 k) := by decide +kernel
abbrev cX0_init : ByteArray := prog_2_method_1_code
def yX0_init : MethodName := ⟨RX0, "<init>", "(LOneSnip$Sheet;LOneSnip$Pile;)V"⟩
abbrev cX0_kind : ByteArray := prog_2_method_2_code
def yX0_kind : MethodName := ⟨RX0, "kind", "(II)I"⟩
abbrev cX0_total : ByteArray := prog_2_method_3_code
def yX0_total : MethodName := ⟨RX0, "total", "(I)I"⟩
abbrev cX0_ending : ByteArray := prog_2_method_4_code
def yX0_ending : MethodName := ⟨RX0, "ending", "(IIIZ)I"⟩
abbrev cX0_isFirstOf : ByteArray := prog_2_method_5_code
def yX0_isFirstOf : MethodName := ⟨RX0, "isFirstOf", "(II)Z"⟩
abbrev cX0_endsAt : ByteArray := prog_2_method_6_code
def yX0_endsAt : MethodName := ⟨RX0, "endsAt", "(IIII)Z"⟩
abbrev cX0_isCorner : ByteArray := prog_2_method_7_code
def yX0_isCorner : MethodName := ⟨RX0, "isCorner", "(III)Z"⟩
def RX1 : String := "OneSnip$Figure"
def TX1 : u_T := fun k => match k with
  | 0 => ("OneSnip$Figure", "sheet", "LOneSnip$Sheet;", true)
  | 1 => ("OneSnip$Figure", "flags", "[I", true)
  | _ => ("OneSnip$Figure", "total", "I", false)
def tyX1 : Nat → FieldType := fun k => match k with
  | 0 => .object "OneSnip$Sheet"
  | 1 => .array .int
  | _ => .int
abbrev wsX10 : List Cond := u_ws RX1 TX1 3
theorem nmX1 : ∀ a, a < 3 → ∀ b, b < 3 → a ≠ b → (TX1 a).2.1 ≠ (TX1 b).2.1 := by decide +kernel
theorem tyX1_ok : ∀ k, k < 3 → parseFieldDescriptor (TX1 k).2.2.1 = some (tyX1 k) := by decide +kernel
abbrev cX1_init : ByteArray := prog_3_method_1_code
def yX1_init : MethodName := ⟨RX1, "<init>", "(LOneSnip$Sheet;)V"⟩
abbrev cX1_wipe : ByteArray := prog_3_method_2_code
def yX1_wipe : MethodName := ⟨RX1, "wipe", "()V"⟩
abbrev cX1_has : ByteArray := prog_3_method_3_code
def yX1_has : MethodName := ⟨RX1, "has", "(I)Z"⟩
abbrev cX1_put : ByteArray := prog_3_method_4_code
def yX1_put : MethodName := ⟨RX1, "put", "(IZ)V"⟩
abbrev cX1_first : ByteArray := prog_3_method_5_code
def yX1_first : MethodName := ⟨RX1, "first", "(Z)I"⟩
abbrev cX1_isMirror : ByteArray := prog_3_method_6_code
def yX1_isMirror : MethodName := ⟨RX1, "isMirror", "(II)Z"⟩
def RX2 : String := "OneSnip$Layout"
def TX2 : u_T := fun k => match k with
  | 0 => ("OneSnip$Layout", "next", "LOneSnip$Layout;", true)
  | 1 => ("OneSnip$Layout", "xs", "[I", true)
  | 2 => ("OneSnip$Layout", "ys", "[I", true)
  | 3 => ("OneSnip$Layout", "quarters", "[I", true)
  | 4 => ("OneSnip$Layout", "kinds", "[I", true)
  | 5 => ("OneSnip$Layout", "leasts", "[I", true)
  | 6 => ("OneSnip$Layout", "greatests", "[I", true)
  | 7 => ("OneSnip$Layout", "firstKind", "I", false)
  | 8 => ("OneSnip$Layout", "split", "I", false)
  | _ => ("OneSnip$Layout", "used", "I", false)
def tyX2 : Nat → FieldType := fun k => match k with
  | 0 => .object "OneSnip$Layout"
  | 1 => .array .int
  | 2 => .array .int
  | 3 => .array .int
  | 4 => .array .int
  | 5 => .array .int
  | 6 => .array .int
  | 7 => .int
  | 8 => .int
  | _ => .int
abbrev wsX20 : List Cond := u_ws RX2 TX2 10
theorem nmX2 : ∀ a, a < 10 → ∀ b, b < 10 → a ≠ b → (TX2 a).2.1 ≠ (TX2 b).2.1 := by decide +kernel
theorem tyX2_ok : ∀ k, k < 10 → parseFieldDescriptor (TX2 k).2.2.1 = some (tyX2 k) := by decide +kernel
abbrev cX2_init : ByteArray := prog_4_method_1_code
def yX2_init : MethodName := ⟨RX2, "<init>", "(LOneSnip$Layout;)V"⟩
abbrev cX2_load : ByteArray := prog_4_method_2_code
def yX2_load : MethodName := ⟨RX2, "load", "(LOneSnip$Sheet;LOneSnip$Figure;)V"⟩
abbrev cX2_putAround : ByteArray := prog_4_method_3_code
def yX2_putAround : MethodName := ⟨RX2, "putAround", "(LOneSnip$Sheet;LOneSnip$Figure;ZI)V"⟩
abbrev cX2_clear : ByteArray := prog_4_method_4_code
def yX2_clear : MethodName := ⟨RX2, "clear", "(I)V"⟩
abbrev cX2_put : ByteArray := prog_4_method_5_code
def yX2_put : MethodName := ⟨RX2, "put", "(IIII)V"⟩
abbrev cX2_secondKind : ByteArray := prog_4_method_6_code
def yX2_secondKind : MethodName := ⟨RX2, "secondKind", "()I"⟩
abbrev cX2_widen : ByteArray := prog_4_method_7_code
def yX2_widen : MethodName := ⟨RX2, "widen", "(II)V"⟩
abbrev cX2_least : ByteArray := prog_4_method_8_code
def yX2_least : MethodName := ⟨RX2, "least", "(I)I"⟩
abbrev cX2_greatest : ByteArray := prog_4_method_9_code
def yX2_greatest : MethodName := ⟨RX2, "greatest", "(I)I"⟩
abbrev cX2_row : ByteArray := prog_4_method_10_code
def yX2_row : MethodName := ⟨RX2, "row", "(II)I"⟩
abbrev cX2_firstStrip : ByteArray := prog_4_method_11_code
def yX2_firstStrip : MethodName := ⟨RX2, "firstStrip", "()I"⟩
abbrev cX2_lastStrip : ByteArray := prog_4_method_12_code
def yX2_lastStrip : MethodName := ⟨RX2, "lastStrip", "()I"⟩
abbrev cX2_isCrossed : ByteArray := prog_4_method_13_code
def yX2_isCrossed : MethodName := ⟨RX2, "isCrossed", "(II)Z"⟩
abbrev cX2_fits : ByteArray := prog_4_method_14_code
def yX2_fits : MethodName := ⟨RX2, "fits", "(II)Z"⟩
abbrev cX2_turnInto : ByteArray := prog_4_method_15_code
def yX2_turnInto : MethodName := ⟨RX2, "turnInto", "(LOneSnip$Layout;IIIZ)V"⟩
abbrev cX2_isEntangled : ByteArray := prog_4_method_16_code
def yX2_isEntangled : MethodName := ⟨RX2, "isEntangled", "()Z"⟩
abbrev cX2_cuts : ByteArray := prog_4_method_17_code
def yX2_cuts : MethodName := ⟨RX2, "cuts", "()I"⟩
abbrev cX2_firstCut : ByteArray := prog_4_method_18_code
def yX2_firstCut : MethodName := ⟨RX2, "firstCut", "()I"⟩
abbrev cX2_firstCut_ : ByteArray := prog_4_method_19_code
def yX2_firstCut_ : MethodName := ⟨RX2, "firstCut", "(II)I"⟩
abbrev cX2_lastCut : ByteArray := prog_4_method_20_code
def yX2_lastCut : MethodName := ⟨RX2, "lastCut", "(II)I"⟩
def RX3 : String := "OneSnip$Lines"
def TX3 : u_T := fun k => match k with
  | _ => ("", "", "", false)
def tyX3 : Nat → FieldType := fun k => match k with
  | _ => .int
abbrev wsX30 : List Cond := u_ws RX3 TX3 0
theorem nmX3 : ∀ a, a < 0 → ∀ b, b < 0 → a ≠ b → (TX3 a).2.1 ≠ (TX3 b).2.1 := by decide +kernel
theorem tyX3_ok : ∀ k, k < 0 → parseFieldDescriptor (TX3 k).2.2.1 = some (tyX3 k) := by decide +kernel
abbrev cX3_isLine : ByteArray := prog_5_method_2_code
def yX3_isLine : MethodName := ⟨RX3, "isLine", "(II)Z"⟩
abbrev cX3_isSide : ByteArray := prog_5_method_3_code
def yX3_isSide : MethodName := ⟨RX3, "isSide", "(I)Z"⟩
abbrev cX3_strip : ByteArray := prog_5_method_4_code
def yX3_strip : MethodName := ⟨RX3, "strip", "(IIII)I"⟩
abbrev cX3_isOn : ByteArray := prog_5_method_5_code
def yX3_isOn : MethodName := ⟨RX3, "isOn", "(III)Z"⟩
abbrev cX3_mirrorX : ByteArray := prog_5_method_6_code
def yX3_mirrorX : MethodName := ⟨RX3, "mirrorX", "(IIII)I"⟩
abbrev cX3_mirrorY : ByteArray := prog_5_method_7_code
def yX3_mirrorY : MethodName := ⟨RX3, "mirrorY", "(IIII)I"⟩
abbrev cX3_mirrorQuarter : ByteArray := prog_5_method_8_code
def yX3_mirrorQuarter : MethodName := ⟨RX3, "mirrorQuarter", "(II)I"⟩
abbrev cX3_touches : ByteArray := prog_5_method_9_code
def yX3_touches : MethodName := ⟨RX3, "touches", "(IIIII)Z"⟩
abbrev cX3_spot : ByteArray := prog_5_method_10_code
def yX3_spot : MethodName := ⟨RX3, "spot", "(III)I"⟩
def RX4 : String := "OneSnip$Pile"
def TX4 : u_T := fun k => match k with
  | 0 => ("OneSnip$Pile", "sheet", "LOneSnip$Sheet;", true)
  | 1 => ("OneSnip$Pile", "xs", "[I", true)
  | 2 => ("OneSnip$Pile", "ys", "[I", true)
  | 3 => ("OneSnip$Pile", "quarters", "[I", true)
  | 4 => ("OneSnip$Pile", "layers", "[I", true)
  | 5 => ("OneSnip$Pile", "ups", "[I", true)
  | 6 => ("OneSnip$Pile", "heights", "[I", true)
  | 7 => ("OneSnip$Pile", "sorts", "[I", true)
  | 8 => ("OneSnip$Pile", "ks", "[I", true)
  | 9 => ("OneSnip$Pile", "sides", "[I", true)
  | 10 => ("OneSnip$Pile", "overs", "[I", true)
  | _ => ("OneSnip$Pile", "made", "I", false)
def tyX4 : Nat → FieldType := fun k => match k with
  | 0 => .object "OneSnip$Sheet"
  | 1 => .array .int
  | 2 => .array .int
  | 3 => .array .int
  | 4 => .array .int
  | 5 => .array .int
  | 6 => .array .int
  | 7 => .array .int
  | 8 => .array .int
  | 9 => .array .int
  | 10 => .array .int
  | _ => .int
abbrev wsX40 : List Cond := u_ws RX4 TX4 12
theorem nmX4 : ∀ a, a < 12 → ∀ b, b < 12 → a ≠ b → (TX4 a).2.1 ≠ (TX4 b).2.1 := by decide +kernel
theorem tyX4_ok : ∀ k, k < 12 → parseFieldDescriptor (TX4 k).2.2.1 = some (tyX4 k) := by decide +kernel
abbrev cX4_init : ByteArray := prog_6_method_1_code
def yX4_init : MethodName := ⟨RX4, "<init>", "(LOneSnip$Sheet;)V"⟩
abbrev cX4_flatten : ByteArray := prog_6_method_2_code
def yX4_flatten : MethodName := ⟨RX4, "flatten", "()V"⟩
abbrev cX4_add : ByteArray := prog_6_method_3_code
def yX4_add : MethodName := ⟨RX4, "add", "(IIIZ)V"⟩
abbrev cX4_undo : ByteArray := prog_6_method_4_code
def yX4_undo : MethodName := ⟨RX4, "undo", "()V"⟩
abbrev cX4_spread : ByteArray := prog_6_method_5_code
def yX4_spread : MethodName := ⟨RX4, "spread", "()V"⟩
abbrev cX4_turn : ByteArray := prog_6_method_6_code
def yX4_turn : MethodName := ⟨RX4, "turn", "(IIIZ)V"⟩
abbrev cX4_layerBehind : ByteArray := prog_6_method_7_code
def yX4_layerBehind : MethodName := ⟨RX4, "layerBehind", "(IIIIZ)I"⟩
abbrev cX4_flip : ByteArray := prog_6_method_8_code
def yX4_flip : MethodName := ⟨RX4, "flip", "(III)V"⟩
abbrev cX4_measure : ByteArray := prog_6_method_9_code
def yX4_measure : MethodName := ⟨RX4, "measure", "()V"⟩
abbrev cX4_spot : ByteArray := prog_6_method_10_code
def yX4_spot : MethodName := ⟨RX4, "spot", "(I)I"⟩
abbrev cX4_mirrorSpot : ByteArray := prog_6_method_11_code
def yX4_mirrorSpot : MethodName := ⟨RX4, "mirrorSpot", "(III)I"⟩
abbrev cX4_x : ByteArray := prog_6_method_12_code
def yX4_x : MethodName := ⟨RX4, "x", "(I)I"⟩
abbrev cX4_y : ByteArray := prog_6_method_13_code
def yX4_y : MethodName := ⟨RX4, "y", "(I)I"⟩
abbrev cX4_quarter : ByteArray := prog_6_method_14_code
def yX4_quarter : MethodName := ⟨RX4, "quarter", "(I)I"⟩
abbrev cX4_layer : ByteArray := prog_6_method_15_code
def yX4_layer : MethodName := ⟨RX4, "layer", "(I)I"⟩
abbrev cX4_isUp : ByteArray := prog_6_method_16_code
def yX4_isUp : MethodName := ⟨RX4, "isUp", "(I)Z"⟩
abbrev cX4_heightOver : ByteArray := prog_6_method_17_code
def yX4_heightOver : MethodName := ⟨RX4, "heightOver", "(I)I"⟩
abbrev cX4_isOn : ByteArray := prog_6_method_18_code
def yX4_isOn : MethodName := ⟨RX4, "isOn", "(IIII)Z"⟩
abbrev cX4_lying : ByteArray := prog_6_method_19_code
def yX4_lying : MethodName := ⟨RX4, "lying", "(III)I"⟩
abbrev cX4_isCrossed : ByteArray := prog_6_method_20_code
def yX4_isCrossed : MethodName := ⟨RX4, "isCrossed", "(II)Z"⟩
abbrev cX4_find : ByteArray := prog_6_method_21_code
def yX4_find : MethodName := ⟨RX4, "find", "(IIII)I"⟩
abbrev cX4_taken : ByteArray := prog_6_method_22_code
def yX4_taken : MethodName := ⟨RX4, "taken", "()I"⟩
abbrev cX4_highest : ByteArray := prog_6_method_23_code
def yX4_highest : MethodName := ⟨RX4, "highest", "()I"⟩
abbrev cX4_heightOn : ByteArray := prog_6_method_24_code
def yX4_heightOn : MethodName := ⟨RX4, "heightOn", "(II)I"⟩
abbrev cX4_turnedDown : ByteArray := prog_6_method_25_code
def yX4_turnedDown : MethodName := ⟨RX4, "turnedDown", "()I"⟩
abbrev cX4_leastX : ByteArray := prog_6_method_26_code
def yX4_leastX : MethodName := ⟨RX4, "leastX", "()I"⟩
abbrev cX4_greatestX : ByteArray := prog_6_method_27_code
def yX4_greatestX : MethodName := ⟨RX4, "greatestX", "()I"⟩
abbrev cX4_leastY : ByteArray := prog_6_method_28_code
def yX4_leastY : MethodName := ⟨RX4, "leastY", "()I"⟩
abbrev cX4_greatestY : ByteArray := prog_6_method_29_code
def yX4_greatestY : MethodName := ⟨RX4, "greatestY", "()I"⟩
abbrev cX4_least : ByteArray := prog_6_method_30_code
def yX4_least : MethodName := ⟨RX4, "least", "([I)I"⟩
abbrev cX4_greatest : ByteArray := prog_6_method_31_code
def yX4_greatest : MethodName := ⟨RX4, "greatest", "([I)I"⟩
def RX5 : String := "OneSnip$Rows"
def TX5 : u_T := fun k => match k with
  | _ => ("", "", "", false)
def tyX5 : Nat → FieldType := fun k => match k with
  | _ => .int
abbrev wsX50 : List Cond := u_ws RX5 TX5 0
theorem nmX5 : ∀ a, a < 0 → ∀ b, b < 0 → a ≠ b → (TX5 a).2.1 ≠ (TX5 b).2.1 := by decide +kernel
theorem tyX5_ok : ∀ k, k < 0 → parseFieldDescriptor (TX5 k).2.2.1 = some (tyX5 k) := by decide +kernel
abbrev cX5_get : ByteArray := prog_7_method_2_code
def yX5_get : MethodName := ⟨RX5, "get", "([II)I"⟩
abbrev cX5_put : ByteArray := prog_7_method_3_code
def yX5_put : MethodName := ⟨RX5, "put", "([III)V"⟩
abbrev cX5_fill : ByteArray := prog_7_method_4_code
def yX5_fill : MethodName := ⟨RX5, "fill", "([II)V"⟩
def RX6 : String := "OneSnip$Search"
def TX6 : u_T := fun k => match k with
  | 0 => ("OneSnip$Search", "sheet", "LOneSnip$Sheet;", true)
  | 1 => ("OneSnip$Search", "figure", "LOneSnip$Figure;", true)
  | 2 => ("OneSnip$Search", "start", "LOneSnip$Layout;", true)
  | 3 => ("OneSnip$Search", "row", "[I", true)
  | 4 => ("OneSnip$Search", "first", "[I", true)
  | 5 => ("OneSnip$Search", "goal", "I", false)
  | 6 => ("OneSnip$Search", "counting", "Z", false)
  | 7 => ("OneSnip$Search", "rows", "I", false)
  | 8 => ("OneSnip$Search", "found", "I", false)
  | 9 => ("OneSnip$Search", "foundAt", "I", false)
  | 10 => ("OneSnip$Search", "spentAt", "I", false)
  | _ => ("OneSnip$Search", "tried", "I", false)
def tyX6 : Nat → FieldType := fun k => match k with
  | 0 => .object "OneSnip$Sheet"
  | 1 => .object "OneSnip$Figure"
  | 2 => .object "OneSnip$Layout"
  | 3 => .array .int
  | 4 => .array .int
  | 5 => .int
  | 6 => .boolean
  | 7 => .int
  | 8 => .int
  | 9 => .int
  | 10 => .int
  | _ => .int
abbrev wsX60 : List Cond := u_ws RX6 TX6 12
theorem nmX6 : ∀ a, a < 12 → ∀ b, b < 12 → a ≠ b → (TX6 a).2.1 ≠ (TX6 b).2.1 := by decide +kernel
theorem tyX6_ok : ∀ k, k < 12 → parseFieldDescriptor (TX6 k).2.2.1 = some (tyX6 k) := by decide +kernel
abbrev cX6_init : ByteArray := prog_8_method_1_code
def yX6_init : MethodName := ⟨RX6, "<init>", "(LOneSnip$Sheet;LOneSnip$Figure;)V"⟩
abbrev cX6_forget : ByteArray := prog_8_method_2_code
def yX6_forget : MethodName := ⟨RX6, "forget", "()V"⟩
abbrev cX6_solve : ByteArray := prog_8_method_3_code
def yX6_solve : MethodName := ⟨RX6, "solve", "(I)I"⟩
abbrev cX6_told : ByteArray := prog_8_method_4_code
def yX6_told : MethodName := ⟨RX6, "told", "(II)I"⟩
abbrev cX6_tryRows : ByteArray := prog_8_method_5_code
def yX6_tryRows : MethodName := ⟨RX6, "tryRows", "(I)V"⟩
abbrev cX6_lengthen : ByteArray := prog_8_method_6_code
def yX6_lengthen : MethodName := ⟨RX6, "lengthen", "(LOneSnip$Search;LOneSnip$Layout;I)V"⟩
abbrev cX6_weigh : ByteArray := prog_8_method_7_code
def yX6_weigh : MethodName := ⟨RX6, "weigh", "(LOneSnip$Layout;)V"⟩
abbrev cX6_tell : ByteArray := prog_8_method_8_code
def yX6_tell : MethodName := ⟨RX6, "tell", "(III)I"⟩
def RX7 : String := "OneSnip$Sheet"
def TX7 : u_T := fun k => match k with
  | 0 => ("OneSnip$Sheet", "xs", "[I", true)
  | 1 => ("OneSnip$Sheet", "ys", "[I", true)
  | 2 => ("OneSnip$Sheet", "besides", "[I", true)
  | 3 => ("OneSnip$Sheet", "size", "I", false)
  | _ => ("OneSnip$Sheet", "leaves", "I", false)
def tyX7 : Nat → FieldType := fun k => match k with
  | 0 => .array .int
  | 1 => .array .int
  | 2 => .array .int
  | 3 => .int
  | _ => .int
abbrev wsX70 : List Cond := u_ws RX7 TX7 5
theorem nmX7 : ∀ a, a < 5 → ∀ b, b < 5 → a ≠ b → (TX7 a).2.1 ≠ (TX7 b).2.1 := by decide +kernel
theorem tyX7_ok : ∀ k, k < 5 → parseFieldDescriptor (TX7 k).2.2.1 = some (tyX7 k) := by decide +kernel
abbrev cX7_init : ByteArray := prog_9_method_1_code
def yX7_init : MethodName := ⟨RX7, "<init>", "()V"⟩
abbrev cX7_resize : ByteArray := prog_9_method_2_code
def yX7_resize : MethodName := ⟨RX7, "resize", "(I)V"⟩
abbrev cX7_place : ByteArray := prog_9_method_3_code
def yX7_place : MethodName := ⟨RX7, "place", "(III)V"⟩
abbrev cX7_across : ByteArray := prog_9_method_4_code
def yX7_across : MethodName := ⟨RX7, "across", "(III)I"⟩
abbrev cX7_has : ByteArray := prog_9_method_5_code
def yX7_has : MethodName := ⟨RX7, "has", "(I)Z"⟩
abbrev cX7_hasCell : ByteArray := prog_9_method_6_code
def yX7_hasCell : MethodName := ⟨RX7, "hasCell", "(II)Z"⟩
abbrev cX7_hasPoint : ByteArray := prog_9_method_7_code
def yX7_hasPoint : MethodName := ⟨RX7, "hasPoint", "(IIZ)Z"⟩
abbrev cX7_leaf : ByteArray := prog_9_method_8_code
def yX7_leaf : MethodName := ⟨RX7, "leaf", "(III)I"⟩
abbrev cX7_x : ByteArray := prog_9_method_9_code
def yX7_x : MethodName := ⟨RX7, "x", "(I)I"⟩
abbrev cX7_y : ByteArray := prog_9_method_10_code
def yX7_y : MethodName := ⟨RX7, "y", "(I)I"⟩
abbrev cX7_quarter : ByteArray := prog_9_method_11_code
def yX7_quarter : MethodName := ⟨RX7, "quarter", "(I)I"⟩
abbrev cX7_distance : ByteArray := prog_9_method_12_code
def yX7_distance : MethodName := ⟨RX7, "distance", "(II)I"⟩
abbrev cX7_beside : ByteArray := prog_9_method_13_code
def yX7_beside : MethodName := ⟨RX7, "beside", "(II)I"⟩
def RX8 : String := "OneSnip$Snip"
def TX8 : u_T := fun k => match k with
  | 0 => ("OneSnip$Snip", "sheet", "LOneSnip$Sheet;", true)
  | 1 => ("OneSnip$Snip", "fell", "[I", true)
  | 2 => ("OneSnip$Snip", "leasts", "[I", true)
  | 3 => ("OneSnip$Snip", "queue", "[I", true)
  | 4 => ("OneSnip$Snip", "made", "Z", false)
  | _ => ("OneSnip$Snip", "fallen", "I", false)
def tyX8 : Nat → FieldType := fun k => match k with
  | 0 => .object "OneSnip$Sheet"
  | 1 => .array .int
  | 2 => .array .int
  | 3 => .array .int
  | 4 => .boolean
  | _ => .int
abbrev wsX80 : List Cond := u_ws RX8 TX8 6
theorem nmX8 : ∀ a, a < 6 → ∀ b, b < 6 → a ≠ b → (TX8 a).2.1 ≠ (TX8 b).2.1 := by decide +kernel
theorem tyX8_ok : ∀ k, k < 6 → parseFieldDescriptor (TX8 k).2.2.1 = some (tyX8 k) := by decide +kernel
abbrev cX8_init : ByteArray := prog_10_method_1_code
def yX8_init : MethodName := ⟨RX8, "<init>", "(LOneSnip$Sheet;)V"⟩
abbrev cX8_mend : ByteArray := prog_10_method_2_code
def yX8_mend : MethodName := ⟨RX8, "mend", "()V"⟩
abbrev cX8_drop : ByteArray := prog_10_method_3_code
def yX8_drop : MethodName := ⟨RX8, "drop", "(LOneSnip$Pile;III)V"⟩
abbrev cX8_isDown : ByteArray := prog_10_method_4_code
def yX8_isDown : MethodName := ⟨RX8, "isDown", "(I)Z"⟩
abbrev cX8_leastOf : ByteArray := prog_10_method_5_code
def yX8_leastOf : MethodName := ⟨RX8, "leastOf", "(I)I"⟩
abbrev cX8_part : ByteArray := prog_10_method_6_code
def yX8_part : MethodName := ⟨RX8, "part", "()V"⟩
abbrev cX8_gather : ByteArray := prog_10_method_7_code
def yX8_gather : MethodName := ⟨RX8, "gather", "(I)V"⟩
abbrev cX8_total : ByteArray := prog_10_method_8_code
def yX8_total : MethodName := ⟨RX8, "total", "(Z)I"⟩
abbrev cX8_inner : ByteArray := prog_10_method_9_code
def yX8_inner : MethodName := ⟨RX8, "inner", "()I"⟩
abbrev cX8_reachesOut : ByteArray := prog_10_method_10_code
def yX8_reachesOut : MethodName := ⟨RX8, "reachesOut", "(I)Z"⟩
abbrev cX8_border : ByteArray := prog_10_method_11_code
def yX8_border : MethodName := ⟨RX8, "border", "(I)I"⟩
def RX9 : String := "OneSnip"
def TX9 : u_T := fun k => match k with
  | 0 => ("OneSnip", "sheet", "LOneSnip$Sheet;", true)
  | 1 => ("OneSnip", "pile", "LOneSnip$Pile;", true)
  | 2 => ("OneSnip", "creases", "LOneSnip$Creases;", true)
  | 3 => ("OneSnip", "snip", "LOneSnip$Snip;", true)
  | 4 => ("OneSnip", "figure", "LOneSnip$Figure;", true)
  | 5 => ("OneSnip", "search", "LOneSnip$Search;", true)
  | _ => ("OneSnip", "knife", "I", false)
def tyX9 : Nat → FieldType := fun k => match k with
  | 0 => .object "OneSnip$Sheet"
  | 1 => .object "OneSnip$Pile"
  | 2 => .object "OneSnip$Creases"
  | 3 => .object "OneSnip$Snip"
  | 4 => .object "OneSnip$Figure"
  | 5 => .object "OneSnip$Search"
  | _ => .int
abbrev wsX90 : List Cond := u_ws RX9 TX9 7
theorem nmX9 : ∀ a, a < 7 → ∀ b, b < 7 → a ≠ b → (TX9 a).2.1 ≠ (TX9 b).2.1 := by decide +kernel
theorem tyX9_ok : ∀ k, k < 7 → parseFieldDescriptor (TX9 k).2.2.1 = some (tyX9 k) := by decide +kernel
abbrev cX9_init : ByteArray := prog_1_method_1_code
def yX9_init : MethodName := ⟨RX9, "<init>", "()V"⟩
abbrev cX9_sheet : ByteArray := prog_1_method_2_code
def yX9_sheet : MethodName := ⟨RX9, "sheet", "(I)I"⟩
abbrev cX9_fold : ByteArray := prog_1_method_3_code
def yX9_fold : MethodName := ⟨RX9, "fold", "(IIIZ)I"⟩
abbrev cX9_unfold : ByteArray := prog_1_method_4_code
def yX9_unfold : MethodName := ⟨RX9, "unfold", "()I"⟩
abbrev cX9_facet : ByteArray := prog_1_method_5_code
def yX9_facet : MethodName := ⟨RX9, "facet", "(II)I"⟩
abbrev cX9_at : ByteArray := prog_1_method_6_code
def yX9_at : MethodName := ⟨RX9, "at", "(IIII)I"⟩
abbrev cX9_places : ByteArray := prog_1_method_7_code
def yX9_places : MethodName := ⟨RX9, "places", "()I"⟩
abbrev cX9_deepest : ByteArray := prog_1_method_8_code
def yX9_deepest : MethodName := ⟨RX9, "deepest", "()I"⟩
abbrev cX9_reach : ByteArray := prog_1_method_9_code
def yX9_reach : MethodName := ⟨RX9, "reach", "(I)I"⟩
abbrev cX9_folds : ByteArray := prog_1_method_10_code
def yX9_folds : MethodName := ⟨RX9, "folds", "()I"⟩
abbrev cX9_crease : ByteArray := prog_1_method_11_code
def yX9_crease : MethodName := ⟨RX9, "crease", "(II)I"⟩
abbrev cX9_neighbour : ByteArray := prog_1_method_12_code
def yX9_neighbour : MethodName := ⟨RX9, "neighbour", "(II)I"⟩
abbrev cX9_creases : ByteArray := prog_1_method_13_code
def yX9_creases : MethodName := ⟨RX9, "creases", "(Z)I"⟩
abbrev cX9_balance : ByteArray := prog_1_method_14_code
def yX9_balance : MethodName := ⟨RX9, "balance", "(IIZ)I"⟩
abbrev cX9_degree : ByteArray := prog_1_method_15_code
def yX9_degree : MethodName := ⟨RX9, "degree", "(IIZ)I"⟩
abbrev cX9_knife : ByteArray := prog_1_method_16_code
def yX9_knife : MethodName := ⟨RX9, "knife", "(I)I"⟩
abbrev cX9_thickness : ByteArray := prog_1_method_17_code
def yX9_thickness : MethodName := ⟨RX9, "thickness", "(II)I"⟩
abbrev cX9_would : ByteArray := prog_1_method_18_code
def yX9_would : MethodName := ⟨RX9, "would", "(III)I"⟩
abbrev cX9_cut : ByteArray := prog_1_method_19_code
def yX9_cut : MethodName := ⟨RX9, "cut", "(III)I"⟩
abbrev cX9_pieces : ByteArray := prog_1_method_20_code
def yX9_pieces : MethodName := ⟨RX9, "pieces", "(Z)I"⟩
abbrev cX9_holes : ByteArray := prog_1_method_21_code
def yX9_holes : MethodName := ⟨RX9, "holes", "()I"⟩
abbrev cX9_rims : ByteArray := prog_1_method_22_code
def yX9_rims : MethodName := ⟨RX9, "rims", "(Z)I"⟩
abbrev cX9_piece : ByteArray := prog_1_method_23_code
def yX9_piece : MethodName := ⟨RX9, "piece", "(I)I"⟩
abbrev cX9_mark : ByteArray := prog_1_method_24_code
def yX9_mark : MethodName := ⟨RX9, "mark", "(IZ)I"⟩
abbrev cX9_markCell : ByteArray := prog_1_method_25_code
def yX9_markCell : MethodName := ⟨RX9, "markCell", "(IIZ)I"⟩
abbrev cX9_take : ByteArray := prog_1_method_26_code
def yX9_take : MethodName := ⟨RX9, "take", "()I"⟩
abbrev cX9_same : ByteArray := prog_1_method_27_code
def yX9_same : MethodName := ⟨RX9, "same", "()I"⟩
abbrev cX9_mirror : ByteArray := prog_1_method_28_code
def yX9_mirror : MethodName := ⟨RX9, "mirror", "(II)I"⟩
abbrev cX9_mirrors : ByteArray := prog_1_method_29_code
def yX9_mirrors : MethodName := ⟨RX9, "mirrors", "()I"⟩
abbrev cX9_fewest : ByteArray := prog_1_method_30_code
def yX9_fewest : MethodName := ⟨RX9, "fewest", "(I)I"⟩
abbrev cX9_way : ByteArray := prog_1_method_31_code
def yX9_way : MethodName := ⟨RX9, "way", "(II)I"⟩
abbrev cX9_ways : ByteArray := prog_1_method_32_code
def yX9_ways : MethodName := ⟨RX9, "ways", "(I)I"⟩
abbrev cX9_count : ByteArray := prog_1_method_33_code
def yX9_count : MethodName := ⟨RX9, "count", "(I)I"⟩
abbrev cX9_begin : ByteArray := prog_1_method_34_code
def yX9_begin : MethodName := ⟨RX9, "begin", "(I)V"⟩
abbrev cX9_draw : ByteArray := prog_1_method_35_code
def yX9_draw : MethodName := ⟨RX9, "draw", "(IZ)V"⟩
abbrev cX9_yes : ByteArray := prog_1_method_36_code
def yX9_yes : MethodName := ⟨RX9, "yes", "(Z)I"⟩
abbrev cX9_isEdge : ByteArray := prog_1_method_37_code
def yX9_isEdge : MethodName := ⟨RX9, "isEdge", "(I)Z"⟩
abbrev cX9_isWayLength : ByteArray := prog_1_method_38_code
def yX9_isWayLength : MethodName := ⟨RX9, "isWayLength", "(I)Z"⟩
def RX10 : String := "OneSnipModel"
def TX10 : u_T := fun k => match k with
  | 0 => ("OneSnipModel", "thrown", "I", false)
  | 1 => ("OneSnipModel", "n", "I", false)
  | 2 => ("OneSnipModel", "cx", "[I", true)
  | 3 => ("OneSnipModel", "cy", "[I", true)
  | 4 => ("OneSnipModel", "quarter", "[I", true)
  | 5 => ("OneSnipModel", "layer", "[I", true)
  | 6 => ("OneSnipModel", "isUp", "[Z", true)
  | 7 => ("OneSnipModel", "crease", "[I", true)
  | 8 => ("OneSnipModel", "folds", "I", false)
  | 9 => ("OneSnipModel", "wasX", "[I", true)
  | 10 => ("OneSnipModel", "wasY", "[I", true)
  | 11 => ("OneSnipModel", "wasQuarter", "[I", true)
  | 12 => ("OneSnipModel", "wasLayer", "[I", true)
  | 13 => ("OneSnipModel", "wasUp", "[Z", true)
  | 14 => ("OneSnipModel", "wasCrease", "[I", true)
  | 15 => ("OneSnipModel", "moves", "[Z", true)
  | 16 => ("OneSnipModel", "knife", "I", false)
  | 17 => ("OneSnipModel", "isCut", "Z", false)
  | 18 => ("OneSnipModel", "fell", "[Z", true)
  | 19 => ("OneSnipModel", "figure", "[Z", true)
  | 20 => ("OneSnipModel", "part", "[I", true)
  | 21 => ("OneSnipModel", "lx", "[I", true)
  | 22 => ("OneSnipModel", "ly", "[I", true)
  | 23 => ("OneSnipModel", "lq", "[I", true)
  | 24 => ("OneSnipModel", "mark", "[I", true)
  | 25 => ("OneSnipModel", "stamp", "I", false)
  | 26 => ("OneSnipModel", "low", "[I", true)
  | 27 => ("OneSnipModel", "high", "[I", true)
  | 28 => ("OneSnipModel", "at", "[I", true)
  | 29 => ("OneSnipModel", "first", "[I", true)
  | 30 => ("OneSnipModel", "rows", "I", false)
  | 31 => ("OneSnipModel", "found", "I", false)
  | 32 => ("OneSnipModel", "newX", "I", false)
  | 33 => ("OneSnipModel", "newY", "I", false)
  | _ => ("OneSnipModel", "newQuarter", "I", false)
def tyX10 : Nat → FieldType := fun k => match k with
  | 0 => .int
  | 1 => .int
  | 2 => .array .int
  | 3 => .array .int
  | 4 => .array .int
  | 5 => .array .int
  | 6 => .array .boolean
  | 7 => .array .int
  | 8 => .int
  | 9 => .array .int
  | 10 => .array .int
  | 11 => .array .int
  | 12 => .array .int
  | 13 => .array .boolean
  | 14 => .array .int
  | 15 => .array .boolean
  | 16 => .int
  | 17 => .boolean
  | 18 => .array .boolean
  | 19 => .array .boolean
  | 20 => .array .int
  | 21 => .array .int
  | 22 => .array .int
  | 23 => .array .int
  | 24 => .array .int
  | 25 => .int
  | 26 => .array .int
  | 27 => .array .int
  | 28 => .array .int
  | 29 => .array .int
  | 30 => .int
  | 31 => .int
  | 32 => .int
  | 33 => .int
  | _ => .int
abbrev wsX100 : List Cond := u_ws RX10 TX10 35
theorem nmX10 : ∀ a, a < 35 → ∀ b, b < 35 → a ≠ b → (TX10 a).2.1 ≠ (TX10 b).2.1 := by decide +kernel
theorem tyX10_ok : ∀ k, k < 35 → parseFieldDescriptor (TX10 k).2.2.1 = some (tyX10 k) := by decide +kernel
abbrev cX10_init : ByteArray := prog_12_method_1_code
def yX10_init : MethodName := ⟨RX10, "<init>", "()V"⟩
abbrev cX10_in : ByteArray := prog_12_method_3_code
def yX10_in : MethodName := ⟨RX10, "in", "(JJJ)Z"⟩
abbrev cX10_facets : ByteArray := prog_12_method_4_code
def yX10_facets : MethodName := ⟨RX10, "facets", "()I"⟩
abbrev cX10_noFacet : ByteArray := prog_12_method_5_code
def yX10_noFacet : MethodName := ⟨RX10, "noFacet", "(I)Z"⟩
abbrev cX10_noLine : ByteArray := prog_12_method_6_code
def yX10_noLine : MethodName := ⟨RX10, "noLine", "(II)Z"⟩
abbrev cX10_begin : ByteArray := prog_12_method_7_code
def yX10_begin : MethodName := ⟨RX10, "begin", "(I)V"⟩
abbrev cX10_along : ByteArray := prog_12_method_8_code
def yX10_along : MethodName := ⟨RX10, "along", "(IIII)I"⟩
abbrev cX10_sideOf : ByteArray := prog_12_method_9_code
def yX10_sideOf : MethodName := ⟨RX10, "sideOf", "(IIIII)I"⟩
abbrev cX10_turn : ByteArray := prog_12_method_10_code
def yX10_turn : MethodName := ⟨RX10, "turn", "(IIIII)V"⟩
abbrev cX10_isThere : ByteArray := prog_12_method_11_code
def yX10_isThere : MethodName := ⟨RX10, "isThere", "(IIII)Z"⟩
abbrev cX10_deepOf : ByteArray := prog_12_method_12_code
def yX10_deepOf : MethodName := ⟨RX10, "deepOf", "(III)I"⟩
abbrev cX10_placesOf : ByteArray := prog_12_method_13_code
def yX10_placesOf : MethodName := ⟨RX10, "placesOf", "()I"⟩
abbrev cX10_nextTo : ByteArray := prog_12_method_14_code
def yX10_nextTo : MethodName := ⟨RX10, "nextTo", "(II)I"⟩
abbrev cX10_sheet : ByteArray := prog_12_method_15_code
def yX10_sheet : MethodName := ⟨RX10, "sheet", "(I)I"⟩
abbrev cX10_keep : ByteArray := prog_12_method_16_code
def yX10_keep : MethodName := ⟨RX10, "keep", "()V"⟩
abbrev cX10_fold : ByteArray := prog_12_method_17_code
def yX10_fold : MethodName := ⟨RX10, "fold", "(IIIZ)I"⟩
abbrev cX10_unfold : ByteArray := prog_12_method_18_code
def yX10_unfold : MethodName := ⟨RX10, "unfold", "()I"⟩
abbrev cX10_facet : ByteArray := prog_12_method_19_code
def yX10_facet : MethodName := ⟨RX10, "facet", "(II)I"⟩
abbrev cX10_at : ByteArray := prog_12_method_20_code
def yX10_at : MethodName := ⟨RX10, "at", "(IIII)I"⟩
abbrev cX10_places : ByteArray := prog_12_method_21_code
def yX10_places : MethodName := ⟨RX10, "places", "()I"⟩
abbrev cX10_deepest : ByteArray := prog_12_method_22_code
def yX10_deepest : MethodName := ⟨RX10, "deepest", "()I"⟩
abbrev cX10_reach : ByteArray := prog_12_method_23_code
def yX10_reach : MethodName := ⟨RX10, "reach", "(I)I"⟩
abbrev cX10_folds : ByteArray := prog_12_method_24_code
def yX10_folds : MethodName := ⟨RX10, "folds", "()I"⟩
abbrev cX10_crease : ByteArray := prog_12_method_25_code
def yX10_crease : MethodName := ⟨RX10, "crease", "(II)I"⟩
abbrev cX10_neighbour : ByteArray := prog_12_method_26_code
def yX10_neighbour : MethodName := ⟨RX10, "neighbour", "(II)I"⟩
abbrev cX10_creases : ByteArray := prog_12_method_27_code
def yX10_creases : MethodName := ⟨RX10, "creases", "(Z)I"⟩
abbrev cX10_slant : ByteArray := prog_12_method_28_code
def yX10_slant : MethodName := ⟨RX10, "slant", "(III)I"⟩
abbrev cX10_outer : ByteArray := prog_12_method_29_code
def yX10_outer : MethodName := ⟨RX10, "outer", "(III)I"⟩
abbrev cX10_ends : ByteArray := prog_12_method_30_code
def yX10_ends : MethodName := ⟨RX10, "ends", "(IIZI)I"⟩
abbrev cX10_noPoint : ByteArray := prog_12_method_31_code
def yX10_noPoint : MethodName := ⟨RX10, "noPoint", "(IIZ)Z"⟩
abbrev cX10_balance : ByteArray := prog_12_method_32_code
def yX10_balance : MethodName := ⟨RX10, "balance", "(IIZ)I"⟩
abbrev cX10_degree : ByteArray := prog_12_method_33_code
def yX10_degree : MethodName := ⟨RX10, "degree", "(IIZ)I"⟩
abbrev cX10_knife : ByteArray := prog_12_method_34_code
def yX10_knife : MethodName := ⟨RX10, "knife", "(I)I"⟩
abbrev cX10_touches : ByteArray := prog_12_method_35_code
def yX10_touches : MethodName := ⟨RX10, "touches", "(III)Z"⟩
abbrev cX10_thickOf : ByteArray := prog_12_method_36_code
def yX10_thickOf : MethodName := ⟨RX10, "thickOf", "(II)I"⟩
abbrev cX10_thickness : ByteArray := prog_12_method_37_code
def yX10_thickness : MethodName := ⟨RX10, "thickness", "(II)I"⟩
abbrev cX10_fallsOf : ByteArray := prog_12_method_38_code
def yX10_fallsOf : MethodName := ⟨RX10, "fallsOf", "(III)I"⟩
abbrev cX10_would : ByteArray := prog_12_method_39_code
def yX10_would : MethodName := ⟨RX10, "would", "(III)I"⟩
abbrev cX10_cut : ByteArray := prog_12_method_40_code
def yX10_cut : MethodName := ⟨RX10, "cut", "(III)I"⟩
abbrev cX10_hang : ByteArray := prog_12_method_41_code
def yX10_hang : MethodName := ⟨RX10, "hang", "()V"⟩
abbrev cX10_pieces : ByteArray := prog_12_method_42_code
def yX10_pieces : MethodName := ⟨RX10, "pieces", "(Z)I"⟩
abbrev cX10_holes : ByteArray := prog_12_method_43_code
def yX10_holes : MethodName := ⟨RX10, "holes", "()I"⟩
abbrev cX10_rims : ByteArray := prog_12_method_44_code
def yX10_rims : MethodName := ⟨RX10, "rims", "(Z)I"⟩
abbrev cX10_piece : ByteArray := prog_12_method_45_code
def yX10_piece : MethodName := ⟨RX10, "piece", "(I)I"⟩
abbrev cX10_marked : ByteArray := prog_12_method_46_code
def yX10_marked : MethodName := ⟨RX10, "marked", "()I"⟩
abbrev cX10_mark : ByteArray := prog_12_method_47_code
def yX10_mark : MethodName := ⟨RX10, "mark", "(IZ)I"⟩
abbrev cX10_markCell : ByteArray := prog_12_method_48_code
def yX10_markCell : MethodName := ⟨RX10, "markCell", "(IIZ)I"⟩
abbrev cX10_take : ByteArray := prog_12_method_49_code
def yX10_take : MethodName := ⟨RX10, "take", "()I"⟩
abbrev cX10_same : ByteArray := prog_12_method_50_code
def yX10_same : MethodName := ⟨RX10, "same", "()I"⟩
abbrev cX10_isMirror : ByteArray := prog_12_method_51_code
def yX10_isMirror : MethodName := ⟨RX10, "isMirror", "(II)Z"⟩
abbrev cX10_mirror : ByteArray := prog_12_method_52_code
def yX10_mirror : MethodName := ⟨RX10, "mirror", "(II)I"⟩
abbrev cX10_mirrors : ByteArray := prog_12_method_53_code
def yX10_mirrors : MethodName := ⟨RX10, "mirrors", "()I"⟩
abbrev cX10_measure : ByteArray := prog_12_method_54_code
def yX10_measure : MethodName := ⟨RX10, "measure", "(I)V"⟩
abbrev cX10_goes : ByteArray := prog_12_method_55_code
def yX10_goes : MethodName := ⟨RX10, "goes", "(II)Z"⟩
abbrev cX10_cuts : ByteArray := prog_12_method_56_code
def yX10_cuts : MethodName := ⟨RX10, "cuts", "(I)I"⟩
abbrev cX10_goThrough : ByteArray := prog_12_method_57_code
def yX10_goThrough : MethodName := ⟨RX10, "goThrough", "(I)Z"⟩
abbrev cX10_look : ByteArray := prog_12_method_58_code
def yX10_look : MethodName := ⟨RX10, "look", "(I)I"⟩
abbrev cX10_fewest : ByteArray := prog_12_method_59_code
def yX10_fewest : MethodName := ⟨RX10, "fewest", "(I)I"⟩
abbrev cX10_way : ByteArray := prog_12_method_60_code
def yX10_way : MethodName := ⟨RX10, "way", "(II)I"⟩
abbrev cX10_ways : ByteArray := prog_12_method_61_code
def yX10_ways : MethodName := ⟨RX10, "ways", "(I)I"⟩
abbrev cX10_count : ByteArray := prog_12_method_62_code
def yX10_count : MethodName := ⟨RX10, "count", "(I)I"⟩
def RJ9 : String := "java/lang/Math"
def TJ9 : u_T := fun k => match k with
  | _ => ("", "", "", false)
def tyJ9 : Nat → FieldType := fun k => match k with
  | _ => .int
abbrev wsJ90 : List Cond := u_ws RJ9 TJ9 0
theorem nmJ9 : ∀ a, a < 0 → ∀ b, b < 0 → a ≠ b → (TJ9 a).2.1 ≠ (TJ9 b).2.1 := by decide +kernel
theorem tyJ9_ok : ∀ k, k < 0 → parseFieldDescriptor (TJ9 k).2.2.1 = some (tyJ9 k) := by decide +kernel
abbrev cJ9_abs_0f7a4 : ByteArray := prog_13_method_59_code
def yJ9_abs_0f7a4 : MethodName := ⟨RJ9, "abs", "(I)I"⟩
abbrev cJ9_max_7cf53 : ByteArray := prog_13_method_65_code
def yJ9_max_7cf53 : MethodName := ⟨RJ9, "max", "(II)I"⟩
abbrev cJ9_min_7cf53 : ByteArray := prog_13_method_69_code
def yJ9_min_7cf53 : MethodName := ⟨RJ9, "min", "(II)I"⟩
def RJ7 : String := "java/util/Arrays"
def TJ7 : u_T := fun k => match k with
  | _ => ("", "", "", false)
def tyJ7 : Nat → FieldType := fun k => match k with
  | _ => .int
abbrev wsJ70 : List Cond := u_ws RJ7 TJ7 0
theorem nmJ7 : ∀ a, a < 0 → ∀ b, b < 0 → a ≠ b → (TJ7 a).2.1 ≠ (TJ7 b).2.1 := by decide +kernel
theorem tyJ7_ok : ∀ k, k < 0 → parseFieldDescriptor (TJ7 k).2.2.1 = some (tyJ7 k) := by decide +kernel
abbrev cJ7_fill_53178 : ByteArray := prog_14_method_103_code
def yJ7_fill_53178 : MethodName := ⟨RJ7, "fill", "([II)V"⟩
def RL : String := "OneSnipLaw"
abbrev cL_law : ByteArray := code
def yL_law : MethodName := ⟨RL, "law", "([I)Z"⟩
abbrev vwCl : List vw_C := [(RX0, TX0, 2), (RX1, TX1, 3), (RX2, TX2, 10), (RX4, TX4, 12), (RX6, TX6, 12), (RX7, TX7, 5), (RX8, TX8, 6), (RX9, TX9, 7), (RX10, TX10, 35)]
theorem dX0_init_0 : decode cX0_init 0 = .ok (.aload_n 0, 1) := by decide +kernel
theorem dX0_init_1 : decode cX0_init 1 = .ok (.invokespecial 3, 3) := by decide +kernel
theorem dX0_init_4 : decode cX0_init 4 = .ok (.aload_n 0, 1) := by decide +kernel
theorem dX0_init_5 : decode cX0_init 5 = .ok (.aload_n 1, 1) := by decide +kernel
theorem dX0_init_6 : decode cX0_init 6 = .ok (.putfield 9, 3) := by decide +kernel
theorem dX0_init_9 : decode cX0_init 9 = .ok (.aload_n 0, 1) := by decide +kernel
theorem dX0_init_10 : decode cX0_init 10 = .ok (.aload_n 2, 1) := by decide +kernel
theorem dX0_init_11 : decode cX0_init 11 = .ok (.putfield 15, 3) := by decide +kernel
theorem dX0_init_14 : decode cX0_init 14 = .ok (.return_, 1) := by decide +kernel
theorem dX0_kind_0 : decode cX0_kind 0 = .ok (.aload_n 0, 1) := by decide +kernel
theorem dX0_kind_1 : decode cX0_kind 1 = .ok (.getfield 9, 3) := by decide +kernel
theorem dX0_kind_4 : decode cX0_kind 4 = .ok (.iload_n 1, 1) := by decide +kernel
theorem dX0_kind_5 : decode cX0_kind 5 = .ok (.iload_n 2, 1) := by decide +kernel
theorem dX0_kind_6 : decode cX0_kind 6 = .ok (.invokevirtual 19, 3) := by decide +kernel
theorem dX0_kind_9 : decode cX0_kind 9 = .ok (.istore_n 3, 1) := by decide +kernel
theorem dX0_kind_10 : decode cX0_kind 10 = .ok (.iload_n 3, 1) := by decide +kernel
theorem dX0_kind_11 : decode cX0_kind 11 = .ok (.ldc 25, 2) := by decide +kernel
theorem dX0_kind_13 : decode cX0_kind 13 = .ok (.if_icmp .ne 6, 3) := by decide +kernel
theorem dX0_kind_16 : decode cX0_kind 16 = .ok (.ldc 25, 2) := by decide +kernel
theorem dX0_kind_18 : decode cX0_kind 18 = .ok (.ireturn, 1) := by decide +kernel
theorem dX0_kind_19 : decode cX0_kind 19 = .ok (.aload_n 0, 1) := by decide +kernel
theorem dX0_kind_20 : decode cX0_kind 20 = .ok (.getfield 15, 3) := by decide +kernel
theorem dX0_kind_23 : decode cX0_kind 23 = .ok (.iload_n 1, 1) := by decide +kernel
theorem dX0_kind_24 : decode cX0_kind 24 = .ok (.invokevirtual 26, 3) := by decide +kernel
theorem dX0_kind_27 : decode cX0_kind 27 = .ok (.aload_n 0, 1) := by decide +kernel
theorem dX0_kind_28 : decode cX0_kind 28 = .ok (.getfield 15, 3) := by decide +kernel
theorem dX0_kind_31 : decode cX0_kind 31 = .ok (.iload_n 3, 1) := by decide +kernel
theorem dX0_kind_32 : decode cX0_kind 32 = .ok (.invokevirtual 26, 3) := by decide +kernel
theorem dX0_kind_35 : decode cX0_kind 35 = .ok (.if_icmp .ne 5, 3) := by decide +kernel
theorem dX0_kind_38 : decode cX0_kind 38 = .ok (.iconst 0, 1) := by decide +kernel
theorem dX0_kind_39 : decode cX0_kind 39 = .ok (.ireturn, 1) := by decide +kernel
theorem dX0_kind_40 : decode cX0_kind 40 = .ok (.aload_n 0, 1) := by decide +kernel
theorem dX0_kind_41 : decode cX0_kind 41 = .ok (.getfield 15, 3) := by decide +kernel
theorem dX0_kind_44 : decode cX0_kind 44 = .ok (.iload_n 1, 1) := by decide +kernel
theorem dX0_kind_45 : decode cX0_kind 45 = .ok (.invokevirtual 32, 3) := by decide +kernel
theorem dX0_kind_48 : decode cX0_kind 48 = .ok (.aload_n 0, 1) := by decide +kernel
theorem dX0_kind_49 : decode cX0_kind 49 = .ok (.getfield 15, 3) := by decide +kernel
theorem dX0_kind_52 : decode cX0_kind 52 = .ok (.iload_n 3, 1) := by decide +kernel
theorem dX0_kind_53 : decode cX0_kind 53 = .ok (.invokevirtual 32, 3) := by decide +kernel
theorem dX0_kind_56 : decode cX0_kind 56 = .ok (.if_icmp .ge 7, 3) := by decide +kernel
theorem dX0_kind_59 : decode cX0_kind 59 = .ok (.iload_n 1, 1) := by decide +kernel
theorem dX0_kind_60 : decode cX0_kind 60 = .ok (.goto 4, 3) := by decide +kernel
theorem dX0_kind_63 : decode cX0_kind 63 = .ok (.iload_n 3, 1) := by decide +kernel
theorem dX0_kind_64 : decode cX0_kind 64 = .ok (.istore 4, 2) := by decide +kernel
theorem dX0_kind_66 : decode cX0_kind 66 = .ok (.aload_n 0, 1) := by decide +kernel
theorem dX0_kind_67 : decode cX0_kind 67 = .ok (.getfield 15, 3) := by decide +kernel
theorem dX0_kind_70 : decode cX0_kind 70 = .ok (.iload 4, 2) := by decide +kernel
theorem dX0_kind_72 : decode cX0_kind 72 = .ok (.invokevirtual 26, 3) := by decide +kernel
theorem dX0_kind_75 : decode cX0_kind 75 = .ok (.ifCond .eq 7, 3) := by decide +kernel
theorem dX0_kind_78 : decode cX0_kind 78 = .ok (.iconst 1, 1) := by decide +kernel
theorem dX0_kind_79 : decode cX0_kind 79 = .ok (.goto 4, 3) := by decide +kernel
theorem dX0_kind_82 : decode cX0_kind 82 = .ok (.iconst 2, 1) := by decide +kernel
theorem dX0_kind_83 : decode cX0_kind 83 = .ok (.ireturn, 1) := by decide +kernel
theorem dX0_total_0 : decode cX0_total 0 = .ok (.iconst 0, 1) := by decide +kernel
theorem dX0_total_1 : decode cX0_total 1 = .ok (.istore_n 2, 1) := by decide +kernel
theorem dX0_total_2 : decode cX0_total 2 = .ok (.iconst 0, 1) := by decide +kernel
theorem dX0_total_3 : decode cX0_total 3 = .ok (.istore_n 3, 1) := by decide +kernel
theorem dX0_total_4 : decode cX0_total 4 = .ok (.iload_n 3, 1) := by decide +kernel
theorem dX0_total_5 : decode cX0_total 5 = .ok (.aload_n 0, 1) := by decide +kernel
theorem dX0_total_6 : decode cX0_total 6 = .ok (.getfield 9, 3) := by decide +kernel
theorem dX0_total_9 : decode cX0_total 9 = .ok (.getfield 36, 3) := by decide +kernel
theorem dX0_total_12 : decode cX0_total 12 = .ok (.if_icmp .ge 56, 3) := by decide +kernel
theorem dX0_total_15 : decode cX0_total 15 = .ok (.iconst 0, 1) := by decide +kernel
theorem dX0_total_16 : decode cX0_total 16 = .ok (.istore 4, 2) := by decide +kernel
theorem dX0_total_18 : decode cX0_total 18 = .ok (.iload 4, 2) := by decide +kernel
theorem dX0_total_20 : decode cX0_total 20 = .ok (.iconst 3, 1) := by decide +kernel
theorem dX0_total_21 : decode cX0_total 21 = .ok (.if_icmp .ge 41, 3) := by decide +kernel
theorem dX0_total_24 : decode cX0_total 24 = .ok (.iload_n 2, 1) := by decide +kernel
theorem dX0_total_25 : decode cX0_total 25 = .ok (.aload_n 0, 1) := by decide +kernel
theorem dX0_total_26 : decode cX0_total 26 = .ok (.iload_n 3, 1) := by decide +kernel
theorem dX0_total_27 : decode cX0_total 27 = .ok (.iload 4, 2) := by decide +kernel
theorem dX0_total_29 : decode cX0_total 29 = .ok (.invokevirtual 40, 3) := by decide +kernel
theorem dX0_total_32 : decode cX0_total 32 = .ok (.ifCond .eq 18, 3) := by decide +kernel
theorem dX0_total_35 : decode cX0_total 35 = .ok (.aload_n 0, 1) := by decide +kernel
theorem dX0_total_36 : decode cX0_total 36 = .ok (.iload_n 3, 1) := by decide +kernel
theorem dX0_total_37 : decode cX0_total 37 = .ok (.iload 4, 2) := by decide +kernel
theorem dX0_total_39 : decode cX0_total 39 = .ok (.invokevirtual 44, 3) := by decide +kernel
theorem dX0_total_42 : decode cX0_total 42 = .ok (.iload_n 1, 1) := by decide +kernel
theorem dX0_total_43 : decode cX0_total 43 = .ok (.if_icmp .ne 7, 3) := by decide +kernel
theorem dX0_total_46 : decode cX0_total 46 = .ok (.iconst 1, 1) := by decide +kernel
theorem dX0_total_47 : decode cX0_total 47 = .ok (.goto 4, 3) := by decide +kernel
theorem dX0_total_50 : decode cX0_total 50 = .ok (.iconst 0, 1) := by decide +kernel
theorem dX0_total_51 : decode cX0_total 51 = .ok (.invokestatic 47, 3) := by decide +kernel
theorem dX0_total_54 : decode cX0_total 54 = .ok (.iadd, 1) := by decide +kernel
theorem dX0_total_55 : decode cX0_total 55 = .ok (.istore_n 2, 1) := by decide +kernel
theorem dX0_total_56 : decode cX0_total 56 = .ok (.iinc 4 1, 3) := by decide +kernel
theorem dX0_total_59 : decode cX0_total 59 = .ok (.goto (-41), 3) := by decide +kernel
theorem dX0_total_62 : decode cX0_total 62 = .ok (.iinc 3 1, 3) := by decide +kernel
theorem dX0_total_65 : decode cX0_total 65 = .ok (.goto (-61), 3) := by decide +kernel
theorem dX0_total_68 : decode cX0_total 68 = .ok (.iload_n 2, 1) := by decide +kernel
theorem dX0_total_69 : decode cX0_total 69 = .ok (.ireturn, 1) := by decide +kernel
theorem dX0_ending_0 : decode cX0_ending 0 = .ok (.iconst 2, 1) := by decide +kernel
theorem dX0_ending_1 : decode cX0_ending 1 = .ok (.iload_n 2, 1) := by decide +kernel
theorem dX0_ending_2 : decode cX0_ending 2 = .ok (.imul, 1) := by decide +kernel
theorem dX0_ending_3 : decode cX0_ending 3 = .ok (.iload 4, 2) := by decide +kernel
theorem dX0_ending_5 : decode cX0_ending 5 = .ok (.invokestatic 47, 3) := by decide +kernel
theorem dX0_ending_8 : decode cX0_ending 8 = .ok (.iadd, 1) := by decide +kernel
theorem dX0_ending_9 : decode cX0_ending 9 = .ok (.istore 5, 2) := by decide +kernel
theorem dX0_ending_11 : decode cX0_ending 11 = .ok (.iconst 2, 1) := by decide +kernel
theorem dX0_ending_12 : decode cX0_ending 12 = .ok (.iload_n 3, 1) := by decide +kernel
theorem dX0_ending_13 : decode cX0_ending 13 = .ok (.imul, 1) := by decide +kernel
theorem dX0_ending_14 : decode cX0_ending 14 = .ok (.iload 4, 2) := by decide +kernel
theorem dX0_ending_16 : decode cX0_ending 16 = .ok (.invokestatic 47, 3) := by decide +kernel
theorem dX0_ending_19 : decode cX0_ending 19 = .ok (.iadd, 1) := by decide +kernel
theorem dX0_ending_20 : decode cX0_ending 20 = .ok (.istore 6, 2) := by decide +kernel
theorem dX0_ending_22 : decode cX0_ending 22 = .ok (.iconst 0, 1) := by decide +kernel
theorem dX0_ending_23 : decode cX0_ending 23 = .ok (.istore 7, 2) := by decide +kernel
theorem dX0_ending_25 : decode cX0_ending 25 = .ok (.iconst 0, 1) := by decide +kernel
theorem dX0_ending_26 : decode cX0_ending 26 = .ok (.istore 8, 2) := by decide +kernel
theorem dX0_ending_28 : decode cX0_ending 28 = .ok (.iload 8, 2) := by decide +kernel
theorem dX0_ending_30 : decode cX0_ending 30 = .ok (.aload_n 0, 1) := by decide +kernel
theorem dX0_ending_31 : decode cX0_ending 31 = .ok (.getfield 9, 3) := by decide +kernel
theorem dX0_ending_34 : decode cX0_ending 34 = .ok (.getfield 36, 3) := by decide +kernel
theorem dX0_ending_37 : decode cX0_ending 37 = .ok (.if_icmp .ge 87, 3) := by decide +kernel
theorem dX0_ending_40 : decode cX0_ending 40 = .ok (.iconst 0, 1) := by decide +kernel
theorem dX0_ending_41 : decode cX0_ending 41 = .ok (.istore 9, 2) := by decide +kernel
theorem dX0_ending_43 : decode cX0_ending 43 = .ok (.iload 9, 2) := by decide +kernel
theorem dX0_ending_45 : decode cX0_ending 45 = .ok (.iconst 3, 1) := by decide +kernel
theorem dX0_ending_46 : decode cX0_ending 46 = .ok (.if_icmp .ge 72, 3) := by decide +kernel
theorem dX0_ending_49 : decode cX0_ending 49 = .ok (.aload_n 0, 1) := by decide +kernel
theorem dX0_ending_50 : decode cX0_ending 50 = .ok (.iload 8, 2) := by decide +kernel
theorem dX0_ending_52 : decode cX0_ending 52 = .ok (.iload 9, 2) := by decide +kernel
theorem dX0_ending_54 : decode cX0_ending 54 = .ok (.invokevirtual 40, 3) := by decide +kernel
theorem dX0_ending_57 : decode cX0_ending 57 = .ok (.ifCond .eq 22, 3) := by decide +kernel
theorem dX0_ending_60 : decode cX0_ending 60 = .ok (.aload_n 0, 1) := by decide +kernel
theorem dX0_ending_61 : decode cX0_ending 61 = .ok (.iload 8, 2) := by decide +kernel
theorem dX0_ending_63 : decode cX0_ending 63 = .ok (.iload 9, 2) := by decide +kernel
theorem dX0_ending_65 : decode cX0_ending 65 = .ok (.iload 5, 2) := by decide +kernel
theorem dX0_ending_67 : decode cX0_ending 67 = .ok (.iload 6, 2) := by decide +kernel
theorem dX0_ending_69 : decode cX0_ending 69 = .ok (.invokevirtual 51, 3) := by decide +kernel
theorem dX0_ending_72 : decode cX0_ending 72 = .ok (.ifCond .eq 7, 3) := by decide +kernel
theorem dX0_ending_75 : decode cX0_ending 75 = .ok (.iconst 1, 1) := by decide +kernel
theorem dX0_ending_76 : decode cX0_ending 76 = .ok (.goto 4, 3) := by decide +kernel
theorem dX0_ending_79 : decode cX0_ending 79 = .ok (.iconst 0, 1) := by decide +kernel
theorem dX0_ending_80 : decode cX0_ending 80 = .ok (.istore 10, 2) := by decide +kernel
theorem dX0_ending_82 : decode cX0_ending 82 = .ok (.iload 7, 2) := by decide +kernel
theorem dX0_ending_84 : decode cX0_ending 84 = .ok (.iload 10, 2) := by decide +kernel
theorem dX0_ending_86 : decode cX0_ending 86 = .ok (.ifCond .eq 19, 3) := by decide +kernel
theorem dX0_ending_89 : decode cX0_ending 89 = .ok (.aload_n 0, 1) := by decide +kernel
theorem dX0_ending_90 : decode cX0_ending 90 = .ok (.iload 8, 2) := by decide +kernel
theorem dX0_ending_92 : decode cX0_ending 92 = .ok (.iload 9, 2) := by decide +kernel
theorem dX0_ending_94 : decode cX0_ending 94 = .ok (.invokevirtual 44, 3) := by decide +kernel
theorem dX0_ending_97 : decode cX0_ending 97 = .ok (.iload_n 1, 1) := by decide +kernel
theorem dX0_ending_98 : decode cX0_ending 98 = .ok (.if_icmp .ne 7, 3) := by decide +kernel
theorem dX0_ending_101 : decode cX0_ending 101 = .ok (.iconst 1, 1) := by decide +kernel
theorem dX0_ending_102 : decode cX0_ending 102 = .ok (.goto 4, 3) := by decide +kernel
theorem dX0_ending_105 : decode cX0_ending 105 = .ok (.iconst 0, 1) := by decide +kernel
theorem dX0_ending_106 : decode cX0_ending 106 = .ok (.invokestatic 47, 3) := by decide +kernel
theorem dX0_ending_109 : decode cX0_ending 109 = .ok (.iadd, 1) := by decide +kernel
theorem dX0_ending_110 : decode cX0_ending 110 = .ok (.istore 7, 2) := by decide +kernel
theorem dX0_ending_112 : decode cX0_ending 112 = .ok (.iinc 9 1, 3) := by decide +kernel
theorem dX0_ending_115 : decode cX0_ending 115 = .ok (.goto (-72), 3) := by decide +kernel
theorem dX0_ending_118 : decode cX0_ending 118 = .ok (.iinc 8 1, 3) := by decide +kernel
theorem dX0_ending_121 : decode cX0_ending 121 = .ok (.goto (-93), 3) := by decide +kernel
theorem dX0_ending_124 : decode cX0_ending 124 = .ok (.iload 7, 2) := by decide +kernel
theorem dX0_ending_126 : decode cX0_ending 126 = .ok (.ireturn, 1) := by decide +kernel
theorem dX0_isFirstOf_0 : decode cX0_isFirstOf 0 = .ok (.iload_n 1, 1) := by decide +kernel
theorem dX0_isFirstOf_1 : decode cX0_isFirstOf 1 = .ok (.aload_n 0, 1) := by decide +kernel
theorem dX0_isFirstOf_2 : decode cX0_isFirstOf 2 = .ok (.getfield 9, 3) := by decide +kernel
theorem dX0_isFirstOf_5 : decode cX0_isFirstOf 5 = .ok (.iload_n 1, 1) := by decide +kernel
theorem dX0_isFirstOf_6 : decode cX0_isFirstOf 6 = .ok (.iload_n 2, 1) := by decide +kernel
theorem dX0_isFirstOf_7 : decode cX0_isFirstOf 7 = .ok (.invokevirtual 19, 3) := by decide +kernel
theorem dX0_isFirstOf_10 : decode cX0_isFirstOf 10 = .ok (.if_icmp .ge 7, 3) := by decide +kernel
theorem dX0_isFirstOf_13 : decode cX0_isFirstOf 13 = .ok (.iconst 1, 1) := by decide +kernel
theorem dX0_isFirstOf_14 : decode cX0_isFirstOf 14 = .ok (.goto 4, 3) := by decide +kernel
theorem dX0_isFirstOf_17 : decode cX0_isFirstOf 17 = .ok (.iconst 0, 1) := by decide +kernel
theorem dX0_isFirstOf_18 : decode cX0_isFirstOf 18 = .ok (.ireturn, 1) := by decide +kernel
theorem dX0_endsAt_0 : decode cX0_endsAt 0 = .ok (.iload_n 3, 1) := by decide +kernel
theorem dX0_endsAt_1 : decode cX0_endsAt 1 = .ok (.iconst 2, 1) := by decide +kernel
theorem dX0_endsAt_2 : decode cX0_endsAt 2 = .ok (.aload_n 0, 1) := by decide +kernel
theorem dX0_endsAt_3 : decode cX0_endsAt 3 = .ok (.getfield 9, 3) := by decide +kernel
theorem dX0_endsAt_6 : decode cX0_endsAt 6 = .ok (.iload_n 1, 1) := by decide +kernel
theorem dX0_endsAt_7 : decode cX0_endsAt 7 = .ok (.invokevirtual 55, 3) := by decide +kernel
theorem dX0_endsAt_10 : decode cX0_endsAt 10 = .ok (.imul, 1) := by decide +kernel
theorem dX0_endsAt_11 : decode cX0_endsAt 11 = .ok (.isub, 1) := by decide +kernel
theorem dX0_endsAt_12 : decode cX0_endsAt 12 = .ok (.istore 5, 2) := by decide +kernel
theorem dX0_endsAt_14 : decode cX0_endsAt 14 = .ok (.iload 4, 2) := by decide +kernel
theorem dX0_endsAt_16 : decode cX0_endsAt 16 = .ok (.iconst 2, 1) := by decide +kernel
theorem dX0_endsAt_17 : decode cX0_endsAt 17 = .ok (.aload_n 0, 1) := by decide +kernel
theorem dX0_endsAt_18 : decode cX0_endsAt 18 = .ok (.getfield 9, 3) := by decide +kernel
theorem dX0_endsAt_21 : decode cX0_endsAt 21 = .ok (.iload_n 1, 1) := by decide +kernel
theorem dX0_endsAt_22 : decode cX0_endsAt 22 = .ok (.invokevirtual 58, 3) := by decide +kernel
theorem dX0_endsAt_25 : decode cX0_endsAt 25 = .ok (.imul, 1) := by decide +kernel
theorem dX0_endsAt_26 : decode cX0_endsAt 26 = .ok (.isub, 1) := by decide +kernel
theorem dX0_endsAt_27 : decode cX0_endsAt 27 = .ok (.istore 6, 2) := by decide +kernel
theorem dX0_endsAt_29 : decode cX0_endsAt 29 = .ok (.aload_n 0, 1) := by decide +kernel
theorem dX0_endsAt_30 : decode cX0_endsAt 30 = .ok (.getfield 9, 3) := by decide +kernel
theorem dX0_endsAt_33 : decode cX0_endsAt 33 = .ok (.iload_n 1, 1) := by decide +kernel
theorem dX0_endsAt_34 : decode cX0_endsAt 34 = .ok (.invokevirtual 61, 3) := by decide +kernel
theorem dX0_endsAt_37 : decode cX0_endsAt 37 = .ok (.istore 7, 2) := by decide +kernel
theorem dX0_endsAt_39 : decode cX0_endsAt 39 = .ok (.iload 7, 2) := by decide +kernel
theorem dX0_endsAt_41 : decode cX0_endsAt 41 = .ok (.iload 5, 2) := by decide +kernel
theorem dX0_endsAt_43 : decode cX0_endsAt 43 = .ok (.iload 6, 2) := by decide +kernel
theorem dX0_endsAt_45 : decode cX0_endsAt 45 = .ok (.invokestatic 64, 3) := by decide +kernel
theorem dX0_endsAt_48 : decode cX0_endsAt 48 = .ok (.istore 8, 2) := by decide +kernel
theorem dX0_endsAt_50 : decode cX0_endsAt 50 = .ok (.iload 7, 2) := by decide +kernel
theorem dX0_endsAt_52 : decode cX0_endsAt 52 = .ok (.iconst 3, 1) := by decide +kernel
theorem dX0_endsAt_53 : decode cX0_endsAt 53 = .ok (.iadd, 1) := by decide +kernel
theorem dX0_endsAt_54 : decode cX0_endsAt 54 = .ok (.iconst 3, 1) := by decide +kernel
theorem dX0_endsAt_55 : decode cX0_endsAt 55 = .ok (.iand, 1) := by decide +kernel
theorem dX0_endsAt_56 : decode cX0_endsAt 56 = .ok (.iload 5, 2) := by decide +kernel
theorem dX0_endsAt_58 : decode cX0_endsAt 58 = .ok (.iload 6, 2) := by decide +kernel
theorem dX0_endsAt_60 : decode cX0_endsAt 60 = .ok (.invokestatic 64, 3) := by decide +kernel
theorem dX0_endsAt_63 : decode cX0_endsAt 63 = .ok (.istore 9, 2) := by decide +kernel
theorem dX0_endsAt_65 : decode cX0_endsAt 65 = .ok (.iload 5, 2) := by decide +kernel
theorem dX0_endsAt_67 : decode cX0_endsAt 67 = .ok (.iconst 1, 1) := by decide +kernel
theorem dX0_endsAt_68 : decode cX0_endsAt 68 = .ok (.if_icmp .ne 13, 3) := by decide +kernel
theorem dX0_endsAt_71 : decode cX0_endsAt 71 = .ok (.iload 6, 2) := by decide +kernel
theorem dX0_endsAt_73 : decode cX0_endsAt 73 = .ok (.iconst 1, 1) := by decide +kernel
theorem dX0_endsAt_74 : decode cX0_endsAt 74 = .ok (.if_icmp .ne 7, 3) := by decide +kernel
theorem dX0_endsAt_77 : decode cX0_endsAt 77 = .ok (.iconst 1, 1) := by decide +kernel
theorem dX0_endsAt_78 : decode cX0_endsAt 78 = .ok (.goto 4, 3) := by decide +kernel
theorem dX0_endsAt_81 : decode cX0_endsAt 81 = .ok (.iconst 0, 1) := by decide +kernel
theorem dX0_endsAt_82 : decode cX0_endsAt 82 = .ok (.istore 10, 2) := by decide +kernel
theorem dX0_endsAt_84 : decode cX0_endsAt 84 = .ok (.iload_n 2, 1) := by decide +kernel
theorem dX0_endsAt_85 : decode cX0_endsAt 85 = .ok (.ifCond .ne 19, 3) := by decide +kernel
theorem dX0_endsAt_88 : decode cX0_endsAt 88 = .ok (.iload 8, 2) := by decide +kernel
theorem dX0_endsAt_90 : decode cX0_endsAt 90 = .ok (.ifCond .ne 8, 3) := by decide +kernel
theorem dX0_endsAt_93 : decode cX0_endsAt 93 = .ok (.iload 9, 2) := by decide +kernel
theorem dX0_endsAt_95 : decode cX0_endsAt 95 = .ok (.ifCond .eq 7, 3) := by decide +kernel
theorem dX0_endsAt_98 : decode cX0_endsAt 98 = .ok (.iconst 1, 1) := by decide +kernel
theorem dX0_endsAt_99 : decode cX0_endsAt 99 = .ok (.goto 4, 3) := by decide +kernel
theorem dX0_endsAt_102 : decode cX0_endsAt 102 = .ok (.iconst 0, 1) := by decide +kernel
theorem dX0_endsAt_103 : decode cX0_endsAt 103 = .ok (.ireturn, 1) := by decide +kernel
theorem dX0_endsAt_104 : decode cX0_endsAt 104 = .ok (.iload 10, 2) := by decide +kernel
theorem dX0_endsAt_106 : decode cX0_endsAt 106 = .ok (.ifCond .ne 21, 3) := by decide +kernel
theorem dX0_endsAt_109 : decode cX0_endsAt 109 = .ok (.iload_n 2, 1) := by decide +kernel
theorem dX0_endsAt_110 : decode cX0_endsAt 110 = .ok (.iconst 1, 1) := by decide +kernel
theorem dX0_endsAt_111 : decode cX0_endsAt 111 = .ok (.if_icmp .ne 11, 3) := by decide +kernel
theorem dX0_endsAt_114 : decode cX0_endsAt 114 = .ok (.iload 8, 2) := by decide +kernel
theorem dX0_endsAt_116 : decode cX0_endsAt 116 = .ok (.ifCond .eq 15, 3) := by decide +kernel
theorem dX0_endsAt_119 : decode cX0_endsAt 119 = .ok (.goto 8, 3) := by decide +kernel
theorem dX0_endsAt_122 : decode cX0_endsAt 122 = .ok (.iload 9, 2) := by decide +kernel
theorem dX0_endsAt_124 : decode cX0_endsAt 124 = .ok (.ifCond .eq 7, 3) := by decide +kernel
theorem dX0_endsAt_127 : decode cX0_endsAt 127 = .ok (.iconst 1, 1) := by decide +kernel
theorem dX0_endsAt_128 : decode cX0_endsAt 128 = .ok (.goto 4, 3) := by decide +kernel
theorem dX0_endsAt_131 : decode cX0_endsAt 131 = .ok (.iconst 0, 1) := by decide +kernel
theorem dX0_endsAt_132 : decode cX0_endsAt 132 = .ok (.ireturn, 1) := by decide +kernel
theorem dX0_isCorner_0 : decode cX0_isCorner 0 = .ok (.iload_n 0, 1) := by decide +kernel
theorem dX0_isCorner_1 : decode cX0_isCorner 1 = .ok (.ifCond .eq 8, 3) := by decide +kernel
theorem dX0_isCorner_4 : decode cX0_isCorner 4 = .ok (.iload_n 0, 1) := by decide +kernel
theorem dX0_isCorner_5 : decode cX0_isCorner 5 = .ok (.iconst 1, 1) := by decide +kernel
theorem dX0_isCorner_6 : decode cX0_isCorner 6 = .ok (.if_icmp .ne 7, 3) := by decide +kernel
theorem dX0_isCorner_9 : decode cX0_isCorner 9 = .ok (.iconst 2, 1) := by decide +kernel
theorem dX0_isCorner_10 : decode cX0_isCorner 10 = .ok (.goto 4, 3) := by decide +kernel
theorem dX0_isCorner_13 : decode cX0_isCorner 13 = .ok (.iconst 0, 1) := by decide +kernel
theorem dX0_isCorner_14 : decode cX0_isCorner 14 = .ok (.istore_n 3, 1) := by decide +kernel
theorem dX0_isCorner_15 : decode cX0_isCorner 15 = .ok (.iload_n 0, 1) := by decide +kernel
theorem dX0_isCorner_16 : decode cX0_isCorner 16 = .ok (.iconst 1, 1) := by decide +kernel
theorem dX0_isCorner_17 : decode cX0_isCorner 17 = .ok (.if_icmp .eq 8, 3) := by decide +kernel
theorem dX0_isCorner_20 : decode cX0_isCorner 20 = .ok (.iload_n 0, 1) := by decide +kernel
theorem dX0_isCorner_21 : decode cX0_isCorner 21 = .ok (.iconst 2, 1) := by decide +kernel
theorem dX0_isCorner_22 : decode cX0_isCorner 22 = .ok (.if_icmp .ne 7, 3) := by decide +kernel
theorem dX0_isCorner_25 : decode cX0_isCorner 25 = .ok (.iconst 2, 1) := by decide +kernel
theorem dX0_isCorner_26 : decode cX0_isCorner 26 = .ok (.goto 4, 3) := by decide +kernel
theorem dX0_isCorner_29 : decode cX0_isCorner 29 = .ok (.iconst 0, 1) := by decide +kernel
theorem dX0_isCorner_30 : decode cX0_isCorner 30 = .ok (.istore 4, 2) := by decide +kernel
theorem dX0_isCorner_32 : decode cX0_isCorner 32 = .ok (.iload_n 1, 1) := by decide +kernel
theorem dX0_isCorner_33 : decode cX0_isCorner 33 = .ok (.iload_n 3, 1) := by decide +kernel
theorem dX0_isCorner_34 : decode cX0_isCorner 34 = .ok (.if_icmp .ne 13, 3) := by decide +kernel
theorem dX0_isCorner_37 : decode cX0_isCorner 37 = .ok (.iload_n 2, 1) := by decide +kernel
theorem dX0_isCorner_38 : decode cX0_isCorner 38 = .ok (.iload 4, 2) := by decide +kernel
theorem dX0_isCorner_40 : decode cX0_isCorner 40 = .ok (.if_icmp .ne 7, 3) := by decide +kernel
theorem dX0_isCorner_43 : decode cX0_isCorner 43 = .ok (.iconst 1, 1) := by decide +kernel
theorem dX0_isCorner_44 : decode cX0_isCorner 44 = .ok (.goto 4, 3) := by decide +kernel
theorem dX0_isCorner_47 : decode cX0_isCorner 47 = .ok (.iconst 0, 1) := by decide +kernel
theorem dX0_isCorner_48 : decode cX0_isCorner 48 = .ok (.ireturn, 1) := by decide +kernel
theorem dX1_init_0 : decode cX1_init 0 = .ok (.aload_n 0, 1) := by decide +kernel
theorem dX1_init_1 : decode cX1_init 1 = .ok (.invokespecial 3, 3) := by decide +kernel
theorem dX1_init_4 : decode cX1_init 4 = .ok (.aload_n 0, 1) := by decide +kernel
theorem dX1_init_5 : decode cX1_init 5 = .ok (.sipush 144, 3) := by decide +kernel
theorem dX1_init_8 : decode cX1_init 8 = .ok (.newarray .int, 2) := by decide +kernel
theorem dX1_init_10 : decode cX1_init 10 = .ok (.putfield 9, 3) := by decide +kernel
theorem dX1_init_13 : decode cX1_init 13 = .ok (.aload_n 0, 1) := by decide +kernel
theorem dX1_init_14 : decode cX1_init 14 = .ok (.aload_n 1, 1) := by decide +kernel
theorem dX1_init_15 : decode cX1_init 15 = .ok (.putfield 15, 3) := by decide +kernel
theorem dX1_init_18 : decode cX1_init 18 = .ok (.return_, 1) := by decide +kernel
theorem dX1_wipe_0 : decode cX1_wipe 0 = .ok (.aload_n 0, 1) := by decide +kernel
theorem dX1_wipe_1 : decode cX1_wipe 1 = .ok (.getfield 9, 3) := by decide +kernel
theorem dX1_wipe_4 : decode cX1_wipe 4 = .ok (.iconst 0, 1) := by decide +kernel
theorem dX1_wipe_5 : decode cX1_wipe 5 = .ok (.invokestatic 19, 3) := by decide +kernel
theorem dX1_wipe_8 : decode cX1_wipe 8 = .ok (.aload_n 0, 1) := by decide +kernel
theorem dX1_wipe_9 : decode cX1_wipe 9 = .ok (.iconst 0, 1) := by decide +kernel
theorem dX1_wipe_10 : decode cX1_wipe 10 = .ok (.putfield 25, 3) := by decide +kernel
theorem dX1_wipe_13 : decode cX1_wipe 13 = .ok (.return_, 1) := by decide +kernel
theorem dX1_has_0 : decode cX1_has 0 = .ok (.aload_n 0, 1) := by decide +kernel
theorem dX1_has_1 : decode cX1_has 1 = .ok (.getfield 9, 3) := by decide +kernel
theorem dX1_has_4 : decode cX1_has 4 = .ok (.iload_n 1, 1) := by decide +kernel
theorem dX1_has_5 : decode cX1_has 5 = .ok (.invokestatic 29, 3) := by decide +kernel
theorem dX1_has_8 : decode cX1_has 8 = .ok (.iconst 1, 1) := by decide +kernel
theorem dX1_has_9 : decode cX1_has 9 = .ok (.if_icmp .ne 7, 3) := by decide +kernel
theorem dX1_has_12 : decode cX1_has 12 = .ok (.iconst 1, 1) := by decide +kernel
theorem dX1_has_13 : decode cX1_has 13 = .ok (.goto 4, 3) := by decide +kernel
theorem dX1_has_16 : decode cX1_has 16 = .ok (.iconst 0, 1) := by decide +kernel
theorem dX1_has_17 : decode cX1_has 17 = .ok (.ireturn, 1) := by decide +kernel
theorem dX1_put_0 : decode cX1_put 0 = .ok (.aload_n 0, 1) := by decide +kernel
theorem dX1_put_1 : decode cX1_put 1 = .ok (.dup, 1) := by decide +kernel
theorem dX1_put_2 : decode cX1_put 2 = .ok (.getfield 25, 3) := by decide +kernel
theorem dX1_put_5 : decode cX1_put 5 = .ok (.iload_n 2, 1) := by decide +kernel
theorem dX1_put_6 : decode cX1_put 6 = .ok (.invokestatic 33, 3) := by decide +kernel
theorem dX1_put_9 : decode cX1_put 9 = .ok (.aload_n 0, 1) := by decide +kernel
theorem dX1_put_10 : decode cX1_put 10 = .ok (.getfield 9, 3) := by decide +kernel
theorem dX1_put_13 : decode cX1_put 13 = .ok (.iload_n 1, 1) := by decide +kernel
theorem dX1_put_14 : decode cX1_put 14 = .ok (.invokestatic 29, 3) := by decide +kernel
theorem dX1_put_17 : decode cX1_put 17 = .ok (.isub, 1) := by decide +kernel
theorem dX1_put_18 : decode cX1_put 18 = .ok (.iadd, 1) := by decide +kernel
theorem dX1_put_19 : decode cX1_put 19 = .ok (.putfield 25, 3) := by decide +kernel
theorem dX1_put_22 : decode cX1_put 22 = .ok (.aload_n 0, 1) := by decide +kernel
theorem dX1_put_23 : decode cX1_put 23 = .ok (.getfield 9, 3) := by decide +kernel
theorem dX1_put_26 : decode cX1_put 26 = .ok (.iload_n 1, 1) := by decide +kernel
theorem dX1_put_27 : decode cX1_put 27 = .ok (.iload_n 2, 1) := by decide +kernel
theorem dX1_put_28 : decode cX1_put 28 = .ok (.invokestatic 33, 3) := by decide +kernel
theorem dX1_put_31 : decode cX1_put 31 = .ok (.invokestatic 37, 3) := by decide +kernel
theorem dX1_put_34 : decode cX1_put 34 = .ok (.return_, 1) := by decide +kernel
theorem dX1_first_0 : decode cX1_first 0 = .ok (.iconst 0, 1) := by decide +kernel
theorem dX1_first_1 : decode cX1_first 1 = .ok (.istore_n 2, 1) := by decide +kernel
theorem dX1_first_2 : decode cX1_first 2 = .ok (.iload_n 2, 1) := by decide +kernel
theorem dX1_first_3 : decode cX1_first 3 = .ok (.aload_n 0, 1) := by decide +kernel
theorem dX1_first_4 : decode cX1_first 4 = .ok (.getfield 15, 3) := by decide +kernel
theorem dX1_first_7 : decode cX1_first 7 = .ok (.getfield 41, 3) := by decide +kernel
theorem dX1_first_10 : decode cX1_first 10 = .ok (.if_icmp .ge 20, 3) := by decide +kernel
theorem dX1_first_13 : decode cX1_first 13 = .ok (.aload_n 0, 1) := by decide +kernel
theorem dX1_first_14 : decode cX1_first 14 = .ok (.iload_n 2, 1) := by decide +kernel
theorem dX1_first_15 : decode cX1_first 15 = .ok (.invokevirtual 46, 3) := by decide +kernel
theorem dX1_first_18 : decode cX1_first 18 = .ok (.iload_n 1, 1) := by decide +kernel
theorem dX1_first_19 : decode cX1_first 19 = .ok (.if_icmp .ne 5, 3) := by decide +kernel
theorem dX1_first_22 : decode cX1_first 22 = .ok (.iload_n 2, 1) := by decide +kernel
theorem dX1_first_23 : decode cX1_first 23 = .ok (.ireturn, 1) := by decide +kernel
theorem dX1_first_24 : decode cX1_first 24 = .ok (.iinc 2 1, 3) := by decide +kernel
theorem dX1_first_27 : decode cX1_first 27 = .ok (.goto (-25), 3) := by decide +kernel
theorem dX1_first_30 : decode cX1_first 30 = .ok (.iconst 0, 1) := by decide +kernel
theorem dX1_first_31 : decode cX1_first 31 = .ok (.ireturn, 1) := by decide +kernel
theorem dX1_isMirror_0 : decode cX1_isMirror 0 = .ok (.iconst 0, 1) := by decide +kernel
theorem dX1_isMirror_1 : decode cX1_isMirror 1 = .ok (.istore_n 3, 1) := by decide +kernel
theorem dX1_isMirror_2 : decode cX1_isMirror 2 = .ok (.iload_n 3, 1) := by decide +kernel
theorem dX1_isMirror_3 : decode cX1_isMirror 3 = .ok (.aload_n 0, 1) := by decide +kernel
theorem dX1_isMirror_4 : decode cX1_isMirror 4 = .ok (.getfield 15, 3) := by decide +kernel
theorem dX1_isMirror_7 : decode cX1_isMirror 7 = .ok (.getfield 41, 3) := by decide +kernel
theorem dX1_isMirror_10 : decode cX1_isMirror 10 = .ok (.if_icmp .ge 110, 3) := by decide +kernel
theorem dX1_isMirror_13 : decode cX1_isMirror 13 = .ok (.iload_n 1, 1) := by decide +kernel
theorem dX1_isMirror_14 : decode cX1_isMirror 14 = .ok (.iload_n 2, 1) := by decide +kernel
theorem dX1_isMirror_15 : decode cX1_isMirror 15 = .ok (.aload_n 0, 1) := by decide +kernel
theorem dX1_isMirror_16 : decode cX1_isMirror 16 = .ok (.getfield 15, 3) := by decide +kernel
theorem dX1_isMirror_19 : decode cX1_isMirror 19 = .ok (.iload_n 3, 1) := by decide +kernel
theorem dX1_isMirror_20 : decode cX1_isMirror 20 = .ok (.invokevirtual 50, 3) := by decide +kernel
theorem dX1_isMirror_23 : decode cX1_isMirror 23 = .ok (.aload_n 0, 1) := by decide +kernel
theorem dX1_isMirror_24 : decode cX1_isMirror 24 = .ok (.getfield 15, 3) := by decide +kernel
theorem dX1_isMirror_27 : decode cX1_isMirror 27 = .ok (.iload_n 3, 1) := by decide +kernel
theorem dX1_isMirror_28 : decode cX1_isMirror 28 = .ok (.invokevirtual 54, 3) := by decide +kernel
theorem dX1_isMirror_31 : decode cX1_isMirror 31 = .ok (.invokestatic 57, 3) := by decide +kernel
theorem dX1_isMirror_34 : decode cX1_isMirror 34 = .ok (.istore 4, 2) := by decide +kernel
theorem dX1_isMirror_36 : decode cX1_isMirror 36 = .ok (.iload_n 1, 1) := by decide +kernel
theorem dX1_isMirror_37 : decode cX1_isMirror 37 = .ok (.iload_n 2, 1) := by decide +kernel
theorem dX1_isMirror_38 : decode cX1_isMirror 38 = .ok (.aload_n 0, 1) := by decide +kernel
theorem dX1_isMirror_39 : decode cX1_isMirror 39 = .ok (.getfield 15, 3) := by decide +kernel
theorem dX1_isMirror_42 : decode cX1_isMirror 42 = .ok (.iload_n 3, 1) := by decide +kernel
theorem dX1_isMirror_43 : decode cX1_isMirror 43 = .ok (.invokevirtual 50, 3) := by decide +kernel
theorem dX1_isMirror_46 : decode cX1_isMirror 46 = .ok (.aload_n 0, 1) := by decide +kernel
theorem dX1_isMirror_47 : decode cX1_isMirror 47 = .ok (.getfield 15, 3) := by decide +kernel
theorem dX1_isMirror_50 : decode cX1_isMirror 50 = .ok (.iload_n 3, 1) := by decide +kernel
theorem dX1_isMirror_51 : decode cX1_isMirror 51 = .ok (.invokevirtual 54, 3) := by decide +kernel
theorem dX1_isMirror_54 : decode cX1_isMirror 54 = .ok (.invokestatic 63, 3) := by decide +kernel
theorem dX1_isMirror_57 : decode cX1_isMirror 57 = .ok (.istore 5, 2) := by decide +kernel
theorem dX1_isMirror_59 : decode cX1_isMirror 59 = .ok (.iload_n 1, 1) := by decide +kernel
theorem dX1_isMirror_60 : decode cX1_isMirror 60 = .ok (.aload_n 0, 1) := by decide +kernel
theorem dX1_isMirror_61 : decode cX1_isMirror 61 = .ok (.getfield 15, 3) := by decide +kernel
theorem dX1_isMirror_64 : decode cX1_isMirror 64 = .ok (.iload_n 3, 1) := by decide +kernel
theorem dX1_isMirror_65 : decode cX1_isMirror 65 = .ok (.invokevirtual 66, 3) := by decide +kernel
theorem dX1_isMirror_68 : decode cX1_isMirror 68 = .ok (.invokestatic 69, 3) := by decide +kernel
theorem dX1_isMirror_71 : decode cX1_isMirror 71 = .ok (.istore 6, 2) := by decide +kernel
theorem dX1_isMirror_73 : decode cX1_isMirror 73 = .ok (.aload_n 0, 1) := by decide +kernel
theorem dX1_isMirror_74 : decode cX1_isMirror 74 = .ok (.getfield 15, 3) := by decide +kernel
theorem dX1_isMirror_77 : decode cX1_isMirror 77 = .ok (.iload 4, 2) := by decide +kernel
theorem dX1_isMirror_79 : decode cX1_isMirror 79 = .ok (.iload 5, 2) := by decide +kernel
theorem dX1_isMirror_81 : decode cX1_isMirror 81 = .ok (.invokevirtual 73, 3) := by decide +kernel
theorem dX1_isMirror_84 : decode cX1_isMirror 84 = .ok (.ifCond .eq 28, 3) := by decide +kernel
theorem dX1_isMirror_87 : decode cX1_isMirror 87 = .ok (.aload_n 0, 1) := by decide +kernel
theorem dX1_isMirror_88 : decode cX1_isMirror 88 = .ok (.aload_n 0, 1) := by decide +kernel
theorem dX1_isMirror_89 : decode cX1_isMirror 89 = .ok (.getfield 15, 3) := by decide +kernel
theorem dX1_isMirror_92 : decode cX1_isMirror 92 = .ok (.iload 4, 2) := by decide +kernel
theorem dX1_isMirror_94 : decode cX1_isMirror 94 = .ok (.iload 5, 2) := by decide +kernel
theorem dX1_isMirror_96 : decode cX1_isMirror 96 = .ok (.iload 6, 2) := by decide +kernel
theorem dX1_isMirror_98 : decode cX1_isMirror 98 = .ok (.invokevirtual 77, 3) := by decide +kernel
theorem dX1_isMirror_101 : decode cX1_isMirror 101 = .ok (.invokevirtual 46, 3) := by decide +kernel
theorem dX1_isMirror_104 : decode cX1_isMirror 104 = .ok (.aload_n 0, 1) := by decide +kernel
theorem dX1_isMirror_105 : decode cX1_isMirror 105 = .ok (.iload_n 3, 1) := by decide +kernel
theorem dX1_isMirror_106 : decode cX1_isMirror 106 = .ok (.invokevirtual 46, 3) := by decide +kernel
theorem dX1_isMirror_109 : decode cX1_isMirror 109 = .ok (.if_icmp .eq 5, 3) := by decide +kernel
theorem dX1_isMirror_112 : decode cX1_isMirror 112 = .ok (.iconst 0, 1) := by decide +kernel
theorem dX1_isMirror_113 : decode cX1_isMirror 113 = .ok (.ireturn, 1) := by decide +kernel
theorem dX1_isMirror_114 : decode cX1_isMirror 114 = .ok (.iinc 3 1, 3) := by decide +kernel
theorem dX1_isMirror_117 : decode cX1_isMirror 117 = .ok (.goto (-115), 3) := by decide +kernel
theorem dX1_isMirror_120 : decode cX1_isMirror 120 = .ok (.iconst 1, 1) := by decide +kernel
theorem dX1_isMirror_121 : decode cX1_isMirror 121 = .ok (.ireturn, 1) := by decide +kernel
theorem dX2_init_0 : decode cX2_init 0 = .ok (.aload_n 0, 1) := by decide +kernel
theorem dX2_init_1 : decode cX2_init 1 = .ok (.invokespecial 3, 3) := by decide +kernel
theorem dX2_init_4 : decode cX2_init 4 = .ok (.aload_n 0, 1) := by decide +kernel
theorem dX2_init_5 : decode cX2_init 5 = .ok (.sipush 144, 3) := by decide +kernel
theorem dX2_init_8 : decode cX2_init 8 = .ok (.newarray .int, 2) := by decide +kernel
theorem dX2_init_10 : decode cX2_init 10 = .ok (.putfield 9, 3) := by decide +kernel
theorem dX2_init_13 : decode cX2_init 13 = .ok (.aload_n 0, 1) := by decide +kernel
theorem dX2_init_14 : decode cX2_init 14 = .ok (.sipush 144, 3) := by decide +kernel
theorem dX2_init_17 : decode cX2_init 17 = .ok (.newarray .int, 2) := by decide +kernel
theorem dX2_init_19 : decode cX2_init 19 = .ok (.putfield 15, 3) := by decide +kernel
theorem dX2_init_22 : decode cX2_init 22 = .ok (.aload_n 0, 1) := by decide +kernel
theorem dX2_init_23 : decode cX2_init 23 = .ok (.sipush 144, 3) := by decide +kernel
theorem dX2_init_26 : decode cX2_init 26 = .ok (.newarray .int, 2) := by decide +kernel
theorem dX2_init_28 : decode cX2_init 28 = .ok (.putfield 18, 3) := by decide +kernel
theorem dX2_init_31 : decode cX2_init 31 = .ok (.aload_n 0, 1) := by decide +kernel
theorem dX2_init_32 : decode cX2_init 32 = .ok (.sipush 1024, 3) := by decide +kernel
theorem dX2_init_35 : decode cX2_init 35 = .ok (.newarray .int, 2) := by decide +kernel
theorem dX2_init_37 : decode cX2_init 37 = .ok (.putfield 23, 3) := by decide +kernel
theorem dX2_init_40 : decode cX2_init 40 = .ok (.aload_n 0, 1) := by decide +kernel
theorem dX2_init_41 : decode cX2_init 41 = .ok (.bipush 12, 2) := by decide +kernel
theorem dX2_init_43 : decode cX2_init 43 = .ok (.newarray .int, 2) := by decide +kernel
theorem dX2_init_45 : decode cX2_init 45 = .ok (.putfield 26, 3) := by decide +kernel
theorem dX2_init_48 : decode cX2_init 48 = .ok (.aload_n 0, 1) := by decide +kernel
theorem dX2_init_49 : decode cX2_init 49 = .ok (.bipush 12, 2) := by decide +kernel
theorem dX2_init_51 : decode cX2_init 51 = .ok (.newarray .int, 2) := by decide +kernel
theorem dX2_init_53 : decode cX2_init 53 = .ok (.putfield 29, 3) := by decide +kernel
theorem dX2_init_56 : decode cX2_init 56 = .ok (.aload_n 0, 1) := by decide +kernel
theorem dX2_init_57 : decode cX2_init 57 = .ok (.aload_n 1, 1) := by decide +kernel
theorem dX2_init_58 : decode cX2_init 58 = .ok (.putfield 32, 3) := by decide +kernel
theorem dX2_init_61 : decode cX2_init 61 = .ok (.return_, 1) := by decide +kernel
theorem dX2_load_0 : decode cX2_load 0 = .ok (.iconst 2, 1) := by decide +kernel
theorem dX2_load_1 : decode cX2_load 1 = .ok (.aload_n 2, 1) := by decide +kernel
theorem dX2_load_2 : decode cX2_load 2 = .ok (.getfield 36, 3) := by decide +kernel
theorem dX2_load_5 : decode cX2_load 5 = .ok (.imul, 1) := by decide +kernel
theorem dX2_load_6 : decode cX2_load 6 = .ok (.aload_n 1, 1) := by decide +kernel
theorem dX2_load_7 : decode cX2_load 7 = .ok (.getfield 42, 3) := by decide +kernel
theorem dX2_load_10 : decode cX2_load 10 = .ok (.if_icmp .gt 7, 3) := by decide +kernel
theorem dX2_load_13 : decode cX2_load 13 = .ok (.iconst 1, 1) := by decide +kernel
theorem dX2_load_14 : decode cX2_load 14 = .ok (.goto 4, 3) := by decide +kernel
theorem dX2_load_17 : decode cX2_load 17 = .ok (.iconst 0, 1) := by decide +kernel
theorem dX2_load_18 : decode cX2_load 18 = .ok (.istore_n 3, 1) := by decide +kernel
theorem dX2_load_19 : decode cX2_load 19 = .ok (.aload_n 2, 1) := by decide +kernel
theorem dX2_load_20 : decode cX2_load 20 = .ok (.iload_n 3, 1) := by decide +kernel
theorem dX2_load_21 : decode cX2_load 21 = .ok (.invokevirtual 47, 3) := by decide +kernel
theorem dX2_load_24 : decode cX2_load 24 = .ok (.istore 4, 2) := by decide +kernel
theorem dX2_load_26 : decode cX2_load 26 = .ok (.aload_n 0, 1) := by decide +kernel
theorem dX2_load_27 : decode cX2_load 27 = .ok (.iload_n 3, 1) := by decide +kernel
theorem dX2_load_28 : decode cX2_load 28 = .ok (.ifCond .eq 7, 3) := by decide +kernel
theorem dX2_load_31 : decode cX2_load 31 = .ok (.iconst 1, 1) := by decide +kernel
theorem dX2_load_32 : decode cX2_load 32 = .ok (.goto 4, 3) := by decide +kernel
theorem dX2_load_35 : decode cX2_load 35 = .ok (.iconst 2, 1) := by decide +kernel
theorem dX2_load_36 : decode cX2_load 36 = .ok (.invokevirtual 51, 3) := by decide +kernel
theorem dX2_load_39 : decode cX2_load 39 = .ok (.aload_n 0, 1) := by decide +kernel
theorem dX2_load_40 : decode cX2_load 40 = .ok (.aload_n 1, 1) := by decide +kernel
theorem dX2_load_41 : decode cX2_load 41 = .ok (.aload_n 2, 1) := by decide +kernel
theorem dX2_load_42 : decode cX2_load 42 = .ok (.iload_n 3, 1) := by decide +kernel
theorem dX2_load_43 : decode cX2_load 43 = .ok (.iload 4, 2) := by decide +kernel
theorem dX2_load_45 : decode cX2_load 45 = .ok (.invokevirtual 55, 3) := by decide +kernel
theorem dX2_load_48 : decode cX2_load 48 = .ok (.aload_n 0, 1) := by decide +kernel
theorem dX2_load_49 : decode cX2_load 49 = .ok (.aload_n 1, 1) := by decide +kernel
theorem dX2_load_50 : decode cX2_load 50 = .ok (.aload_n 2, 1) := by decide +kernel
theorem dX2_load_51 : decode cX2_load 51 = .ok (.iload_n 3, 1) := by decide +kernel
theorem dX2_load_52 : decode cX2_load 52 = .ok (.ifCond .ne 7, 3) := by decide +kernel
theorem dX2_load_55 : decode cX2_load 55 = .ok (.iconst 1, 1) := by decide +kernel
theorem dX2_load_56 : decode cX2_load 56 = .ok (.goto 4, 3) := by decide +kernel
theorem dX2_load_59 : decode cX2_load 59 = .ok (.iconst 0, 1) := by decide +kernel
theorem dX2_load_60 : decode cX2_load 60 = .ok (.iload 4, 2) := by decide +kernel
theorem dX2_load_62 : decode cX2_load 62 = .ok (.invokevirtual 55, 3) := by decide +kernel
theorem dX2_load_65 : decode cX2_load 65 = .ok (.return_, 1) := by decide +kernel
theorem dX2_putAround_0 : decode cX2_putAround 0 = .ok (.iconst 0, 1) := by decide +kernel
theorem dX2_putAround_1 : decode cX2_putAround 1 = .ok (.istore 5, 2) := by decide +kernel
theorem dX2_putAround_3 : decode cX2_putAround 3 = .ok (.iload 5, 2) := by decide +kernel
theorem dX2_putAround_5 : decode cX2_putAround 5 = .ok (.aload_n 1, 1) := by decide +kernel
theorem dX2_putAround_6 : decode cX2_putAround 6 = .ok (.getfield 59, 3) := by decide +kernel
theorem dX2_putAround_9 : decode cX2_putAround 9 = .ok (.if_icmp .ge 81, 3) := by decide +kernel
theorem dX2_putAround_12 : decode cX2_putAround 12 = .ok (.iconst 0, 1) := by decide +kernel
theorem dX2_putAround_13 : decode cX2_putAround 13 = .ok (.istore 6, 2) := by decide +kernel
theorem dX2_putAround_15 : decode cX2_putAround 15 = .ok (.iload 6, 2) := by decide +kernel
theorem dX2_putAround_17 : decode cX2_putAround 17 = .ok (.aload_n 1, 1) := by decide +kernel
theorem dX2_putAround_18 : decode cX2_putAround 18 = .ok (.getfield 42, 3) := by decide +kernel
theorem dX2_putAround_21 : decode cX2_putAround 21 = .ok (.if_icmp .ge 63, 3) := by decide +kernel
theorem dX2_putAround_24 : decode cX2_putAround 24 = .ok (.aload_n 2, 1) := by decide +kernel
theorem dX2_putAround_25 : decode cX2_putAround 25 = .ok (.iload 6, 2) := by decide +kernel
theorem dX2_putAround_27 : decode cX2_putAround 27 = .ok (.invokevirtual 62, 3) := by decide +kernel
theorem dX2_putAround_30 : decode cX2_putAround 30 = .ok (.iload_n 3, 1) := by decide +kernel
theorem dX2_putAround_31 : decode cX2_putAround 31 = .ok (.if_icmp .ne 47, 3) := by decide +kernel
theorem dX2_putAround_34 : decode cX2_putAround 34 = .ok (.aload_n 1, 1) := by decide +kernel
theorem dX2_putAround_35 : decode cX2_putAround 35 = .ok (.iload 6, 2) := by decide +kernel
theorem dX2_putAround_37 : decode cX2_putAround 37 = .ok (.iload 4, 2) := by decide +kernel
theorem dX2_putAround_39 : decode cX2_putAround 39 = .ok (.invokevirtual 66, 3) := by decide +kernel
theorem dX2_putAround_42 : decode cX2_putAround 42 = .ok (.iload 5, 2) := by decide +kernel
theorem dX2_putAround_44 : decode cX2_putAround 44 = .ok (.if_icmp .ne 34, 3) := by decide +kernel
theorem dX2_putAround_47 : decode cX2_putAround 47 = .ok (.aload_n 0, 1) := by decide +kernel
theorem dX2_putAround_48 : decode cX2_putAround 48 = .ok (.aload_n 1, 1) := by decide +kernel
theorem dX2_putAround_49 : decode cX2_putAround 49 = .ok (.iload 6, 2) := by decide +kernel
theorem dX2_putAround_51 : decode cX2_putAround 51 = .ok (.invokevirtual 70, 3) := by decide +kernel
theorem dX2_putAround_54 : decode cX2_putAround 54 = .ok (.aload_n 1, 1) := by decide +kernel
theorem dX2_putAround_55 : decode cX2_putAround 55 = .ok (.iload 6, 2) := by decide +kernel
theorem dX2_putAround_57 : decode cX2_putAround 57 = .ok (.invokevirtual 74, 3) := by decide +kernel
theorem dX2_putAround_60 : decode cX2_putAround 60 = .ok (.aload_n 1, 1) := by decide +kernel
theorem dX2_putAround_61 : decode cX2_putAround 61 = .ok (.iload 6, 2) := by decide +kernel
theorem dX2_putAround_63 : decode cX2_putAround 63 = .ok (.invokevirtual 77, 3) := by decide +kernel
theorem dX2_putAround_66 : decode cX2_putAround 66 = .ok (.iload_n 3, 1) := by decide +kernel
theorem dX2_putAround_67 : decode cX2_putAround 67 = .ok (.ifCond .eq 7, 3) := by decide +kernel
theorem dX2_putAround_70 : decode cX2_putAround 70 = .ok (.iconst 1, 1) := by decide +kernel
theorem dX2_putAround_71 : decode cX2_putAround 71 = .ok (.goto 4, 3) := by decide +kernel
theorem dX2_putAround_74 : decode cX2_putAround 74 = .ok (.iconst 2, 1) := by decide +kernel
theorem dX2_putAround_75 : decode cX2_putAround 75 = .ok (.invokevirtual 80, 3) := by decide +kernel
theorem dX2_putAround_78 : decode cX2_putAround 78 = .ok (.iinc 6 1, 3) := by decide +kernel
theorem dX2_putAround_81 : decode cX2_putAround 81 = .ok (.goto (-66), 3) := by decide +kernel
theorem dX2_putAround_84 : decode cX2_putAround 84 = .ok (.iinc 5 1, 3) := by decide +kernel
theorem dX2_putAround_87 : decode cX2_putAround 87 = .ok (.goto (-84), 3) := by decide +kernel
theorem dX2_putAround_90 : decode cX2_putAround 90 = .ok (.return_, 1) := by decide +kernel
theorem dX2_clear_0 : decode cX2_clear 0 = .ok (.iconst 0, 1) := by decide +kernel
theorem dX2_clear_1 : decode cX2_clear 1 = .ok (.istore_n 2, 1) := by decide +kernel
theorem dX2_clear_2 : decode cX2_clear 2 = .ok (.iload_n 2, 1) := by decide +kernel
theorem dX2_clear_3 : decode cX2_clear 3 = .ok (.aload_n 0, 1) := by decide +kernel
theorem dX2_clear_4 : decode cX2_clear 4 = .ok (.getfield 84, 3) := by decide +kernel
theorem dX2_clear_7 : decode cX2_clear 7 = .ok (.if_icmp .ge 44, 3) := by decide +kernel
theorem dX2_clear_10 : decode cX2_clear 10 = .ok (.aload_n 0, 1) := by decide +kernel
theorem dX2_clear_11 : decode cX2_clear 11 = .ok (.getfield 23, 3) := by decide +kernel
theorem dX2_clear_14 : decode cX2_clear 14 = .ok (.aload_n 0, 1) := by decide +kernel
theorem dX2_clear_15 : decode cX2_clear 15 = .ok (.getfield 9, 3) := by decide +kernel
theorem dX2_clear_18 : decode cX2_clear 18 = .ok (.iload_n 2, 1) := by decide +kernel
theorem dX2_clear_19 : decode cX2_clear 19 = .ok (.invokestatic 87, 3) := by decide +kernel
theorem dX2_clear_22 : decode cX2_clear 22 = .ok (.aload_n 0, 1) := by decide +kernel
theorem dX2_clear_23 : decode cX2_clear 23 = .ok (.getfield 15, 3) := by decide +kernel
theorem dX2_clear_26 : decode cX2_clear 26 = .ok (.iload_n 2, 1) := by decide +kernel
theorem dX2_clear_27 : decode cX2_clear 27 = .ok (.invokestatic 87, 3) := by decide +kernel
theorem dX2_clear_30 : decode cX2_clear 30 = .ok (.aload_n 0, 1) := by decide +kernel
theorem dX2_clear_31 : decode cX2_clear 31 = .ok (.getfield 18, 3) := by decide +kernel
theorem dX2_clear_34 : decode cX2_clear 34 = .ok (.iload_n 2, 1) := by decide +kernel
theorem dX2_clear_35 : decode cX2_clear 35 = .ok (.invokestatic 87, 3) := by decide +kernel
theorem dX2_clear_38 : decode cX2_clear 38 = .ok (.invokestatic 93, 3) := by decide +kernel
theorem dX2_clear_41 : decode cX2_clear 41 = .ok (.iconst 0, 1) := by decide +kernel
theorem dX2_clear_42 : decode cX2_clear 42 = .ok (.invokestatic 97, 3) := by decide +kernel
theorem dX2_clear_45 : decode cX2_clear 45 = .ok (.iinc 2 1, 3) := by decide +kernel
theorem dX2_clear_48 : decode cX2_clear 48 = .ok (.goto (-46), 3) := by decide +kernel
theorem dX2_clear_51 : decode cX2_clear 51 = .ok (.aload_n 0, 1) := by decide +kernel
theorem dX2_clear_52 : decode cX2_clear 52 = .ok (.getfield 26, 3) := by decide +kernel
theorem dX2_clear_55 : decode cX2_clear 55 = .ok (.sipush 1000, 3) := by decide +kernel
theorem dX2_clear_58 : decode cX2_clear 58 = .ok (.invokestatic 100, 3) := by decide +kernel
theorem dX2_clear_61 : decode cX2_clear 61 = .ok (.aload_n 0, 1) := by decide +kernel
theorem dX2_clear_62 : decode cX2_clear 62 = .ok (.getfield 29, 3) := by decide +kernel
theorem dX2_clear_65 : decode cX2_clear 65 = .ok (.sipush (-1000), 3) := by decide +kernel
theorem dX2_clear_68 : decode cX2_clear 68 = .ok (.invokestatic 100, 3) := by decide +kernel
theorem dX2_clear_71 : decode cX2_clear 71 = .ok (.aload_n 0, 1) := by decide +kernel
theorem dX2_clear_72 : decode cX2_clear 72 = .ok (.iload_n 1, 1) := by decide +kernel
theorem dX2_clear_73 : decode cX2_clear 73 = .ok (.putfield 104, 3) := by decide +kernel
theorem dX2_clear_76 : decode cX2_clear 76 = .ok (.aload_n 0, 1) := by decide +kernel
theorem dX2_clear_77 : decode cX2_clear 77 = .ok (.iconst 0, 1) := by decide +kernel
theorem dX2_clear_78 : decode cX2_clear 78 = .ok (.putfield 107, 3) := by decide +kernel
theorem dX2_clear_81 : decode cX2_clear 81 = .ok (.aload_n 0, 1) := by decide +kernel
theorem dX2_clear_82 : decode cX2_clear 82 = .ok (.iconst 0, 1) := by decide +kernel
theorem dX2_clear_83 : decode cX2_clear 83 = .ok (.putfield 84, 3) := by decide +kernel
theorem dX2_clear_86 : decode cX2_clear 86 = .ok (.return_, 1) := by decide +kernel
theorem dX2_put_0 : decode cX2_put 0 = .ok (.iload_n 1, 1) := by decide +kernel
theorem dX2_put_1 : decode cX2_put 1 = .ok (.iload_n 2, 1) := by decide +kernel
theorem dX2_put_2 : decode cX2_put 2 = .ok (.iload_n 3, 1) := by decide +kernel
theorem dX2_put_3 : decode cX2_put 3 = .ok (.invokestatic 93, 3) := by decide +kernel
theorem dX2_put_6 : decode cX2_put 6 = .ok (.istore 5, 2) := by decide +kernel
theorem dX2_put_8 : decode cX2_put 8 = .ok (.aload_n 0, 1) := by decide +kernel
theorem dX2_put_9 : decode cX2_put 9 = .ok (.getfield 23, 3) := by decide +kernel
theorem dX2_put_12 : decode cX2_put 12 = .ok (.iload 5, 2) := by decide +kernel
theorem dX2_put_14 : decode cX2_put 14 = .ok (.invokestatic 87, 3) := by decide +kernel
theorem dX2_put_17 : decode cX2_put 17 = .ok (.ifCond .eq 4, 3) := by decide +kernel
theorem dX2_put_20 : decode cX2_put 20 = .ok (.return_, 1) := by decide +kernel
theorem dX2_put_21 : decode cX2_put 21 = .ok (.aload_n 0, 1) := by decide +kernel
theorem dX2_put_22 : decode cX2_put 22 = .ok (.getfield 23, 3) := by decide +kernel
theorem dX2_put_25 : decode cX2_put 25 = .ok (.iload 5, 2) := by decide +kernel
theorem dX2_put_27 : decode cX2_put 27 = .ok (.iload 4, 2) := by decide +kernel
theorem dX2_put_29 : decode cX2_put 29 = .ok (.invokestatic 97, 3) := by decide +kernel
theorem dX2_put_32 : decode cX2_put 32 = .ok (.aload_n 0, 1) := by decide +kernel
theorem dX2_put_33 : decode cX2_put 33 = .ok (.getfield 9, 3) := by decide +kernel
theorem dX2_put_36 : decode cX2_put 36 = .ok (.aload_n 0, 1) := by decide +kernel
theorem dX2_put_37 : decode cX2_put 37 = .ok (.getfield 84, 3) := by decide +kernel
theorem dX2_put_40 : decode cX2_put 40 = .ok (.iload_n 1, 1) := by decide +kernel
theorem dX2_put_41 : decode cX2_put 41 = .ok (.invokestatic 97, 3) := by decide +kernel
theorem dX2_put_44 : decode cX2_put 44 = .ok (.aload_n 0, 1) := by decide +kernel
theorem dX2_put_45 : decode cX2_put 45 = .ok (.getfield 15, 3) := by decide +kernel
theorem dX2_put_48 : decode cX2_put 48 = .ok (.aload_n 0, 1) := by decide +kernel
theorem dX2_put_49 : decode cX2_put 49 = .ok (.getfield 84, 3) := by decide +kernel
theorem dX2_put_52 : decode cX2_put 52 = .ok (.iload_n 2, 1) := by decide +kernel
theorem dX2_put_53 : decode cX2_put 53 = .ok (.invokestatic 97, 3) := by decide +kernel
theorem dX2_put_56 : decode cX2_put 56 = .ok (.aload_n 0, 1) := by decide +kernel
theorem dX2_put_57 : decode cX2_put 57 = .ok (.getfield 18, 3) := by decide +kernel
theorem dX2_put_60 : decode cX2_put 60 = .ok (.aload_n 0, 1) := by decide +kernel
theorem dX2_put_61 : decode cX2_put 61 = .ok (.getfield 84, 3) := by decide +kernel
theorem dX2_put_64 : decode cX2_put 64 = .ok (.iload_n 3, 1) := by decide +kernel
theorem dX2_put_65 : decode cX2_put 65 = .ok (.invokestatic 97, 3) := by decide +kernel
theorem dX2_put_68 : decode cX2_put 68 = .ok (.aload_n 0, 1) := by decide +kernel
theorem dX2_put_69 : decode cX2_put 69 = .ok (.dup, 1) := by decide +kernel
theorem dX2_put_70 : decode cX2_put 70 = .ok (.getfield 84, 3) := by decide +kernel
theorem dX2_put_73 : decode cX2_put 73 = .ok (.iconst 1, 1) := by decide +kernel
theorem dX2_put_74 : decode cX2_put 74 = .ok (.iadd, 1) := by decide +kernel
theorem dX2_put_75 : decode cX2_put 75 = .ok (.putfield 84, 3) := by decide +kernel
theorem dX2_put_78 : decode cX2_put 78 = .ok (.aload_n 0, 1) := by decide +kernel
theorem dX2_put_79 : decode cX2_put 79 = .ok (.dup, 1) := by decide +kernel
theorem dX2_put_80 : decode cX2_put 80 = .ok (.getfield 107, 3) := by decide +kernel
theorem dX2_put_83 : decode cX2_put 83 = .ok (.iload 4, 2) := by decide +kernel
theorem dX2_put_85 : decode cX2_put 85 = .ok (.aload_n 0, 1) := by decide +kernel
theorem dX2_put_86 : decode cX2_put 86 = .ok (.getfield 104, 3) := by decide +kernel
theorem dX2_put_89 : decode cX2_put 89 = .ok (.if_icmp .ne 7, 3) := by decide +kernel
theorem dX2_put_92 : decode cX2_put 92 = .ok (.iconst 1, 1) := by decide +kernel
theorem dX2_put_93 : decode cX2_put 93 = .ok (.goto 4, 3) := by decide +kernel
theorem dX2_put_96 : decode cX2_put 96 = .ok (.iconst 0, 1) := by decide +kernel
theorem dX2_put_97 : decode cX2_put 97 = .ok (.invokestatic 110, 3) := by decide +kernel
theorem dX2_put_100 : decode cX2_put 100 = .ok (.iadd, 1) := by decide +kernel
theorem dX2_put_101 : decode cX2_put 101 = .ok (.putfield 107, 3) := by decide +kernel
theorem dX2_put_104 : decode cX2_put 104 = .ok (.iconst 0, 1) := by decide +kernel
theorem dX2_put_105 : decode cX2_put 105 = .ok (.istore 6, 2) := by decide +kernel
theorem dX2_put_107 : decode cX2_put 107 = .ok (.iload 6, 2) := by decide +kernel
theorem dX2_put_109 : decode cX2_put 109 = .ok (.iconst 4, 1) := by decide +kernel
theorem dX2_put_110 : decode cX2_put 110 = .ok (.if_icmp .ge 28, 3) := by decide +kernel
theorem dX2_put_113 : decode cX2_put 113 = .ok (.aload_n 0, 1) := by decide +kernel
theorem dX2_put_114 : decode cX2_put 114 = .ok (.iload 4, 2) := by decide +kernel
theorem dX2_put_116 : decode cX2_put 116 = .ok (.iload 6, 2) := by decide +kernel
theorem dX2_put_118 : decode cX2_put 118 = .ok (.invokestatic 113, 3) := by decide +kernel
theorem dX2_put_121 : decode cX2_put 121 = .ok (.iload 6, 2) := by decide +kernel
theorem dX2_put_123 : decode cX2_put 123 = .ok (.iload_n 1, 1) := by decide +kernel
theorem dX2_put_124 : decode cX2_put 124 = .ok (.iload_n 2, 1) := by decide +kernel
theorem dX2_put_125 : decode cX2_put 125 = .ok (.iload_n 3, 1) := by decide +kernel
theorem dX2_put_126 : decode cX2_put 126 = .ok (.invokestatic 116, 3) := by decide +kernel
theorem dX2_put_129 : decode cX2_put 129 = .ok (.invokevirtual 120, 3) := by decide +kernel
theorem dX2_put_132 : decode cX2_put 132 = .ok (.iinc 6 1, 3) := by decide +kernel
theorem dX2_put_135 : decode cX2_put 135 = .ok (.goto (-28), 3) := by decide +kernel
theorem dX2_put_138 : decode cX2_put 138 = .ok (.return_, 1) := by decide +kernel
theorem dX2_secondKind_0 : decode cX2_secondKind 0 = .ok (.aload_n 0, 1) := by decide +kernel
theorem dX2_secondKind_1 : decode cX2_secondKind 1 = .ok (.getfield 104, 3) := by decide +kernel
theorem dX2_secondKind_4 : decode cX2_secondKind 4 = .ok (.iconst 1, 1) := by decide +kernel
theorem dX2_secondKind_5 : decode cX2_secondKind 5 = .ok (.if_icmp .ne 7, 3) := by decide +kernel
theorem dX2_secondKind_8 : decode cX2_secondKind 8 = .ok (.iconst 2, 1) := by decide +kernel
theorem dX2_secondKind_9 : decode cX2_secondKind 9 = .ok (.goto 4, 3) := by decide +kernel
theorem dX2_secondKind_12 : decode cX2_secondKind 12 = .ok (.iconst 1, 1) := by decide +kernel
theorem dX2_secondKind_13 : decode cX2_secondKind 13 = .ok (.ireturn, 1) := by decide +kernel
theorem dX2_widen_0 : decode cX2_widen 0 = .ok (.aload_n 0, 1) := by decide +kernel
theorem dX2_widen_1 : decode cX2_widen 1 = .ok (.getfield 26, 3) := by decide +kernel
theorem dX2_widen_4 : decode cX2_widen 4 = .ok (.iload_n 1, 1) := by decide +kernel
theorem dX2_widen_5 : decode cX2_widen 5 = .ok (.aload_n 0, 1) := by decide +kernel
theorem dX2_widen_6 : decode cX2_widen 6 = .ok (.getfield 26, 3) := by decide +kernel
theorem dX2_widen_9 : decode cX2_widen 9 = .ok (.iload_n 1, 1) := by decide +kernel
theorem dX2_widen_10 : decode cX2_widen 10 = .ok (.invokestatic 87, 3) := by decide +kernel
theorem dX2_widen_13 : decode cX2_widen 13 = .ok (.iload_n 2, 1) := by decide +kernel
theorem dX2_widen_14 : decode cX2_widen 14 = .ok (.invokestatic 124, 3) := by decide +kernel
theorem dX2_widen_17 : decode cX2_widen 17 = .ok (.invokestatic 97, 3) := by decide +kernel
theorem dX2_widen_20 : decode cX2_widen 20 = .ok (.aload_n 0, 1) := by decide +kernel
theorem dX2_widen_21 : decode cX2_widen 21 = .ok (.getfield 29, 3) := by decide +kernel
theorem dX2_widen_24 : decode cX2_widen 24 = .ok (.iload_n 1, 1) := by decide +kernel
theorem dX2_widen_25 : decode cX2_widen 25 = .ok (.aload_n 0, 1) := by decide +kernel
theorem dX2_widen_26 : decode cX2_widen 26 = .ok (.getfield 29, 3) := by decide +kernel
theorem dX2_widen_29 : decode cX2_widen 29 = .ok (.iload_n 1, 1) := by decide +kernel
theorem dX2_widen_30 : decode cX2_widen 30 = .ok (.invokestatic 87, 3) := by decide +kernel
theorem dX2_widen_33 : decode cX2_widen 33 = .ok (.iload_n 2, 1) := by decide +kernel
theorem dX2_widen_34 : decode cX2_widen 34 = .ok (.invokestatic 129, 3) := by decide +kernel
theorem dX2_widen_37 : decode cX2_widen 37 = .ok (.invokestatic 97, 3) := by decide +kernel
theorem dX2_widen_40 : decode cX2_widen 40 = .ok (.return_, 1) := by decide +kernel
theorem dX2_least_0 : decode cX2_least 0 = .ok (.aload_n 0, 1) := by decide +kernel
theorem dX2_least_1 : decode cX2_least 1 = .ok (.getfield 26, 3) := by decide +kernel
theorem dX2_least_4 : decode cX2_least 4 = .ok (.iconst 1, 1) := by decide +kernel
theorem dX2_least_5 : decode cX2_least 5 = .ok (.iload_n 1, 1) := by decide +kernel
theorem dX2_least_6 : decode cX2_least 6 = .ok (.invokestatic 113, 3) := by decide +kernel
theorem dX2_least_9 : decode cX2_least 9 = .ok (.invokestatic 87, 3) := by decide +kernel
theorem dX2_least_12 : decode cX2_least 12 = .ok (.aload_n 0, 1) := by decide +kernel
theorem dX2_least_13 : decode cX2_least 13 = .ok (.getfield 26, 3) := by decide +kernel
theorem dX2_least_16 : decode cX2_least 16 = .ok (.iconst 2, 1) := by decide +kernel
theorem dX2_least_17 : decode cX2_least 17 = .ok (.iload_n 1, 1) := by decide +kernel
theorem dX2_least_18 : decode cX2_least 18 = .ok (.invokestatic 113, 3) := by decide +kernel
theorem dX2_least_21 : decode cX2_least 21 = .ok (.invokestatic 87, 3) := by decide +kernel
theorem dX2_least_24 : decode cX2_least 24 = .ok (.invokestatic 124, 3) := by decide +kernel
theorem dX2_least_27 : decode cX2_least 27 = .ok (.ireturn, 1) := by decide +kernel
theorem dX2_greatest_0 : decode cX2_greatest 0 = .ok (.aload_n 0, 1) := by decide +kernel
theorem dX2_greatest_1 : decode cX2_greatest 1 = .ok (.getfield 29, 3) := by decide +kernel
theorem dX2_greatest_4 : decode cX2_greatest 4 = .ok (.iconst 1, 1) := by decide +kernel
theorem dX2_greatest_5 : decode cX2_greatest 5 = .ok (.iload_n 1, 1) := by decide +kernel
theorem dX2_greatest_6 : decode cX2_greatest 6 = .ok (.invokestatic 113, 3) := by decide +kernel
theorem dX2_greatest_9 : decode cX2_greatest 9 = .ok (.invokestatic 87, 3) := by decide +kernel
theorem dX2_greatest_12 : decode cX2_greatest 12 = .ok (.aload_n 0, 1) := by decide +kernel
theorem dX2_greatest_13 : decode cX2_greatest 13 = .ok (.getfield 29, 3) := by decide +kernel
theorem dX2_greatest_16 : decode cX2_greatest 16 = .ok (.iconst 2, 1) := by decide +kernel
theorem dX2_greatest_17 : decode cX2_greatest 17 = .ok (.iload_n 1, 1) := by decide +kernel
theorem dX2_greatest_18 : decode cX2_greatest 18 = .ok (.invokestatic 113, 3) := by decide +kernel
theorem dX2_greatest_21 : decode cX2_greatest 21 = .ok (.invokestatic 87, 3) := by decide +kernel
theorem dX2_greatest_24 : decode cX2_greatest 24 = .ok (.invokestatic 129, 3) := by decide +kernel
theorem dX2_greatest_27 : decode cX2_greatest 27 = .ok (.ireturn, 1) := by decide +kernel
theorem dX2_row_0 : decode cX2_row 0 = .ok (.iconst 4, 1) := by decide +kernel
theorem dX2_row_1 : decode cX2_row 1 = .ok (.iload_n 0, 1) := by decide +kernel
theorem dX2_row_2 : decode cX2_row 2 = .ok (.imul, 1) := by decide +kernel
theorem dX2_row_3 : decode cX2_row 3 = .ok (.iload_n 1, 1) := by decide +kernel
theorem dX2_row_4 : decode cX2_row 4 = .ok (.iadd, 1) := by decide +kernel
theorem dX2_row_5 : decode cX2_row 5 = .ok (.ireturn, 1) := by decide +kernel
theorem dX2_firstStrip_0 : decode cX2_firstStrip 0 = .ok (.sipush 1000, 3) := by decide +kernel
theorem dX2_firstStrip_3 : decode cX2_firstStrip 3 = .ok (.istore_n 1, 1) := by decide +kernel
theorem dX2_firstStrip_4 : decode cX2_firstStrip 4 = .ok (.iconst 0, 1) := by decide +kernel
theorem dX2_firstStrip_5 : decode cX2_firstStrip 5 = .ok (.istore_n 2, 1) := by decide +kernel
theorem dX2_firstStrip_6 : decode cX2_firstStrip 6 = .ok (.iload_n 2, 1) := by decide +kernel
theorem dX2_firstStrip_7 : decode cX2_firstStrip 7 = .ok (.iconst 4, 1) := by decide +kernel
theorem dX2_firstStrip_8 : decode cX2_firstStrip 8 = .ok (.if_icmp .ge 19, 3) := by decide +kernel
theorem dX2_firstStrip_11 : decode cX2_firstStrip 11 = .ok (.iload_n 1, 1) := by decide +kernel
theorem dX2_firstStrip_12 : decode cX2_firstStrip 12 = .ok (.aload_n 0, 1) := by decide +kernel
theorem dX2_firstStrip_13 : decode cX2_firstStrip 13 = .ok (.iload_n 2, 1) := by decide +kernel
theorem dX2_firstStrip_14 : decode cX2_firstStrip 14 = .ok (.invokevirtual 132, 3) := by decide +kernel
theorem dX2_firstStrip_17 : decode cX2_firstStrip 17 = .ok (.invokestatic 124, 3) := by decide +kernel
theorem dX2_firstStrip_20 : decode cX2_firstStrip 20 = .ok (.istore_n 1, 1) := by decide +kernel
theorem dX2_firstStrip_21 : decode cX2_firstStrip 21 = .ok (.iinc 2 1, 3) := by decide +kernel
theorem dX2_firstStrip_24 : decode cX2_firstStrip 24 = .ok (.goto (-18), 3) := by decide +kernel
theorem dX2_firstStrip_27 : decode cX2_firstStrip 27 = .ok (.iload_n 1, 1) := by decide +kernel
theorem dX2_firstStrip_28 : decode cX2_firstStrip 28 = .ok (.ireturn, 1) := by decide +kernel
theorem dX2_lastStrip_0 : decode cX2_lastStrip 0 = .ok (.sipush (-1000), 3) := by decide +kernel
theorem dX2_lastStrip_3 : decode cX2_lastStrip 3 = .ok (.istore_n 1, 1) := by decide +kernel
theorem dX2_lastStrip_4 : decode cX2_lastStrip 4 = .ok (.iconst 0, 1) := by decide +kernel
theorem dX2_lastStrip_5 : decode cX2_lastStrip 5 = .ok (.istore_n 2, 1) := by decide +kernel
theorem dX2_lastStrip_6 : decode cX2_lastStrip 6 = .ok (.iload_n 2, 1) := by decide +kernel
theorem dX2_lastStrip_7 : decode cX2_lastStrip 7 = .ok (.iconst 4, 1) := by decide +kernel
theorem dX2_lastStrip_8 : decode cX2_lastStrip 8 = .ok (.if_icmp .ge 19, 3) := by decide +kernel
theorem dX2_lastStrip_11 : decode cX2_lastStrip 11 = .ok (.iload_n 1, 1) := by decide +kernel
theorem dX2_lastStrip_12 : decode cX2_lastStrip 12 = .ok (.aload_n 0, 1) := by decide +kernel
theorem dX2_lastStrip_13 : decode cX2_lastStrip 13 = .ok (.iload_n 2, 1) := by decide +kernel
theorem dX2_lastStrip_14 : decode cX2_lastStrip 14 = .ok (.invokevirtual 135, 3) := by decide +kernel
theorem dX2_lastStrip_17 : decode cX2_lastStrip 17 = .ok (.invokestatic 129, 3) := by decide +kernel
theorem dX2_lastStrip_20 : decode cX2_lastStrip 20 = .ok (.istore_n 1, 1) := by decide +kernel
theorem dX2_lastStrip_21 : decode cX2_lastStrip 21 = .ok (.iinc 2 1, 3) := by decide +kernel
theorem dX2_lastStrip_24 : decode cX2_lastStrip 24 = .ok (.goto (-18), 3) := by decide +kernel
theorem dX2_lastStrip_27 : decode cX2_lastStrip 27 = .ok (.iload_n 1, 1) := by decide +kernel
theorem dX2_lastStrip_28 : decode cX2_lastStrip 28 = .ok (.ireturn, 1) := by decide +kernel
theorem dX2_isCrossed_0 : decode cX2_isCrossed 0 = .ok (.aload_n 0, 1) := by decide +kernel
theorem dX2_isCrossed_1 : decode cX2_isCrossed 1 = .ok (.iload_n 1, 1) := by decide +kernel
theorem dX2_isCrossed_2 : decode cX2_isCrossed 2 = .ok (.invokevirtual 132, 3) := by decide +kernel
theorem dX2_isCrossed_5 : decode cX2_isCrossed 5 = .ok (.iload_n 2, 1) := by decide +kernel
theorem dX2_isCrossed_6 : decode cX2_isCrossed 6 = .ok (.if_icmp .ge 16, 3) := by decide +kernel
theorem dX2_isCrossed_9 : decode cX2_isCrossed 9 = .ok (.aload_n 0, 1) := by decide +kernel
theorem dX2_isCrossed_10 : decode cX2_isCrossed 10 = .ok (.iload_n 1, 1) := by decide +kernel
theorem dX2_isCrossed_11 : decode cX2_isCrossed 11 = .ok (.invokevirtual 135, 3) := by decide +kernel
theorem dX2_isCrossed_14 : decode cX2_isCrossed 14 = .ok (.iload_n 2, 1) := by decide +kernel
theorem dX2_isCrossed_15 : decode cX2_isCrossed 15 = .ok (.if_icmp .lt 7, 3) := by decide +kernel
theorem dX2_isCrossed_18 : decode cX2_isCrossed 18 = .ok (.iconst 1, 1) := by decide +kernel
theorem dX2_isCrossed_19 : decode cX2_isCrossed 19 = .ok (.goto 4, 3) := by decide +kernel
theorem dX2_isCrossed_22 : decode cX2_isCrossed 22 = .ok (.iconst 0, 1) := by decide +kernel
theorem dX2_isCrossed_23 : decode cX2_isCrossed 23 = .ok (.ireturn, 1) := by decide +kernel
theorem dX2_fits_0 : decode cX2_fits 0 = .ok (.iconst 2, 1) := by decide +kernel
theorem dX2_fits_1 : decode cX2_fits 1 = .ok (.aload_n 0, 1) := by decide +kernel
theorem dX2_fits_2 : decode cX2_fits 2 = .ok (.getfield 107, 3) := by decide +kernel
theorem dX2_fits_5 : decode cX2_fits 5 = .ok (.imul, 1) := by decide +kernel
theorem dX2_fits_6 : decode cX2_fits 6 = .ok (.aload_n 0, 1) := by decide +kernel
theorem dX2_fits_7 : decode cX2_fits 7 = .ok (.getfield 84, 3) := by decide +kernel
theorem dX2_fits_10 : decode cX2_fits 10 = .ok (.if_icmp .gt 7, 3) := by decide +kernel
theorem dX2_fits_13 : decode cX2_fits 13 = .ok (.iconst 1, 1) := by decide +kernel
theorem dX2_fits_14 : decode cX2_fits 14 = .ok (.goto 4, 3) := by decide +kernel
theorem dX2_fits_17 : decode cX2_fits 17 = .ok (.iconst 0, 1) := by decide +kernel
theorem dX2_fits_18 : decode cX2_fits 18 = .ok (.istore_n 3, 1) := by decide +kernel
theorem dX2_fits_19 : decode cX2_fits 19 = .ok (.iload_n 3, 1) := by decide +kernel
theorem dX2_fits_20 : decode cX2_fits 20 = .ok (.ifCond .eq 10, 3) := by decide +kernel
theorem dX2_fits_23 : decode cX2_fits 23 = .ok (.aload_n 0, 1) := by decide +kernel
theorem dX2_fits_24 : decode cX2_fits 24 = .ok (.getfield 107, 3) := by decide +kernel
theorem dX2_fits_27 : decode cX2_fits 27 = .ok (.goto 7, 3) := by decide +kernel
theorem dX2_fits_30 : decode cX2_fits 30 = .ok (.aload_n 0, 1) := by decide +kernel
theorem dX2_fits_31 : decode cX2_fits 31 = .ok (.getfield 84, 3) := by decide +kernel
theorem dX2_fits_34 : decode cX2_fits 34 = .ok (.istore 4, 2) := by decide +kernel
theorem dX2_fits_36 : decode cX2_fits 36 = .ok (.iload_n 3, 1) := by decide +kernel
theorem dX2_fits_37 : decode cX2_fits 37 = .ok (.ifCond .eq 10, 3) := by decide +kernel
theorem dX2_fits_40 : decode cX2_fits 40 = .ok (.aload_n 0, 1) := by decide +kernel
theorem dX2_fits_41 : decode cX2_fits 41 = .ok (.invokevirtual 138, 3) := by decide +kernel
theorem dX2_fits_44 : decode cX2_fits 44 = .ok (.goto 7, 3) := by decide +kernel
theorem dX2_fits_47 : decode cX2_fits 47 = .ok (.aload_n 0, 1) := by decide +kernel
theorem dX2_fits_48 : decode cX2_fits 48 = .ok (.getfield 104, 3) := by decide +kernel
theorem dX2_fits_51 : decode cX2_fits 51 = .ok (.istore 5, 2) := by decide +kernel
theorem dX2_fits_53 : decode cX2_fits 53 = .ok (.iload_n 3, 1) := by decide +kernel
theorem dX2_fits_54 : decode cX2_fits 54 = .ok (.ifCond .eq 7, 3) := by decide +kernel
theorem dX2_fits_57 : decode cX2_fits 57 = .ok (.iconst 0, 1) := by decide +kernel
theorem dX2_fits_58 : decode cX2_fits 58 = .ok (.goto 7, 3) := by decide +kernel
theorem dX2_fits_61 : decode cX2_fits 61 = .ok (.aload_n 0, 1) := by decide +kernel
theorem dX2_fits_62 : decode cX2_fits 62 = .ok (.getfield 107, 3) := by decide +kernel
theorem dX2_fits_65 : decode cX2_fits 65 = .ok (.istore 6, 2) := by decide +kernel
theorem dX2_fits_67 : decode cX2_fits 67 = .ok (.iload 6, 2) := by decide +kernel
theorem dX2_fits_69 : decode cX2_fits 69 = .ok (.iload 4, 2) := by decide +kernel
theorem dX2_fits_71 : decode cX2_fits 71 = .ok (.if_icmp .ge 97, 3) := by decide +kernel
theorem dX2_fits_74 : decode cX2_fits 74 = .ok (.iload_n 1, 1) := by decide +kernel
theorem dX2_fits_75 : decode cX2_fits 75 = .ok (.iload_n 2, 1) := by decide +kernel
theorem dX2_fits_76 : decode cX2_fits 76 = .ok (.aload_n 0, 1) := by decide +kernel
theorem dX2_fits_77 : decode cX2_fits 77 = .ok (.getfield 9, 3) := by decide +kernel
theorem dX2_fits_80 : decode cX2_fits 80 = .ok (.iload 6, 2) := by decide +kernel
theorem dX2_fits_82 : decode cX2_fits 82 = .ok (.invokestatic 87, 3) := by decide +kernel
theorem dX2_fits_85 : decode cX2_fits 85 = .ok (.aload_n 0, 1) := by decide +kernel
theorem dX2_fits_86 : decode cX2_fits 86 = .ok (.getfield 15, 3) := by decide +kernel
theorem dX2_fits_89 : decode cX2_fits 89 = .ok (.iload 6, 2) := by decide +kernel
theorem dX2_fits_91 : decode cX2_fits 91 = .ok (.invokestatic 87, 3) := by decide +kernel
theorem dX2_fits_94 : decode cX2_fits 94 = .ok (.invokestatic 142, 3) := by decide +kernel
theorem dX2_fits_97 : decode cX2_fits 97 = .ok (.istore 7, 2) := by decide +kernel
theorem dX2_fits_99 : decode cX2_fits 99 = .ok (.iload_n 1, 1) := by decide +kernel
theorem dX2_fits_100 : decode cX2_fits 100 = .ok (.iload_n 2, 1) := by decide +kernel
theorem dX2_fits_101 : decode cX2_fits 101 = .ok (.aload_n 0, 1) := by decide +kernel
theorem dX2_fits_102 : decode cX2_fits 102 = .ok (.getfield 9, 3) := by decide +kernel
theorem dX2_fits_105 : decode cX2_fits 105 = .ok (.iload 6, 2) := by decide +kernel
theorem dX2_fits_107 : decode cX2_fits 107 = .ok (.invokestatic 87, 3) := by decide +kernel
theorem dX2_fits_110 : decode cX2_fits 110 = .ok (.aload_n 0, 1) := by decide +kernel
theorem dX2_fits_111 : decode cX2_fits 111 = .ok (.getfield 15, 3) := by decide +kernel
theorem dX2_fits_114 : decode cX2_fits 114 = .ok (.iload 6, 2) := by decide +kernel
theorem dX2_fits_116 : decode cX2_fits 116 = .ok (.invokestatic 87, 3) := by decide +kernel
theorem dX2_fits_119 : decode cX2_fits 119 = .ok (.invokestatic 145, 3) := by decide +kernel
theorem dX2_fits_122 : decode cX2_fits 122 = .ok (.istore 8, 2) := by decide +kernel
theorem dX2_fits_124 : decode cX2_fits 124 = .ok (.iload_n 1, 1) := by decide +kernel
theorem dX2_fits_125 : decode cX2_fits 125 = .ok (.aload_n 0, 1) := by decide +kernel
theorem dX2_fits_126 : decode cX2_fits 126 = .ok (.getfield 18, 3) := by decide +kernel
theorem dX2_fits_129 : decode cX2_fits 129 = .ok (.iload 6, 2) := by decide +kernel
theorem dX2_fits_131 : decode cX2_fits 131 = .ok (.invokestatic 87, 3) := by decide +kernel
theorem dX2_fits_134 : decode cX2_fits 134 = .ok (.invokestatic 148, 3) := by decide +kernel
theorem dX2_fits_137 : decode cX2_fits 137 = .ok (.istore 9, 2) := by decide +kernel
theorem dX2_fits_139 : decode cX2_fits 139 = .ok (.aload_n 0, 1) := by decide +kernel
theorem dX2_fits_140 : decode cX2_fits 140 = .ok (.getfield 23, 3) := by decide +kernel
theorem dX2_fits_143 : decode cX2_fits 143 = .ok (.iload 7, 2) := by decide +kernel
theorem dX2_fits_145 : decode cX2_fits 145 = .ok (.iload 8, 2) := by decide +kernel
theorem dX2_fits_147 : decode cX2_fits 147 = .ok (.iload 9, 2) := by decide +kernel
theorem dX2_fits_149 : decode cX2_fits 149 = .ok (.invokestatic 93, 3) := by decide +kernel
theorem dX2_fits_152 : decode cX2_fits 152 = .ok (.invokestatic 87, 3) := by decide +kernel
theorem dX2_fits_155 : decode cX2_fits 155 = .ok (.iload 5, 2) := by decide +kernel
theorem dX2_fits_157 : decode cX2_fits 157 = .ok (.if_icmp .ne 5, 3) := by decide +kernel
theorem dX2_fits_160 : decode cX2_fits 160 = .ok (.iconst 0, 1) := by decide +kernel
theorem dX2_fits_161 : decode cX2_fits 161 = .ok (.ireturn, 1) := by decide +kernel
theorem dX2_fits_162 : decode cX2_fits 162 = .ok (.iinc 6 1, 3) := by decide +kernel
theorem dX2_fits_165 : decode cX2_fits 165 = .ok (.goto (-98), 3) := by decide +kernel
theorem dX2_fits_168 : decode cX2_fits 168 = .ok (.iconst 1, 1) := by decide +kernel
theorem dX2_fits_169 : decode cX2_fits 169 = .ok (.ireturn, 1) := by decide +kernel
theorem dX2_turnInto_0 : decode cX2_turnInto 0 = .ok (.aload_n 1, 1) := by decide +kernel
theorem dX2_turnInto_1 : decode cX2_turnInto 1 = .ok (.aload_n 0, 1) := by decide +kernel
theorem dX2_turnInto_2 : decode cX2_turnInto 2 = .ok (.getfield 104, 3) := by decide +kernel
theorem dX2_turnInto_5 : decode cX2_turnInto 5 = .ok (.invokevirtual 51, 3) := by decide +kernel
theorem dX2_turnInto_8 : decode cX2_turnInto 8 = .ok (.iconst 0, 1) := by decide +kernel
theorem dX2_turnInto_9 : decode cX2_turnInto 9 = .ok (.istore 6, 2) := by decide +kernel
theorem dX2_turnInto_11 : decode cX2_turnInto 11 = .ok (.iload 6, 2) := by decide +kernel
theorem dX2_turnInto_13 : decode cX2_turnInto 13 = .ok (.aload_n 0, 1) := by decide +kernel
theorem dX2_turnInto_14 : decode cX2_turnInto 14 = .ok (.getfield 84, 3) := by decide +kernel
theorem dX2_turnInto_17 : decode cX2_turnInto 17 = .ok (.if_icmp .ge 154, 3) := by decide +kernel
theorem dX2_turnInto_20 : decode cX2_turnInto 20 = .ok (.aload_n 0, 1) := by decide +kernel
theorem dX2_turnInto_21 : decode cX2_turnInto 21 = .ok (.getfield 9, 3) := by decide +kernel
theorem dX2_turnInto_24 : decode cX2_turnInto 24 = .ok (.iload 6, 2) := by decide +kernel
theorem dX2_turnInto_26 : decode cX2_turnInto 26 = .ok (.invokestatic 87, 3) := by decide +kernel
theorem dX2_turnInto_29 : decode cX2_turnInto 29 = .ok (.istore 7, 2) := by decide +kernel
theorem dX2_turnInto_31 : decode cX2_turnInto 31 = .ok (.aload_n 0, 1) := by decide +kernel
theorem dX2_turnInto_32 : decode cX2_turnInto 32 = .ok (.getfield 15, 3) := by decide +kernel
theorem dX2_turnInto_35 : decode cX2_turnInto 35 = .ok (.iload 6, 2) := by decide +kernel
theorem dX2_turnInto_37 : decode cX2_turnInto 37 = .ok (.invokestatic 87, 3) := by decide +kernel
theorem dX2_turnInto_40 : decode cX2_turnInto 40 = .ok (.istore 8, 2) := by decide +kernel
theorem dX2_turnInto_42 : decode cX2_turnInto 42 = .ok (.aload_n 0, 1) := by decide +kernel
theorem dX2_turnInto_43 : decode cX2_turnInto 43 = .ok (.getfield 18, 3) := by decide +kernel
theorem dX2_turnInto_46 : decode cX2_turnInto 46 = .ok (.iload 6, 2) := by decide +kernel
theorem dX2_turnInto_48 : decode cX2_turnInto 48 = .ok (.invokestatic 87, 3) := by decide +kernel
theorem dX2_turnInto_51 : decode cX2_turnInto 51 = .ok (.istore 9, 2) := by decide +kernel
theorem dX2_turnInto_53 : decode cX2_turnInto 53 = .ok (.iload 6, 2) := by decide +kernel
theorem dX2_turnInto_55 : decode cX2_turnInto 55 = .ok (.aload_n 0, 1) := by decide +kernel
theorem dX2_turnInto_56 : decode cX2_turnInto 56 = .ok (.getfield 107, 3) := by decide +kernel
theorem dX2_turnInto_59 : decode cX2_turnInto 59 = .ok (.if_icmp .ge 10, 3) := by decide +kernel
theorem dX2_turnInto_62 : decode cX2_turnInto 62 = .ok (.aload_n 0, 1) := by decide +kernel
theorem dX2_turnInto_63 : decode cX2_turnInto 63 = .ok (.getfield 104, 3) := by decide +kernel
theorem dX2_turnInto_66 : decode cX2_turnInto 66 = .ok (.goto 7, 3) := by decide +kernel
theorem dX2_turnInto_69 : decode cX2_turnInto 69 = .ok (.aload_n 0, 1) := by decide +kernel
theorem dX2_turnInto_70 : decode cX2_turnInto 70 = .ok (.invokevirtual 138, 3) := by decide +kernel
theorem dX2_turnInto_73 : decode cX2_turnInto 73 = .ok (.istore 10, 2) := by decide +kernel
theorem dX2_turnInto_75 : decode cX2_turnInto 75 = .ok (.iload_n 2, 1) := by decide +kernel
theorem dX2_turnInto_76 : decode cX2_turnInto 76 = .ok (.iload 7, 2) := by decide +kernel
theorem dX2_turnInto_78 : decode cX2_turnInto 78 = .ok (.iload 8, 2) := by decide +kernel
theorem dX2_turnInto_80 : decode cX2_turnInto 80 = .ok (.iload 9, 2) := by decide +kernel
theorem dX2_turnInto_82 : decode cX2_turnInto 82 = .ok (.invokestatic 116, 3) := by decide +kernel
theorem dX2_turnInto_85 : decode cX2_turnInto 85 = .ok (.iload_n 3, 1) := by decide +kernel
theorem dX2_turnInto_86 : decode cX2_turnInto 86 = .ok (.iload 4, 2) := by decide +kernel
theorem dX2_turnInto_88 : decode cX2_turnInto 88 = .ok (.invokestatic 151, 3) := by decide +kernel
theorem dX2_turnInto_91 : decode cX2_turnInto 91 = .ok (.ifCond .eq 40, 3) := by decide +kernel
theorem dX2_turnInto_94 : decode cX2_turnInto 94 = .ok (.iload_n 2, 1) := by decide +kernel
theorem dX2_turnInto_95 : decode cX2_turnInto 95 = .ok (.iload 9, 2) := by decide +kernel
theorem dX2_turnInto_97 : decode cX2_turnInto 97 = .ok (.invokestatic 148, 3) := by decide +kernel
theorem dX2_turnInto_100 : decode cX2_turnInto 100 = .ok (.istore 11, 2) := by decide +kernel
theorem dX2_turnInto_102 : decode cX2_turnInto 102 = .ok (.aload_n 1, 1) := by decide +kernel
theorem dX2_turnInto_103 : decode cX2_turnInto 103 = .ok (.iload_n 2, 1) := by decide +kernel
theorem dX2_turnInto_104 : decode cX2_turnInto 104 = .ok (.iload_n 3, 1) := by decide +kernel
theorem dX2_turnInto_105 : decode cX2_turnInto 105 = .ok (.iload 7, 2) := by decide +kernel
theorem dX2_turnInto_107 : decode cX2_turnInto 107 = .ok (.iload 8, 2) := by decide +kernel
theorem dX2_turnInto_109 : decode cX2_turnInto 109 = .ok (.invokestatic 142, 3) := by decide +kernel
theorem dX2_turnInto_112 : decode cX2_turnInto 112 = .ok (.iload_n 2, 1) := by decide +kernel
theorem dX2_turnInto_113 : decode cX2_turnInto 113 = .ok (.iload_n 3, 1) := by decide +kernel
theorem dX2_turnInto_114 : decode cX2_turnInto 114 = .ok (.iload 7, 2) := by decide +kernel
theorem dX2_turnInto_116 : decode cX2_turnInto 116 = .ok (.iload 8, 2) := by decide +kernel
theorem dX2_turnInto_118 : decode cX2_turnInto 118 = .ok (.invokestatic 145, 3) := by decide +kernel
theorem dX2_turnInto_121 : decode cX2_turnInto 121 = .ok (.iload 11, 2) := by decide +kernel
theorem dX2_turnInto_123 : decode cX2_turnInto 123 = .ok (.iload 10, 2) := by decide +kernel
theorem dX2_turnInto_125 : decode cX2_turnInto 125 = .ok (.invokevirtual 80, 3) := by decide +kernel
theorem dX2_turnInto_128 : decode cX2_turnInto 128 = .ok (.goto 15, 3) := by decide +kernel
theorem dX2_turnInto_131 : decode cX2_turnInto 131 = .ok (.aload_n 1, 1) := by decide +kernel
theorem dX2_turnInto_132 : decode cX2_turnInto 132 = .ok (.iload 7, 2) := by decide +kernel
theorem dX2_turnInto_134 : decode cX2_turnInto 134 = .ok (.iload 8, 2) := by decide +kernel
theorem dX2_turnInto_136 : decode cX2_turnInto 136 = .ok (.iload 9, 2) := by decide +kernel
theorem dX2_turnInto_138 : decode cX2_turnInto 138 = .ok (.iload 10, 2) := by decide +kernel
theorem dX2_turnInto_140 : decode cX2_turnInto 140 = .ok (.invokevirtual 80, 3) := by decide +kernel
theorem dX2_turnInto_143 : decode cX2_turnInto 143 = .ok (.iload 5, 2) := by decide +kernel
theorem dX2_turnInto_145 : decode cX2_turnInto 145 = .ok (.ifCond .eq 20, 3) := by decide +kernel
theorem dX2_turnInto_148 : decode cX2_turnInto 148 = .ok (.iload 6, 2) := by decide +kernel
theorem dX2_turnInto_150 : decode cX2_turnInto 150 = .ok (.aload_n 0, 1) := by decide +kernel
theorem dX2_turnInto_151 : decode cX2_turnInto 151 = .ok (.getfield 107, 3) := by decide +kernel
theorem dX2_turnInto_154 : decode cX2_turnInto 154 = .ok (.if_icmp .lt 11, 3) := by decide +kernel
theorem dX2_turnInto_157 : decode cX2_turnInto 157 = .ok (.aload_n 1, 1) := by decide +kernel
theorem dX2_turnInto_158 : decode cX2_turnInto 158 = .ok (.invokevirtual 155, 3) := by decide +kernel
theorem dX2_turnInto_161 : decode cX2_turnInto 161 = .ok (.ifCond .eq 4, 3) := by decide +kernel
theorem dX2_turnInto_164 : decode cX2_turnInto 164 = .ok (.return_, 1) := by decide +kernel
theorem dX2_turnInto_165 : decode cX2_turnInto 165 = .ok (.iinc 6 1, 3) := by decide +kernel
theorem dX2_turnInto_168 : decode cX2_turnInto 168 = .ok (.goto (-157), 3) := by decide +kernel
theorem dX2_turnInto_171 : decode cX2_turnInto 171 = .ok (.return_, 1) := by decide +kernel
theorem dX2_isEntangled_0 : decode cX2_isEntangled 0 = .ok (.iconst 0, 1) := by decide +kernel
theorem dX2_isEntangled_1 : decode cX2_isEntangled 1 = .ok (.istore_n 1, 1) := by decide +kernel
theorem dX2_isEntangled_2 : decode cX2_isEntangled 2 = .ok (.iload_n 1, 1) := by decide +kernel
theorem dX2_isEntangled_3 : decode cX2_isEntangled 3 = .ok (.iconst 4, 1) := by decide +kernel
theorem dX2_isEntangled_4 : decode cX2_isEntangled 4 = .ok (.if_icmp .ge 41, 3) := by decide +kernel
theorem dX2_isEntangled_7 : decode cX2_isEntangled 7 = .ok (.aload_n 0, 1) := by decide +kernel
theorem dX2_isEntangled_8 : decode cX2_isEntangled 8 = .ok (.iload_n 1, 1) := by decide +kernel
theorem dX2_isEntangled_9 : decode cX2_isEntangled 9 = .ok (.iconst 0, 1) := by decide +kernel
theorem dX2_isEntangled_10 : decode cX2_isEntangled 10 = .ok (.invokevirtual 159, 3) := by decide +kernel
theorem dX2_isEntangled_13 : decode cX2_isEntangled 13 = .ok (.aload_n 0, 1) := by decide +kernel
theorem dX2_isEntangled_14 : decode cX2_isEntangled 14 = .ok (.iload_n 1, 1) := by decide +kernel
theorem dX2_isEntangled_15 : decode cX2_isEntangled 15 = .ok (.iconst 0, 1) := by decide +kernel
theorem dX2_isEntangled_16 : decode cX2_isEntangled 16 = .ok (.invokevirtual 162, 3) := by decide +kernel
theorem dX2_isEntangled_19 : decode cX2_isEntangled 19 = .ok (.if_icmp .le 18, 3) := by decide +kernel
theorem dX2_isEntangled_22 : decode cX2_isEntangled 22 = .ok (.aload_n 0, 1) := by decide +kernel
theorem dX2_isEntangled_23 : decode cX2_isEntangled 23 = .ok (.iload_n 1, 1) := by decide +kernel
theorem dX2_isEntangled_24 : decode cX2_isEntangled 24 = .ok (.iconst 1, 1) := by decide +kernel
theorem dX2_isEntangled_25 : decode cX2_isEntangled 25 = .ok (.invokevirtual 159, 3) := by decide +kernel
theorem dX2_isEntangled_28 : decode cX2_isEntangled 28 = .ok (.aload_n 0, 1) := by decide +kernel
theorem dX2_isEntangled_29 : decode cX2_isEntangled 29 = .ok (.iload_n 1, 1) := by decide +kernel
theorem dX2_isEntangled_30 : decode cX2_isEntangled 30 = .ok (.iconst 1, 1) := by decide +kernel
theorem dX2_isEntangled_31 : decode cX2_isEntangled 31 = .ok (.invokevirtual 162, 3) := by decide +kernel
theorem dX2_isEntangled_34 : decode cX2_isEntangled 34 = .ok (.if_icmp .gt 5, 3) := by decide +kernel
theorem dX2_isEntangled_37 : decode cX2_isEntangled 37 = .ok (.iconst 0, 1) := by decide +kernel
theorem dX2_isEntangled_38 : decode cX2_isEntangled 38 = .ok (.ireturn, 1) := by decide +kernel
theorem dX2_isEntangled_39 : decode cX2_isEntangled 39 = .ok (.iinc 1 1, 3) := by decide +kernel
theorem dX2_isEntangled_42 : decode cX2_isEntangled 42 = .ok (.goto (-40), 3) := by decide +kernel
theorem dX2_isEntangled_45 : decode cX2_isEntangled 45 = .ok (.iconst 1, 1) := by decide +kernel
theorem dX2_isEntangled_46 : decode cX2_isEntangled 46 = .ok (.ireturn, 1) := by decide +kernel
theorem dX2_cuts_0 : decode cX2_cuts 0 = .ok (.iconst 0, 1) := by decide +kernel
theorem dX2_cuts_1 : decode cX2_cuts 1 = .ok (.istore_n 1, 1) := by decide +kernel
theorem dX2_cuts_2 : decode cX2_cuts 2 = .ok (.iconst 0, 1) := by decide +kernel
theorem dX2_cuts_3 : decode cX2_cuts 3 = .ok (.istore_n 2, 1) := by decide +kernel
theorem dX2_cuts_4 : decode cX2_cuts 4 = .ok (.iload_n 2, 1) := by decide +kernel
theorem dX2_cuts_5 : decode cX2_cuts 5 = .ok (.iconst 4, 1) := by decide +kernel
theorem dX2_cuts_6 : decode cX2_cuts 6 = .ok (.if_icmp .ge 44, 3) := by decide +kernel
theorem dX2_cuts_9 : decode cX2_cuts 9 = .ok (.iconst 0, 1) := by decide +kernel
theorem dX2_cuts_10 : decode cX2_cuts 10 = .ok (.istore_n 3, 1) := by decide +kernel
theorem dX2_cuts_11 : decode cX2_cuts 11 = .ok (.iload_n 3, 1) := by decide +kernel
theorem dX2_cuts_12 : decode cX2_cuts 12 = .ok (.iconst 2, 1) := by decide +kernel
theorem dX2_cuts_13 : decode cX2_cuts 13 = .ok (.if_icmp .ge 31, 3) := by decide +kernel
theorem dX2_cuts_16 : decode cX2_cuts 16 = .ok (.iload_n 1, 1) := by decide +kernel
theorem dX2_cuts_17 : decode cX2_cuts 17 = .ok (.iconst 0, 1) := by decide +kernel
theorem dX2_cuts_18 : decode cX2_cuts 18 = .ok (.aload_n 0, 1) := by decide +kernel
theorem dX2_cuts_19 : decode cX2_cuts 19 = .ok (.iload_n 2, 1) := by decide +kernel
theorem dX2_cuts_20 : decode cX2_cuts 20 = .ok (.iload_n 3, 1) := by decide +kernel
theorem dX2_cuts_21 : decode cX2_cuts 21 = .ok (.invokevirtual 162, 3) := by decide +kernel
theorem dX2_cuts_24 : decode cX2_cuts 24 = .ok (.aload_n 0, 1) := by decide +kernel
theorem dX2_cuts_25 : decode cX2_cuts 25 = .ok (.iload_n 2, 1) := by decide +kernel
theorem dX2_cuts_26 : decode cX2_cuts 26 = .ok (.iload_n 3, 1) := by decide +kernel
theorem dX2_cuts_27 : decode cX2_cuts 27 = .ok (.invokevirtual 159, 3) := by decide +kernel
theorem dX2_cuts_30 : decode cX2_cuts 30 = .ok (.isub, 1) := by decide +kernel
theorem dX2_cuts_31 : decode cX2_cuts 31 = .ok (.iconst 1, 1) := by decide +kernel
theorem dX2_cuts_32 : decode cX2_cuts 32 = .ok (.iadd, 1) := by decide +kernel
theorem dX2_cuts_33 : decode cX2_cuts 33 = .ok (.invokestatic 129, 3) := by decide +kernel
theorem dX2_cuts_36 : decode cX2_cuts 36 = .ok (.iadd, 1) := by decide +kernel
theorem dX2_cuts_37 : decode cX2_cuts 37 = .ok (.istore_n 1, 1) := by decide +kernel
theorem dX2_cuts_38 : decode cX2_cuts 38 = .ok (.iinc 3 1, 3) := by decide +kernel
theorem dX2_cuts_41 : decode cX2_cuts 41 = .ok (.goto (-30), 3) := by decide +kernel
theorem dX2_cuts_44 : decode cX2_cuts 44 = .ok (.iinc 2 1, 3) := by decide +kernel
theorem dX2_cuts_47 : decode cX2_cuts 47 = .ok (.goto (-43), 3) := by decide +kernel
theorem dX2_cuts_50 : decode cX2_cuts 50 = .ok (.iload_n 1, 1) := by decide +kernel
theorem dX2_cuts_51 : decode cX2_cuts 51 = .ok (.ireturn, 1) := by decide +kernel
theorem dX2_firstCut_0 : decode cX2_firstCut 0 = .ok (.sipush 10000, 3) := by decide +kernel
theorem dX2_firstCut_3 : decode cX2_firstCut 3 = .ok (.istore_n 1, 1) := by decide +kernel
theorem dX2_firstCut_4 : decode cX2_firstCut 4 = .ok (.iconst 0, 1) := by decide +kernel
theorem dX2_firstCut_5 : decode cX2_firstCut 5 = .ok (.istore_n 2, 1) := by decide +kernel
theorem dX2_firstCut_6 : decode cX2_firstCut 6 = .ok (.iload_n 2, 1) := by decide +kernel
theorem dX2_firstCut_7 : decode cX2_firstCut 7 = .ok (.iconst 4, 1) := by decide +kernel
theorem dX2_firstCut_8 : decode cX2_firstCut 8 = .ok (.if_icmp .ge 53, 3) := by decide +kernel
theorem dX2_firstCut_11 : decode cX2_firstCut 11 = .ok (.iconst 0, 1) := by decide +kernel
theorem dX2_firstCut_12 : decode cX2_firstCut 12 = .ok (.istore_n 3, 1) := by decide +kernel
theorem dX2_firstCut_13 : decode cX2_firstCut 13 = .ok (.iload_n 3, 1) := by decide +kernel
theorem dX2_firstCut_14 : decode cX2_firstCut 14 = .ok (.iconst 2, 1) := by decide +kernel
theorem dX2_firstCut_15 : decode cX2_firstCut 15 = .ok (.if_icmp .ge 40, 3) := by decide +kernel
theorem dX2_firstCut_18 : decode cX2_firstCut 18 = .ok (.aload_n 0, 1) := by decide +kernel
theorem dX2_firstCut_19 : decode cX2_firstCut 19 = .ok (.iload_n 2, 1) := by decide +kernel
theorem dX2_firstCut_20 : decode cX2_firstCut 20 = .ok (.iload_n 3, 1) := by decide +kernel
theorem dX2_firstCut_21 : decode cX2_firstCut 21 = .ok (.invokevirtual 159, 3) := by decide +kernel
theorem dX2_firstCut_24 : decode cX2_firstCut 24 = .ok (.istore 4, 2) := by decide +kernel
theorem dX2_firstCut_26 : decode cX2_firstCut 26 = .ok (.iload 4, 2) := by decide +kernel
theorem dX2_firstCut_28 : decode cX2_firstCut 28 = .ok (.aload_n 0, 1) := by decide +kernel
theorem dX2_firstCut_29 : decode cX2_firstCut 29 = .ok (.iload_n 2, 1) := by decide +kernel
theorem dX2_firstCut_30 : decode cX2_firstCut 30 = .ok (.iload_n 3, 1) := by decide +kernel
theorem dX2_firstCut_31 : decode cX2_firstCut 31 = .ok (.invokevirtual 162, 3) := by decide +kernel
theorem dX2_firstCut_34 : decode cX2_firstCut 34 = .ok (.if_icmp .gt 15, 3) := by decide +kernel
theorem dX2_firstCut_37 : decode cX2_firstCut 37 = .ok (.iload_n 1, 1) := by decide +kernel
theorem dX2_firstCut_38 : decode cX2_firstCut 38 = .ok (.iload_n 2, 1) := by decide +kernel
theorem dX2_firstCut_39 : decode cX2_firstCut 39 = .ok (.iload 4, 2) := by decide +kernel
theorem dX2_firstCut_41 : decode cX2_firstCut 41 = .ok (.iload_n 3, 1) := by decide +kernel
theorem dX2_firstCut_42 : decode cX2_firstCut 42 = .ok (.invokestatic 165, 3) := by decide +kernel
theorem dX2_firstCut_45 : decode cX2_firstCut 45 = .ok (.invokestatic 124, 3) := by decide +kernel
theorem dX2_firstCut_48 : decode cX2_firstCut 48 = .ok (.istore_n 1, 1) := by decide +kernel
theorem dX2_firstCut_49 : decode cX2_firstCut 49 = .ok (.iinc 3 1, 3) := by decide +kernel
theorem dX2_firstCut_52 : decode cX2_firstCut 52 = .ok (.goto (-39), 3) := by decide +kernel
theorem dX2_firstCut_55 : decode cX2_firstCut 55 = .ok (.iinc 2 1, 3) := by decide +kernel
theorem dX2_firstCut_58 : decode cX2_firstCut 58 = .ok (.goto (-52), 3) := by decide +kernel
theorem dX2_firstCut_61 : decode cX2_firstCut 61 = .ok (.iload_n 1, 1) := by decide +kernel
theorem dX2_firstCut_62 : decode cX2_firstCut 62 = .ok (.ireturn, 1) := by decide +kernel
theorem dX2_firstCut__0 : decode cX2_firstCut_ 0 = .ok (.iload_n 2, 1) := by decide +kernel
theorem dX2_firstCut__1 : decode cX2_firstCut_ 1 = .ok (.ifCond .ne 7, 3) := by decide +kernel
theorem dX2_firstCut__4 : decode cX2_firstCut_ 4 = .ok (.iconst 1, 1) := by decide +kernel
theorem dX2_firstCut__5 : decode cX2_firstCut_ 5 = .ok (.goto 4, 3) := by decide +kernel
theorem dX2_firstCut__8 : decode cX2_firstCut_ 8 = .ok (.iconst 2, 1) := by decide +kernel
theorem dX2_firstCut__9 : decode cX2_firstCut_ 9 = .ok (.istore_n 3, 1) := by decide +kernel
theorem dX2_firstCut__10 : decode cX2_firstCut_ 10 = .ok (.bipush (-24), 2) := by decide +kernel
theorem dX2_firstCut__12 : decode cX2_firstCut_ 12 = .ok (.aload_n 0, 1) := by decide +kernel
theorem dX2_firstCut__13 : decode cX2_firstCut_ 13 = .ok (.getfield 29, 3) := by decide +kernel
theorem dX2_firstCut__16 : decode cX2_firstCut_ 16 = .ok (.iload_n 3, 1) := by decide +kernel
theorem dX2_firstCut__17 : decode cX2_firstCut_ 17 = .ok (.iload_n 1, 1) := by decide +kernel
theorem dX2_firstCut__18 : decode cX2_firstCut_ 18 = .ok (.invokestatic 113, 3) := by decide +kernel
theorem dX2_firstCut__21 : decode cX2_firstCut_ 21 = .ok (.invokestatic 87, 3) := by decide +kernel
theorem dX2_firstCut__24 : decode cX2_firstCut_ 24 = .ok (.iconst 1, 1) := by decide +kernel
theorem dX2_firstCut__25 : decode cX2_firstCut_ 25 = .ok (.iadd, 1) := by decide +kernel
theorem dX2_firstCut__26 : decode cX2_firstCut_ 26 = .ok (.invokestatic 129, 3) := by decide +kernel
theorem dX2_firstCut__29 : decode cX2_firstCut_ 29 = .ok (.ireturn, 1) := by decide +kernel
theorem dX2_lastCut_0 : decode cX2_lastCut 0 = .ok (.iload_n 2, 1) := by decide +kernel
theorem dX2_lastCut_1 : decode cX2_lastCut 1 = .ok (.ifCond .ne 7, 3) := by decide +kernel
theorem dX2_lastCut_4 : decode cX2_lastCut 4 = .ok (.iconst 2, 1) := by decide +kernel
theorem dX2_lastCut_5 : decode cX2_lastCut 5 = .ok (.goto 4, 3) := by decide +kernel
theorem dX2_lastCut_8 : decode cX2_lastCut 8 = .ok (.iconst 1, 1) := by decide +kernel
theorem dX2_lastCut_9 : decode cX2_lastCut 9 = .ok (.istore_n 3, 1) := by decide +kernel
theorem dX2_lastCut_10 : decode cX2_lastCut 10 = .ok (.bipush 48, 2) := by decide +kernel
theorem dX2_lastCut_12 : decode cX2_lastCut 12 = .ok (.aload_n 0, 1) := by decide +kernel
theorem dX2_lastCut_13 : decode cX2_lastCut 13 = .ok (.getfield 26, 3) := by decide +kernel
theorem dX2_lastCut_16 : decode cX2_lastCut 16 = .ok (.iload_n 3, 1) := by decide +kernel
theorem dX2_lastCut_17 : decode cX2_lastCut 17 = .ok (.iload_n 1, 1) := by decide +kernel
theorem dX2_lastCut_18 : decode cX2_lastCut 18 = .ok (.invokestatic 113, 3) := by decide +kernel
theorem dX2_lastCut_21 : decode cX2_lastCut 21 = .ok (.invokestatic 87, 3) := by decide +kernel
theorem dX2_lastCut_24 : decode cX2_lastCut 24 = .ok (.invokestatic 124, 3) := by decide +kernel
theorem dX2_lastCut_27 : decode cX2_lastCut 27 = .ok (.ireturn, 1) := by decide +kernel
theorem dX3_isLine_0 : decode cX3_isLine 0 = .ok (.iload_n 0, 1) := by decide +kernel
theorem dX3_isLine_1 : decode cX3_isLine 1 = .ok (.ifCond .lt 24, 3) := by decide +kernel
theorem dX3_isLine_4 : decode cX3_isLine 4 = .ok (.iload_n 0, 1) := by decide +kernel
theorem dX3_isLine_5 : decode cX3_isLine 5 = .ok (.iconst 4, 1) := by decide +kernel
theorem dX3_isLine_6 : decode cX3_isLine 6 = .ok (.if_icmp .ge 19, 3) := by decide +kernel
theorem dX3_isLine_9 : decode cX3_isLine 9 = .ok (.iload_n 1, 1) := by decide +kernel
theorem dX3_isLine_10 : decode cX3_isLine 10 = .ok (.bipush (-24), 2) := by decide +kernel
theorem dX3_isLine_12 : decode cX3_isLine 12 = .ok (.if_icmp .lt 13, 3) := by decide +kernel
theorem dX3_isLine_15 : decode cX3_isLine 15 = .ok (.iload_n 1, 1) := by decide +kernel
theorem dX3_isLine_16 : decode cX3_isLine 16 = .ok (.bipush 48, 2) := by decide +kernel
theorem dX3_isLine_18 : decode cX3_isLine 18 = .ok (.if_icmp .gt 7, 3) := by decide +kernel
theorem dX3_isLine_21 : decode cX3_isLine 21 = .ok (.iconst 1, 1) := by decide +kernel
theorem dX3_isLine_22 : decode cX3_isLine 22 = .ok (.goto 4, 3) := by decide +kernel
theorem dX3_isLine_25 : decode cX3_isLine 25 = .ok (.iconst 0, 1) := by decide +kernel
theorem dX3_isLine_26 : decode cX3_isLine 26 = .ok (.ireturn, 1) := by decide +kernel
theorem dX3_isSide_0 : decode cX3_isSide 0 = .ok (.iload_n 0, 1) := by decide +kernel
theorem dX3_isSide_1 : decode cX3_isSide 1 = .ok (.ifCond .eq 8, 3) := by decide +kernel
theorem dX3_isSide_4 : decode cX3_isSide 4 = .ok (.iload_n 0, 1) := by decide +kernel
theorem dX3_isSide_5 : decode cX3_isSide 5 = .ok (.iconst 1, 1) := by decide +kernel
theorem dX3_isSide_6 : decode cX3_isSide 6 = .ok (.if_icmp .ne 7, 3) := by decide +kernel
theorem dX3_isSide_9 : decode cX3_isSide 9 = .ok (.iconst 1, 1) := by decide +kernel
theorem dX3_isSide_10 : decode cX3_isSide 10 = .ok (.goto 4, 3) := by decide +kernel
theorem dX3_isSide_13 : decode cX3_isSide 13 = .ok (.iconst 0, 1) := by decide +kernel
theorem dX3_isSide_14 : decode cX3_isSide 14 = .ok (.ireturn, 1) := by decide +kernel
theorem dX3_strip_0 : decode cX3_strip 0 = .ok (.iload_n 0, 1) := by decide +kernel
theorem dX3_strip_1 : decode cX3_strip 1 = .ok (.tableswitch 48 0 2 #[27, 29, 31], 27) := by decide +kernel
theorem dX3_strip_28 : decode cX3_strip 28 = .ok (.iload_n 1, 1) := by decide +kernel
theorem dX3_strip_29 : decode cX3_strip 29 = .ok (.ireturn, 1) := by decide +kernel
theorem dX3_strip_30 : decode cX3_strip 30 = .ok (.iload_n 2, 1) := by decide +kernel
theorem dX3_strip_31 : decode cX3_strip 31 = .ok (.ireturn, 1) := by decide +kernel
theorem dX3_strip_32 : decode cX3_strip 32 = .ok (.iload_n 3, 1) := by decide +kernel
theorem dX3_strip_33 : decode cX3_strip 33 = .ok (.iconst 2, 1) := by decide +kernel
theorem dX3_strip_34 : decode cX3_strip 34 = .ok (.if_icmp .ge 9, 3) := by decide +kernel
theorem dX3_strip_37 : decode cX3_strip 37 = .ok (.iload_n 1, 1) := by decide +kernel
theorem dX3_strip_38 : decode cX3_strip 38 = .ok (.iload_n 2, 1) := by decide +kernel
theorem dX3_strip_39 : decode cX3_strip 39 = .ok (.isub, 1) := by decide +kernel
theorem dX3_strip_40 : decode cX3_strip 40 = .ok (.goto 8, 3) := by decide +kernel
theorem dX3_strip_43 : decode cX3_strip 43 = .ok (.iload_n 1, 1) := by decide +kernel
theorem dX3_strip_44 : decode cX3_strip 44 = .ok (.iload_n 2, 1) := by decide +kernel
theorem dX3_strip_45 : decode cX3_strip 45 = .ok (.isub, 1) := by decide +kernel
theorem dX3_strip_46 : decode cX3_strip 46 = .ok (.iconst 1, 1) := by decide +kernel
theorem dX3_strip_47 : decode cX3_strip 47 = .ok (.isub, 1) := by decide +kernel
theorem dX3_strip_48 : decode cX3_strip 48 = .ok (.ireturn, 1) := by decide +kernel
theorem dX3_strip_49 : decode cX3_strip 49 = .ok (.iload_n 3, 1) := by decide +kernel
theorem dX3_strip_50 : decode cX3_strip 50 = .ok (.ifCond .eq 8, 3) := by decide +kernel
theorem dX3_strip_53 : decode cX3_strip 53 = .ok (.iload_n 3, 1) := by decide +kernel
theorem dX3_strip_54 : decode cX3_strip 54 = .ok (.iconst 3, 1) := by decide +kernel
theorem dX3_strip_55 : decode cX3_strip 55 = .ok (.if_icmp .ne 9, 3) := by decide +kernel
theorem dX3_strip_58 : decode cX3_strip 58 = .ok (.iload_n 1, 1) := by decide +kernel
theorem dX3_strip_59 : decode cX3_strip 59 = .ok (.iload_n 2, 1) := by decide +kernel
theorem dX3_strip_60 : decode cX3_strip 60 = .ok (.iadd, 1) := by decide +kernel
theorem dX3_strip_61 : decode cX3_strip 61 = .ok (.goto 8, 3) := by decide +kernel
theorem dX3_strip_64 : decode cX3_strip 64 = .ok (.iload_n 1, 1) := by decide +kernel
theorem dX3_strip_65 : decode cX3_strip 65 = .ok (.iload_n 2, 1) := by decide +kernel
theorem dX3_strip_66 : decode cX3_strip 66 = .ok (.iadd, 1) := by decide +kernel
theorem dX3_strip_67 : decode cX3_strip 67 = .ok (.iconst 1, 1) := by decide +kernel
theorem dX3_strip_68 : decode cX3_strip 68 = .ok (.iadd, 1) := by decide +kernel
theorem dX3_strip_69 : decode cX3_strip 69 = .ok (.ireturn, 1) := by decide +kernel
theorem dX3_isOn_0 : decode cX3_isOn 0 = .ok (.iload_n 2, 1) := by decide +kernel
theorem dX3_isOn_1 : decode cX3_isOn 1 = .ok (.ifCond .ne 16, 3) := by decide +kernel
theorem dX3_isOn_4 : decode cX3_isOn 4 = .ok (.iload_n 0, 1) := by decide +kernel
theorem dX3_isOn_5 : decode cX3_isOn 5 = .ok (.iload_n 1, 1) := by decide +kernel
theorem dX3_isOn_6 : decode cX3_isOn 6 = .ok (.if_icmp .ge 7, 3) := by decide +kernel
theorem dX3_isOn_9 : decode cX3_isOn 9 = .ok (.iconst 1, 1) := by decide +kernel
theorem dX3_isOn_10 : decode cX3_isOn 10 = .ok (.goto 17, 3) := by decide +kernel
theorem dX3_isOn_13 : decode cX3_isOn 13 = .ok (.iconst 0, 1) := by decide +kernel
theorem dX3_isOn_14 : decode cX3_isOn 14 = .ok (.goto 13, 3) := by decide +kernel
theorem dX3_isOn_17 : decode cX3_isOn 17 = .ok (.iload_n 0, 1) := by decide +kernel
theorem dX3_isOn_18 : decode cX3_isOn 18 = .ok (.iload_n 1, 1) := by decide +kernel
theorem dX3_isOn_19 : decode cX3_isOn 19 = .ok (.if_icmp .lt 7, 3) := by decide +kernel
theorem dX3_isOn_22 : decode cX3_isOn 22 = .ok (.iconst 1, 1) := by decide +kernel
theorem dX3_isOn_23 : decode cX3_isOn 23 = .ok (.goto 4, 3) := by decide +kernel
theorem dX3_isOn_26 : decode cX3_isOn 26 = .ok (.iconst 0, 1) := by decide +kernel
theorem dX3_isOn_27 : decode cX3_isOn 27 = .ok (.ireturn, 1) := by decide +kernel
theorem dX3_mirrorX_0 : decode cX3_mirrorX 0 = .ok (.iload_n 0, 1) := by decide +kernel
theorem dX3_mirrorX_1 : decode cX3_mirrorX 1 = .ok (.tableswitch 41 0 2 #[27, 35, 37], 27) := by decide +kernel
theorem dX3_mirrorX_28 : decode cX3_mirrorX 28 = .ok (.iconst 2, 1) := by decide +kernel
theorem dX3_mirrorX_29 : decode cX3_mirrorX 29 = .ok (.iload_n 1, 1) := by decide +kernel
theorem dX3_mirrorX_30 : decode cX3_mirrorX 30 = .ok (.imul, 1) := by decide +kernel
theorem dX3_mirrorX_31 : decode cX3_mirrorX 31 = .ok (.iconst 1, 1) := by decide +kernel
theorem dX3_mirrorX_32 : decode cX3_mirrorX 32 = .ok (.isub, 1) := by decide +kernel
theorem dX3_mirrorX_33 : decode cX3_mirrorX 33 = .ok (.iload_n 2, 1) := by decide +kernel
theorem dX3_mirrorX_34 : decode cX3_mirrorX 34 = .ok (.isub, 1) := by decide +kernel
theorem dX3_mirrorX_35 : decode cX3_mirrorX 35 = .ok (.ireturn, 1) := by decide +kernel
theorem dX3_mirrorX_36 : decode cX3_mirrorX 36 = .ok (.iload_n 2, 1) := by decide +kernel
theorem dX3_mirrorX_37 : decode cX3_mirrorX 37 = .ok (.ireturn, 1) := by decide +kernel
theorem dX3_mirrorX_38 : decode cX3_mirrorX 38 = .ok (.iload_n 3, 1) := by decide +kernel
theorem dX3_mirrorX_39 : decode cX3_mirrorX 39 = .ok (.iload_n 1, 1) := by decide +kernel
theorem dX3_mirrorX_40 : decode cX3_mirrorX 40 = .ok (.iadd, 1) := by decide +kernel
theorem dX3_mirrorX_41 : decode cX3_mirrorX 41 = .ok (.ireturn, 1) := by decide +kernel
theorem dX3_mirrorX_42 : decode cX3_mirrorX 42 = .ok (.iload_n 1, 1) := by decide +kernel
theorem dX3_mirrorX_43 : decode cX3_mirrorX 43 = .ok (.iconst 1, 1) := by decide +kernel
theorem dX3_mirrorX_44 : decode cX3_mirrorX 44 = .ok (.isub, 1) := by decide +kernel
theorem dX3_mirrorX_45 : decode cX3_mirrorX 45 = .ok (.iload_n 3, 1) := by decide +kernel
theorem dX3_mirrorX_46 : decode cX3_mirrorX 46 = .ok (.isub, 1) := by decide +kernel
theorem dX3_mirrorX_47 : decode cX3_mirrorX 47 = .ok (.ireturn, 1) := by decide +kernel
theorem dX3_mirrorY_0 : decode cX3_mirrorY 0 = .ok (.iload_n 0, 1) := by decide +kernel
theorem dX3_mirrorY_1 : decode cX3_mirrorY 1 = .ok (.tableswitch 41 0 2 #[27, 29, 37], 27) := by decide +kernel
theorem dX3_mirrorY_28 : decode cX3_mirrorY 28 = .ok (.iload_n 3, 1) := by decide +kernel
theorem dX3_mirrorY_29 : decode cX3_mirrorY 29 = .ok (.ireturn, 1) := by decide +kernel
theorem dX3_mirrorY_30 : decode cX3_mirrorY 30 = .ok (.iconst 2, 1) := by decide +kernel
theorem dX3_mirrorY_31 : decode cX3_mirrorY 31 = .ok (.iload_n 1, 1) := by decide +kernel
theorem dX3_mirrorY_32 : decode cX3_mirrorY 32 = .ok (.imul, 1) := by decide +kernel
theorem dX3_mirrorY_33 : decode cX3_mirrorY 33 = .ok (.iconst 1, 1) := by decide +kernel
theorem dX3_mirrorY_34 : decode cX3_mirrorY 34 = .ok (.isub, 1) := by decide +kernel
theorem dX3_mirrorY_35 : decode cX3_mirrorY 35 = .ok (.iload_n 3, 1) := by decide +kernel
theorem dX3_mirrorY_36 : decode cX3_mirrorY 36 = .ok (.isub, 1) := by decide +kernel
theorem dX3_mirrorY_37 : decode cX3_mirrorY 37 = .ok (.ireturn, 1) := by decide +kernel
theorem dX3_mirrorY_38 : decode cX3_mirrorY 38 = .ok (.iload_n 2, 1) := by decide +kernel
theorem dX3_mirrorY_39 : decode cX3_mirrorY 39 = .ok (.iload_n 1, 1) := by decide +kernel
theorem dX3_mirrorY_40 : decode cX3_mirrorY 40 = .ok (.isub, 1) := by decide +kernel
theorem dX3_mirrorY_41 : decode cX3_mirrorY 41 = .ok (.ireturn, 1) := by decide +kernel
theorem dX3_mirrorY_42 : decode cX3_mirrorY 42 = .ok (.iload_n 1, 1) := by decide +kernel
theorem dX3_mirrorY_43 : decode cX3_mirrorY 43 = .ok (.iconst 1, 1) := by decide +kernel
theorem dX3_mirrorY_44 : decode cX3_mirrorY 44 = .ok (.isub, 1) := by decide +kernel
theorem dX3_mirrorY_45 : decode cX3_mirrorY 45 = .ok (.iload_n 2, 1) := by decide +kernel
theorem dX3_mirrorY_46 : decode cX3_mirrorY 46 = .ok (.isub, 1) := by decide +kernel
theorem dX3_mirrorY_47 : decode cX3_mirrorY 47 = .ok (.ireturn, 1) := by decide +kernel
theorem dX3_mirrorQuarter_0 : decode cX3_mirrorQuarter 0 = .ok (.iload_n 0, 1) := by decide +kernel
theorem dX3_mirrorQuarter_1 : decode cX3_mirrorQuarter 1 = .ok (.tableswitch 43 0 2 #[27, 33, 39], 27) := by decide +kernel
theorem dX3_mirrorQuarter_28 : decode cX3_mirrorQuarter 28 = .ok (.iconst 4, 1) := by decide +kernel
theorem dX3_mirrorQuarter_29 : decode cX3_mirrorQuarter 29 = .ok (.iload_n 1, 1) := by decide +kernel
theorem dX3_mirrorQuarter_30 : decode cX3_mirrorQuarter 30 = .ok (.isub, 1) := by decide +kernel
theorem dX3_mirrorQuarter_31 : decode cX3_mirrorQuarter 31 = .ok (.iconst 3, 1) := by decide +kernel
theorem dX3_mirrorQuarter_32 : decode cX3_mirrorQuarter 32 = .ok (.iand, 1) := by decide +kernel
theorem dX3_mirrorQuarter_33 : decode cX3_mirrorQuarter 33 = .ok (.ireturn, 1) := by decide +kernel
theorem dX3_mirrorQuarter_34 : decode cX3_mirrorQuarter 34 = .ok (.iconst 2, 1) := by decide +kernel
theorem dX3_mirrorQuarter_35 : decode cX3_mirrorQuarter 35 = .ok (.iload_n 1, 1) := by decide +kernel
theorem dX3_mirrorQuarter_36 : decode cX3_mirrorQuarter 36 = .ok (.isub, 1) := by decide +kernel
theorem dX3_mirrorQuarter_37 : decode cX3_mirrorQuarter 37 = .ok (.iconst 3, 1) := by decide +kernel
theorem dX3_mirrorQuarter_38 : decode cX3_mirrorQuarter 38 = .ok (.iand, 1) := by decide +kernel
theorem dX3_mirrorQuarter_39 : decode cX3_mirrorQuarter 39 = .ok (.ireturn, 1) := by decide +kernel
theorem dX3_mirrorQuarter_40 : decode cX3_mirrorQuarter 40 = .ok (.iconst 3, 1) := by decide +kernel
theorem dX3_mirrorQuarter_41 : decode cX3_mirrorQuarter 41 = .ok (.iload_n 1, 1) := by decide +kernel
theorem dX3_mirrorQuarter_42 : decode cX3_mirrorQuarter 42 = .ok (.isub, 1) := by decide +kernel
theorem dX3_mirrorQuarter_43 : decode cX3_mirrorQuarter 43 = .ok (.ireturn, 1) := by decide +kernel
theorem dX3_mirrorQuarter_44 : decode cX3_mirrorQuarter 44 = .ok (.iconst 1, 1) := by decide +kernel
theorem dX3_mirrorQuarter_45 : decode cX3_mirrorQuarter 45 = .ok (.iload_n 1, 1) := by decide +kernel
theorem dX3_mirrorQuarter_46 : decode cX3_mirrorQuarter 46 = .ok (.isub, 1) := by decide +kernel
theorem dX3_mirrorQuarter_47 : decode cX3_mirrorQuarter 47 = .ok (.iconst 3, 1) := by decide +kernel
theorem dX3_mirrorQuarter_48 : decode cX3_mirrorQuarter 48 = .ok (.iand, 1) := by decide +kernel
theorem dX3_mirrorQuarter_49 : decode cX3_mirrorQuarter 49 = .ok (.ireturn, 1) := by decide +kernel
theorem dX3_touches_0 : decode cX3_touches 0 = .ok (.iload_n 0, 1) := by decide +kernel
theorem dX3_touches_1 : decode cX3_touches 1 = .ok (.tableswitch 99 0 2 #[27, 57, 86], 27) := by decide +kernel
theorem dX3_touches_28 : decode cX3_touches 28 = .ok (.iload 4, 2) := by decide +kernel
theorem dX3_touches_30 : decode cX3_touches 30 = .ok (.iconst 1, 1) := by decide +kernel
theorem dX3_touches_31 : decode cX3_touches 31 = .ok (.if_icmp .ne 10, 3) := by decide +kernel
theorem dX3_touches_34 : decode cX3_touches 34 = .ok (.iload_n 2, 1) := by decide +kernel
theorem dX3_touches_35 : decode cX3_touches 35 = .ok (.iconst 1, 1) := by decide +kernel
theorem dX3_touches_36 : decode cX3_touches 36 = .ok (.iadd, 1) := by decide +kernel
theorem dX3_touches_37 : decode cX3_touches 37 = .ok (.iload_n 1, 1) := by decide +kernel
theorem dX3_touches_38 : decode cX3_touches 38 = .ok (.if_icmp .eq 14, 3) := by decide +kernel
theorem dX3_touches_41 : decode cX3_touches 41 = .ok (.iload 4, 2) := by decide +kernel
theorem dX3_touches_43 : decode cX3_touches 43 = .ok (.iconst 3, 1) := by decide +kernel
theorem dX3_touches_44 : decode cX3_touches 44 = .ok (.if_icmp .ne 12, 3) := by decide +kernel
theorem dX3_touches_47 : decode cX3_touches 47 = .ok (.iload_n 2, 1) := by decide +kernel
theorem dX3_touches_48 : decode cX3_touches 48 = .ok (.iload_n 1, 1) := by decide +kernel
theorem dX3_touches_49 : decode cX3_touches 49 = .ok (.if_icmp .ne 7, 3) := by decide +kernel
theorem dX3_touches_52 : decode cX3_touches 52 = .ok (.iconst 1, 1) := by decide +kernel
theorem dX3_touches_53 : decode cX3_touches 53 = .ok (.goto 4, 3) := by decide +kernel
theorem dX3_touches_56 : decode cX3_touches 56 = .ok (.iconst 0, 1) := by decide +kernel
theorem dX3_touches_57 : decode cX3_touches 57 = .ok (.ireturn, 1) := by decide +kernel
theorem dX3_touches_58 : decode cX3_touches 58 = .ok (.iload 4, 2) := by decide +kernel
theorem dX3_touches_60 : decode cX3_touches 60 = .ok (.iconst 2, 1) := by decide +kernel
theorem dX3_touches_61 : decode cX3_touches 61 = .ok (.if_icmp .ne 10, 3) := by decide +kernel
theorem dX3_touches_64 : decode cX3_touches 64 = .ok (.iload_n 3, 1) := by decide +kernel
theorem dX3_touches_65 : decode cX3_touches 65 = .ok (.iconst 1, 1) := by decide +kernel
theorem dX3_touches_66 : decode cX3_touches 66 = .ok (.iadd, 1) := by decide +kernel
theorem dX3_touches_67 : decode cX3_touches 67 = .ok (.iload_n 1, 1) := by decide +kernel
theorem dX3_touches_68 : decode cX3_touches 68 = .ok (.if_icmp .eq 13, 3) := by decide +kernel
theorem dX3_touches_71 : decode cX3_touches 71 = .ok (.iload 4, 2) := by decide +kernel
theorem dX3_touches_73 : decode cX3_touches 73 = .ok (.ifCond .ne 12, 3) := by decide +kernel
theorem dX3_touches_76 : decode cX3_touches 76 = .ok (.iload_n 3, 1) := by decide +kernel
theorem dX3_touches_77 : decode cX3_touches 77 = .ok (.iload_n 1, 1) := by decide +kernel
theorem dX3_touches_78 : decode cX3_touches 78 = .ok (.if_icmp .ne 7, 3) := by decide +kernel
theorem dX3_touches_81 : decode cX3_touches 81 = .ok (.iconst 1, 1) := by decide +kernel
theorem dX3_touches_82 : decode cX3_touches 82 = .ok (.goto 4, 3) := by decide +kernel
theorem dX3_touches_85 : decode cX3_touches 85 = .ok (.iconst 0, 1) := by decide +kernel
theorem dX3_touches_86 : decode cX3_touches 86 = .ok (.ireturn, 1) := by decide +kernel
theorem dX3_touches_87 : decode cX3_touches 87 = .ok (.iload_n 2, 1) := by decide +kernel
theorem dX3_touches_88 : decode cX3_touches 88 = .ok (.iload_n 3, 1) := by decide +kernel
theorem dX3_touches_89 : decode cX3_touches 89 = .ok (.isub, 1) := by decide +kernel
theorem dX3_touches_90 : decode cX3_touches 90 = .ok (.iload_n 1, 1) := by decide +kernel
theorem dX3_touches_91 : decode cX3_touches 91 = .ok (.if_icmp .ne 7, 3) := by decide +kernel
theorem dX3_touches_94 : decode cX3_touches 94 = .ok (.iconst 1, 1) := by decide +kernel
theorem dX3_touches_95 : decode cX3_touches 95 = .ok (.goto 4, 3) := by decide +kernel
theorem dX3_touches_98 : decode cX3_touches 98 = .ok (.iconst 0, 1) := by decide +kernel
theorem dX3_touches_99 : decode cX3_touches 99 = .ok (.ireturn, 1) := by decide +kernel
theorem dX3_touches_100 : decode cX3_touches 100 = .ok (.iload_n 2, 1) := by decide +kernel
theorem dX3_touches_101 : decode cX3_touches 101 = .ok (.iload_n 3, 1) := by decide +kernel
theorem dX3_touches_102 : decode cX3_touches 102 = .ok (.iadd, 1) := by decide +kernel
theorem dX3_touches_103 : decode cX3_touches 103 = .ok (.iconst 1, 1) := by decide +kernel
theorem dX3_touches_104 : decode cX3_touches 104 = .ok (.iadd, 1) := by decide +kernel
theorem dX3_touches_105 : decode cX3_touches 105 = .ok (.iload_n 1, 1) := by decide +kernel
theorem dX3_touches_106 : decode cX3_touches 106 = .ok (.if_icmp .ne 7, 3) := by decide +kernel
theorem dX3_touches_109 : decode cX3_touches 109 = .ok (.iconst 1, 1) := by decide +kernel
theorem dX3_touches_110 : decode cX3_touches 110 = .ok (.goto 4, 3) := by decide +kernel
theorem dX3_touches_113 : decode cX3_touches 113 = .ok (.iconst 0, 1) := by decide +kernel
theorem dX3_touches_114 : decode cX3_touches 114 = .ok (.ireturn, 1) := by decide +kernel
theorem dX3_spot_0 : decode cX3_spot 0 = .ok (.iload_n 0, 1) := by decide +kernel
theorem dX3_spot_1 : decode cX3_spot 1 = .ok (.bipush 15, 2) := by decide +kernel
theorem dX3_spot_3 : decode cX3_spot 3 = .ok (.iand, 1) := by decide +kernel
theorem dX3_spot_4 : decode cX3_spot 4 = .ok (.bipush 6, 2) := by decide +kernel
theorem dX3_spot_6 : decode cX3_spot 6 = .ok (.ishl, 1) := by decide +kernel
theorem dX3_spot_7 : decode cX3_spot 7 = .ok (.iload_n 1, 1) := by decide +kernel
theorem dX3_spot_8 : decode cX3_spot 8 = .ok (.bipush 15, 2) := by decide +kernel
theorem dX3_spot_10 : decode cX3_spot 10 = .ok (.iand, 1) := by decide +kernel
theorem dX3_spot_11 : decode cX3_spot 11 = .ok (.iconst 2, 1) := by decide +kernel
theorem dX3_spot_12 : decode cX3_spot 12 = .ok (.ishl, 1) := by decide +kernel
theorem dX3_spot_13 : decode cX3_spot 13 = .ok (.ior, 1) := by decide +kernel
theorem dX3_spot_14 : decode cX3_spot 14 = .ok (.iload_n 2, 1) := by decide +kernel
theorem dX3_spot_15 : decode cX3_spot 15 = .ok (.iconst 3, 1) := by decide +kernel
theorem dX3_spot_16 : decode cX3_spot 16 = .ok (.iand, 1) := by decide +kernel
theorem dX3_spot_17 : decode cX3_spot 17 = .ok (.ior, 1) := by decide +kernel
theorem dX3_spot_18 : decode cX3_spot 18 = .ok (.ireturn, 1) := by decide +kernel
theorem dX4_init_0 : decode cX4_init 0 = .ok (.aload_n 0, 1) := by decide +kernel
theorem dX4_init_1 : decode cX4_init 1 = .ok (.invokespecial 3, 3) := by decide +kernel
theorem dX4_init_4 : decode cX4_init 4 = .ok (.aload_n 0, 1) := by decide +kernel
theorem dX4_init_5 : decode cX4_init 5 = .ok (.sipush 144, 3) := by decide +kernel
theorem dX4_init_8 : decode cX4_init 8 = .ok (.newarray .int, 2) := by decide +kernel
theorem dX4_init_10 : decode cX4_init 10 = .ok (.putfield 9, 3) := by decide +kernel
theorem dX4_init_13 : decode cX4_init 13 = .ok (.aload_n 0, 1) := by decide +kernel
theorem dX4_init_14 : decode cX4_init 14 = .ok (.sipush 144, 3) := by decide +kernel
theorem dX4_init_17 : decode cX4_init 17 = .ok (.newarray .int, 2) := by decide +kernel
theorem dX4_init_19 : decode cX4_init 19 = .ok (.putfield 15, 3) := by decide +kernel
theorem dX4_init_22 : decode cX4_init 22 = .ok (.aload_n 0, 1) := by decide +kernel
theorem dX4_init_23 : decode cX4_init 23 = .ok (.sipush 144, 3) := by decide +kernel
theorem dX4_init_26 : decode cX4_init 26 = .ok (.newarray .int, 2) := by decide +kernel
theorem dX4_init_28 : decode cX4_init 28 = .ok (.putfield 18, 3) := by decide +kernel
theorem dX4_init_31 : decode cX4_init 31 = .ok (.aload_n 0, 1) := by decide +kernel
theorem dX4_init_32 : decode cX4_init 32 = .ok (.sipush 144, 3) := by decide +kernel
theorem dX4_init_35 : decode cX4_init 35 = .ok (.newarray .int, 2) := by decide +kernel
theorem dX4_init_37 : decode cX4_init 37 = .ok (.putfield 21, 3) := by decide +kernel
theorem dX4_init_40 : decode cX4_init 40 = .ok (.aload_n 0, 1) := by decide +kernel
theorem dX4_init_41 : decode cX4_init 41 = .ok (.sipush 144, 3) := by decide +kernel
theorem dX4_init_44 : decode cX4_init 44 = .ok (.newarray .int, 2) := by decide +kernel
theorem dX4_init_46 : decode cX4_init 46 = .ok (.putfield 24, 3) := by decide +kernel
theorem dX4_init_49 : decode cX4_init 49 = .ok (.aload_n 0, 1) := by decide +kernel
theorem dX4_init_50 : decode cX4_init 50 = .ok (.sipush 1024, 3) := by decide +kernel
theorem dX4_init_53 : decode cX4_init 53 = .ok (.newarray .int, 2) := by decide +kernel
theorem dX4_init_55 : decode cX4_init 55 = .ok (.putfield 29, 3) := by decide +kernel
theorem dX4_init_58 : decode cX4_init 58 = .ok (.aload_n 0, 1) := by decide +kernel
theorem dX4_init_59 : decode cX4_init 59 = .ok (.bipush 8, 2) := by decide +kernel
theorem dX4_init_61 : decode cX4_init 61 = .ok (.newarray .int, 2) := by decide +kernel
theorem dX4_init_63 : decode cX4_init 63 = .ok (.putfield 32, 3) := by decide +kernel
theorem dX4_init_66 : decode cX4_init 66 = .ok (.aload_n 0, 1) := by decide +kernel
theorem dX4_init_67 : decode cX4_init 67 = .ok (.bipush 8, 2) := by decide +kernel
theorem dX4_init_69 : decode cX4_init 69 = .ok (.newarray .int, 2) := by decide +kernel
theorem dX4_init_71 : decode cX4_init 71 = .ok (.putfield 35, 3) := by decide +kernel
theorem dX4_init_74 : decode cX4_init 74 = .ok (.aload_n 0, 1) := by decide +kernel
theorem dX4_init_75 : decode cX4_init 75 = .ok (.bipush 8, 2) := by decide +kernel
theorem dX4_init_77 : decode cX4_init 77 = .ok (.newarray .int, 2) := by decide +kernel
theorem dX4_init_79 : decode cX4_init 79 = .ok (.putfield 38, 3) := by decide +kernel
theorem dX4_init_82 : decode cX4_init 82 = .ok (.aload_n 0, 1) := by decide +kernel
theorem dX4_init_83 : decode cX4_init 83 = .ok (.bipush 8, 2) := by decide +kernel
theorem dX4_init_85 : decode cX4_init 85 = .ok (.newarray .int, 2) := by decide +kernel
theorem dX4_init_87 : decode cX4_init 87 = .ok (.putfield 41, 3) := by decide +kernel
theorem dX4_init_90 : decode cX4_init 90 = .ok (.aload_n 0, 1) := by decide +kernel
theorem dX4_init_91 : decode cX4_init 91 = .ok (.aload_n 1, 1) := by decide +kernel
theorem dX4_init_92 : decode cX4_init 92 = .ok (.putfield 44, 3) := by decide +kernel
theorem dX4_init_95 : decode cX4_init 95 = .ok (.return_, 1) := by decide +kernel
theorem dX4_flatten_0 : decode cX4_flatten 0 = .ok (.aload_n 0, 1) := by decide +kernel
theorem dX4_flatten_1 : decode cX4_flatten 1 = .ok (.iconst 0, 1) := by decide +kernel
theorem dX4_flatten_2 : decode cX4_flatten 2 = .ok (.putfield 48, 3) := by decide +kernel
theorem dX4_flatten_5 : decode cX4_flatten 5 = .ok (.aload_n 0, 1) := by decide +kernel
theorem dX4_flatten_6 : decode cX4_flatten 6 = .ok (.invokevirtual 52, 3) := by decide +kernel
theorem dX4_flatten_9 : decode cX4_flatten 9 = .ok (.return_, 1) := by decide +kernel
theorem dX4_add_0 : decode cX4_add 0 = .ok (.aload_n 0, 1) := by decide +kernel
theorem dX4_add_1 : decode cX4_add 1 = .ok (.getfield 32, 3) := by decide +kernel
theorem dX4_add_4 : decode cX4_add 4 = .ok (.aload_n 0, 1) := by decide +kernel
theorem dX4_add_5 : decode cX4_add 5 = .ok (.getfield 48, 3) := by decide +kernel
theorem dX4_add_8 : decode cX4_add 8 = .ok (.iload_n 1, 1) := by decide +kernel
theorem dX4_add_9 : decode cX4_add 9 = .ok (.invokestatic 55, 3) := by decide +kernel
theorem dX4_add_12 : decode cX4_add 12 = .ok (.aload_n 0, 1) := by decide +kernel
theorem dX4_add_13 : decode cX4_add 13 = .ok (.getfield 35, 3) := by decide +kernel
theorem dX4_add_16 : decode cX4_add 16 = .ok (.aload_n 0, 1) := by decide +kernel
theorem dX4_add_17 : decode cX4_add 17 = .ok (.getfield 48, 3) := by decide +kernel
theorem dX4_add_20 : decode cX4_add 20 = .ok (.iload_n 2, 1) := by decide +kernel
theorem dX4_add_21 : decode cX4_add 21 = .ok (.invokestatic 55, 3) := by decide +kernel
theorem dX4_add_24 : decode cX4_add 24 = .ok (.aload_n 0, 1) := by decide +kernel
theorem dX4_add_25 : decode cX4_add 25 = .ok (.getfield 38, 3) := by decide +kernel
theorem dX4_add_28 : decode cX4_add 28 = .ok (.aload_n 0, 1) := by decide +kernel
theorem dX4_add_29 : decode cX4_add 29 = .ok (.getfield 48, 3) := by decide +kernel
theorem dX4_add_32 : decode cX4_add 32 = .ok (.iload_n 3, 1) := by decide +kernel
theorem dX4_add_33 : decode cX4_add 33 = .ok (.invokestatic 55, 3) := by decide +kernel
theorem dX4_add_36 : decode cX4_add 36 = .ok (.aload_n 0, 1) := by decide +kernel
theorem dX4_add_37 : decode cX4_add 37 = .ok (.getfield 41, 3) := by decide +kernel
theorem dX4_add_40 : decode cX4_add 40 = .ok (.aload_n 0, 1) := by decide +kernel
theorem dX4_add_41 : decode cX4_add 41 = .ok (.getfield 48, 3) := by decide +kernel
theorem dX4_add_44 : decode cX4_add 44 = .ok (.iload 4, 2) := by decide +kernel
theorem dX4_add_46 : decode cX4_add 46 = .ok (.invokestatic 61, 3) := by decide +kernel
theorem dX4_add_49 : decode cX4_add 49 = .ok (.invokestatic 55, 3) := by decide +kernel
theorem dX4_add_52 : decode cX4_add 52 = .ok (.aload_n 0, 1) := by decide +kernel
theorem dX4_add_53 : decode cX4_add 53 = .ok (.dup, 1) := by decide +kernel
theorem dX4_add_54 : decode cX4_add 54 = .ok (.getfield 48, 3) := by decide +kernel
theorem dX4_add_57 : decode cX4_add 57 = .ok (.iconst 1, 1) := by decide +kernel
theorem dX4_add_58 : decode cX4_add 58 = .ok (.iadd, 1) := by decide +kernel
theorem dX4_add_59 : decode cX4_add 59 = .ok (.putfield 48, 3) := by decide +kernel
theorem dX4_add_62 : decode cX4_add 62 = .ok (.aload_n 0, 1) := by decide +kernel
theorem dX4_add_63 : decode cX4_add 63 = .ok (.iload_n 1, 1) := by decide +kernel
theorem dX4_add_64 : decode cX4_add 64 = .ok (.iload_n 2, 1) := by decide +kernel
theorem dX4_add_65 : decode cX4_add 65 = .ok (.iload_n 3, 1) := by decide +kernel
theorem dX4_add_66 : decode cX4_add 66 = .ok (.iload 4, 2) := by decide +kernel
theorem dX4_add_68 : decode cX4_add 68 = .ok (.invokevirtual 65, 3) := by decide +kernel
theorem dX4_add_71 : decode cX4_add 71 = .ok (.return_, 1) := by decide +kernel
theorem dX4_undo_0 : decode cX4_undo 0 = .ok (.aload_n 0, 1) := by decide +kernel
theorem dX4_undo_1 : decode cX4_undo 1 = .ok (.dup, 1) := by decide +kernel
theorem dX4_undo_2 : decode cX4_undo 2 = .ok (.getfield 48, 3) := by decide +kernel
theorem dX4_undo_5 : decode cX4_undo 5 = .ok (.iconst 1, 1) := by decide +kernel
theorem dX4_undo_6 : decode cX4_undo 6 = .ok (.isub, 1) := by decide +kernel
theorem dX4_undo_7 : decode cX4_undo 7 = .ok (.putfield 48, 3) := by decide +kernel
theorem dX4_undo_10 : decode cX4_undo 10 = .ok (.aload_n 0, 1) := by decide +kernel
theorem dX4_undo_11 : decode cX4_undo 11 = .ok (.invokevirtual 52, 3) := by decide +kernel
theorem dX4_undo_14 : decode cX4_undo 14 = .ok (.iconst 0, 1) := by decide +kernel
theorem dX4_undo_15 : decode cX4_undo 15 = .ok (.istore_n 1, 1) := by decide +kernel
theorem dX4_undo_16 : decode cX4_undo 16 = .ok (.iload_n 1, 1) := by decide +kernel
theorem dX4_undo_17 : decode cX4_undo 17 = .ok (.aload_n 0, 1) := by decide +kernel
theorem dX4_undo_18 : decode cX4_undo 18 = .ok (.getfield 48, 3) := by decide +kernel
theorem dX4_undo_21 : decode cX4_undo 21 = .ok (.if_icmp .ge 60, 3) := by decide +kernel
theorem dX4_undo_24 : decode cX4_undo 24 = .ok (.iload_n 1, 1) := by decide +kernel
theorem dX4_undo_25 : decode cX4_undo 25 = .ok (.bipush 8, 2) := by decide +kernel
theorem dX4_undo_27 : decode cX4_undo 27 = .ok (.if_icmp .ge 54, 3) := by decide +kernel
theorem dX4_undo_30 : decode cX4_undo 30 = .ok (.aload_n 0, 1) := by decide +kernel
theorem dX4_undo_31 : decode cX4_undo 31 = .ok (.aload_n 0, 1) := by decide +kernel
theorem dX4_undo_32 : decode cX4_undo 32 = .ok (.getfield 32, 3) := by decide +kernel
theorem dX4_undo_35 : decode cX4_undo 35 = .ok (.iload_n 1, 1) := by decide +kernel
theorem dX4_undo_36 : decode cX4_undo 36 = .ok (.invokestatic 69, 3) := by decide +kernel
theorem dX4_undo_39 : decode cX4_undo 39 = .ok (.aload_n 0, 1) := by decide +kernel
theorem dX4_undo_40 : decode cX4_undo 40 = .ok (.getfield 35, 3) := by decide +kernel
theorem dX4_undo_43 : decode cX4_undo 43 = .ok (.iload_n 1, 1) := by decide +kernel
theorem dX4_undo_44 : decode cX4_undo 44 = .ok (.invokestatic 69, 3) := by decide +kernel
theorem dX4_undo_47 : decode cX4_undo 47 = .ok (.aload_n 0, 1) := by decide +kernel
theorem dX4_undo_48 : decode cX4_undo 48 = .ok (.getfield 38, 3) := by decide +kernel
theorem dX4_undo_51 : decode cX4_undo 51 = .ok (.iload_n 1, 1) := by decide +kernel
theorem dX4_undo_52 : decode cX4_undo 52 = .ok (.invokestatic 69, 3) := by decide +kernel
theorem dX4_undo_55 : decode cX4_undo 55 = .ok (.aload_n 0, 1) := by decide +kernel
theorem dX4_undo_56 : decode cX4_undo 56 = .ok (.getfield 41, 3) := by decide +kernel
theorem dX4_undo_59 : decode cX4_undo 59 = .ok (.iload_n 1, 1) := by decide +kernel
theorem dX4_undo_60 : decode cX4_undo 60 = .ok (.invokestatic 69, 3) := by decide +kernel
theorem dX4_undo_63 : decode cX4_undo 63 = .ok (.iconst 1, 1) := by decide +kernel
theorem dX4_undo_64 : decode cX4_undo 64 = .ok (.if_icmp .ne 7, 3) := by decide +kernel
theorem dX4_undo_67 : decode cX4_undo 67 = .ok (.iconst 1, 1) := by decide +kernel
theorem dX4_undo_68 : decode cX4_undo 68 = .ok (.goto 4, 3) := by decide +kernel
theorem dX4_undo_71 : decode cX4_undo 71 = .ok (.iconst 0, 1) := by decide +kernel
theorem dX4_undo_72 : decode cX4_undo 72 = .ok (.invokevirtual 65, 3) := by decide +kernel
theorem dX4_undo_75 : decode cX4_undo 75 = .ok (.iinc 1 1, 3) := by decide +kernel
theorem dX4_undo_78 : decode cX4_undo 78 = .ok (.goto (-62), 3) := by decide +kernel
theorem dX4_undo_81 : decode cX4_undo 81 = .ok (.return_, 1) := by decide +kernel
theorem dX4_spread_0 : decode cX4_spread 0 = .ok (.iconst 0, 1) := by decide +kernel
theorem dX4_spread_1 : decode cX4_spread 1 = .ok (.istore_n 1, 1) := by decide +kernel
theorem dX4_spread_2 : decode cX4_spread 2 = .ok (.iload_n 1, 1) := by decide +kernel
theorem dX4_spread_3 : decode cX4_spread 3 = .ok (.aload_n 0, 1) := by decide +kernel
theorem dX4_spread_4 : decode cX4_spread 4 = .ok (.getfield 44, 3) := by decide +kernel
theorem dX4_spread_7 : decode cX4_spread 7 = .ok (.getfield 73, 3) := by decide +kernel
theorem dX4_spread_10 : decode cX4_spread 10 = .ok (.if_icmp .ge 75, 3) := by decide +kernel
theorem dX4_spread_13 : decode cX4_spread 13 = .ok (.aload_n 0, 1) := by decide +kernel
theorem dX4_spread_14 : decode cX4_spread 14 = .ok (.getfield 9, 3) := by decide +kernel
theorem dX4_spread_17 : decode cX4_spread 17 = .ok (.iload_n 1, 1) := by decide +kernel
theorem dX4_spread_18 : decode cX4_spread 18 = .ok (.aload_n 0, 1) := by decide +kernel
theorem dX4_spread_19 : decode cX4_spread 19 = .ok (.getfield 44, 3) := by decide +kernel
theorem dX4_spread_22 : decode cX4_spread 22 = .ok (.iload_n 1, 1) := by decide +kernel
theorem dX4_spread_23 : decode cX4_spread 23 = .ok (.invokevirtual 78, 3) := by decide +kernel
theorem dX4_spread_26 : decode cX4_spread 26 = .ok (.invokestatic 55, 3) := by decide +kernel
theorem dX4_spread_29 : decode cX4_spread 29 = .ok (.aload_n 0, 1) := by decide +kernel
theorem dX4_spread_30 : decode cX4_spread 30 = .ok (.getfield 15, 3) := by decide +kernel
theorem dX4_spread_33 : decode cX4_spread 33 = .ok (.iload_n 1, 1) := by decide +kernel
theorem dX4_spread_34 : decode cX4_spread 34 = .ok (.aload_n 0, 1) := by decide +kernel
theorem dX4_spread_35 : decode cX4_spread 35 = .ok (.getfield 44, 3) := by decide +kernel
theorem dX4_spread_38 : decode cX4_spread 38 = .ok (.iload_n 1, 1) := by decide +kernel
theorem dX4_spread_39 : decode cX4_spread 39 = .ok (.invokevirtual 82, 3) := by decide +kernel
theorem dX4_spread_42 : decode cX4_spread 42 = .ok (.invokestatic 55, 3) := by decide +kernel
theorem dX4_spread_45 : decode cX4_spread 45 = .ok (.aload_n 0, 1) := by decide +kernel
theorem dX4_spread_46 : decode cX4_spread 46 = .ok (.getfield 18, 3) := by decide +kernel
theorem dX4_spread_49 : decode cX4_spread 49 = .ok (.iload_n 1, 1) := by decide +kernel
theorem dX4_spread_50 : decode cX4_spread 50 = .ok (.aload_n 0, 1) := by decide +kernel
theorem dX4_spread_51 : decode cX4_spread 51 = .ok (.getfield 44, 3) := by decide +kernel
theorem dX4_spread_54 : decode cX4_spread 54 = .ok (.iload_n 1, 1) := by decide +kernel
theorem dX4_spread_55 : decode cX4_spread 55 = .ok (.invokevirtual 85, 3) := by decide +kernel
theorem dX4_spread_58 : decode cX4_spread 58 = .ok (.invokestatic 55, 3) := by decide +kernel
theorem dX4_spread_61 : decode cX4_spread 61 = .ok (.aload_n 0, 1) := by decide +kernel
theorem dX4_spread_62 : decode cX4_spread 62 = .ok (.getfield 21, 3) := by decide +kernel
theorem dX4_spread_65 : decode cX4_spread 65 = .ok (.iload_n 1, 1) := by decide +kernel
theorem dX4_spread_66 : decode cX4_spread 66 = .ok (.iconst 0, 1) := by decide +kernel
theorem dX4_spread_67 : decode cX4_spread 67 = .ok (.invokestatic 55, 3) := by decide +kernel
theorem dX4_spread_70 : decode cX4_spread 70 = .ok (.aload_n 0, 1) := by decide +kernel
theorem dX4_spread_71 : decode cX4_spread 71 = .ok (.getfield 24, 3) := by decide +kernel
theorem dX4_spread_74 : decode cX4_spread 74 = .ok (.iload_n 1, 1) := by decide +kernel
theorem dX4_spread_75 : decode cX4_spread 75 = .ok (.iconst 1, 1) := by decide +kernel
theorem dX4_spread_76 : decode cX4_spread 76 = .ok (.invokestatic 55, 3) := by decide +kernel
theorem dX4_spread_79 : decode cX4_spread 79 = .ok (.iinc 1 1, 3) := by decide +kernel
theorem dX4_spread_82 : decode cX4_spread 82 = .ok (.goto (-80), 3) := by decide +kernel
theorem dX4_spread_85 : decode cX4_spread 85 = .ok (.aload_n 0, 1) := by decide +kernel
theorem dX4_spread_86 : decode cX4_spread 86 = .ok (.invokevirtual 88, 3) := by decide +kernel
theorem dX4_spread_89 : decode cX4_spread 89 = .ok (.return_, 1) := by decide +kernel
theorem dX4_turn_0 : decode cX4_turn 0 = .ok (.iconst 0, 1) := by decide +kernel
theorem dX4_turn_1 : decode cX4_turn 1 = .ok (.istore 5, 2) := by decide +kernel
theorem dX4_turn_3 : decode cX4_turn 3 = .ok (.iload 5, 2) := by decide +kernel
theorem dX4_turn_5 : decode cX4_turn 5 = .ok (.aload_n 0, 1) := by decide +kernel
theorem dX4_turn_6 : decode cX4_turn 6 = .ok (.getfield 44, 3) := by decide +kernel
theorem dX4_turn_9 : decode cX4_turn 9 = .ok (.getfield 73, 3) := by decide +kernel
theorem dX4_turn_12 : decode cX4_turn 12 = .ok (.if_icmp .ge 29, 3) := by decide +kernel
theorem dX4_turn_15 : decode cX4_turn 15 = .ok (.aload_n 0, 1) := by decide +kernel
theorem dX4_turn_16 : decode cX4_turn 16 = .ok (.getfield 21, 3) := by decide +kernel
theorem dX4_turn_19 : decode cX4_turn 19 = .ok (.iload 5, 2) := by decide +kernel
theorem dX4_turn_21 : decode cX4_turn 21 = .ok (.aload_n 0, 1) := by decide +kernel
theorem dX4_turn_22 : decode cX4_turn 22 = .ok (.iload 5, 2) := by decide +kernel
theorem dX4_turn_24 : decode cX4_turn 24 = .ok (.iload_n 1, 1) := by decide +kernel
theorem dX4_turn_25 : decode cX4_turn 25 = .ok (.iload_n 2, 1) := by decide +kernel
theorem dX4_turn_26 : decode cX4_turn 26 = .ok (.iload_n 3, 1) := by decide +kernel
theorem dX4_turn_27 : decode cX4_turn 27 = .ok (.iload 4, 2) := by decide +kernel
theorem dX4_turn_29 : decode cX4_turn 29 = .ok (.invokevirtual 91, 3) := by decide +kernel
theorem dX4_turn_32 : decode cX4_turn 32 = .ok (.invokestatic 55, 3) := by decide +kernel
theorem dX4_turn_35 : decode cX4_turn 35 = .ok (.iinc 5 1, 3) := by decide +kernel
theorem dX4_turn_38 : decode cX4_turn 38 = .ok (.goto (-35), 3) := by decide +kernel
theorem dX4_turn_41 : decode cX4_turn 41 = .ok (.iconst 0, 1) := by decide +kernel
theorem dX4_turn_42 : decode cX4_turn 42 = .ok (.istore 5, 2) := by decide +kernel
theorem dX4_turn_44 : decode cX4_turn 44 = .ok (.iload 5, 2) := by decide +kernel
theorem dX4_turn_46 : decode cX4_turn 46 = .ok (.aload_n 0, 1) := by decide +kernel
theorem dX4_turn_47 : decode cX4_turn 47 = .ok (.getfield 44, 3) := by decide +kernel
theorem dX4_turn_50 : decode cX4_turn 50 = .ok (.getfield 73, 3) := by decide +kernel
theorem dX4_turn_53 : decode cX4_turn 53 = .ok (.if_icmp .ge 29, 3) := by decide +kernel
theorem dX4_turn_56 : decode cX4_turn 56 = .ok (.aload_n 0, 1) := by decide +kernel
theorem dX4_turn_57 : decode cX4_turn 57 = .ok (.iload 5, 2) := by decide +kernel
theorem dX4_turn_59 : decode cX4_turn 59 = .ok (.iload_n 1, 1) := by decide +kernel
theorem dX4_turn_60 : decode cX4_turn 60 = .ok (.iload_n 2, 1) := by decide +kernel
theorem dX4_turn_61 : decode cX4_turn 61 = .ok (.iload_n 3, 1) := by decide +kernel
theorem dX4_turn_62 : decode cX4_turn 62 = .ok (.invokevirtual 95, 3) := by decide +kernel
theorem dX4_turn_65 : decode cX4_turn 65 = .ok (.ifCond .eq 11, 3) := by decide +kernel
theorem dX4_turn_68 : decode cX4_turn 68 = .ok (.aload_n 0, 1) := by decide +kernel
theorem dX4_turn_69 : decode cX4_turn 69 = .ok (.iload 5, 2) := by decide +kernel
theorem dX4_turn_71 : decode cX4_turn 71 = .ok (.iload_n 1, 1) := by decide +kernel
theorem dX4_turn_72 : decode cX4_turn 72 = .ok (.iload_n 2, 1) := by decide +kernel
theorem dX4_turn_73 : decode cX4_turn 73 = .ok (.invokevirtual 99, 3) := by decide +kernel
theorem dX4_turn_76 : decode cX4_turn 76 = .ok (.iinc 5 1, 3) := by decide +kernel
theorem dX4_turn_79 : decode cX4_turn 79 = .ok (.goto (-35), 3) := by decide +kernel
theorem dX4_turn_82 : decode cX4_turn 82 = .ok (.aload_n 0, 1) := by decide +kernel
theorem dX4_turn_83 : decode cX4_turn 83 = .ok (.invokevirtual 88, 3) := by decide +kernel
theorem dX4_turn_86 : decode cX4_turn 86 = .ok (.return_, 1) := by decide +kernel
theorem dX4_layerBehind_0 : decode cX4_layerBehind 0 = .ok (.aload_n 0, 1) := by decide +kernel
theorem dX4_layerBehind_1 : decode cX4_layerBehind 1 = .ok (.getfield 29, 3) := by decide +kernel
theorem dX4_layerBehind_4 : decode cX4_layerBehind 4 = .ok (.aload_n 0, 1) := by decide +kernel
theorem dX4_layerBehind_5 : decode cX4_layerBehind 5 = .ok (.iload_n 1, 1) := by decide +kernel
theorem dX4_layerBehind_6 : decode cX4_layerBehind 6 = .ok (.iload_n 2, 1) := by decide +kernel
theorem dX4_layerBehind_7 : decode cX4_layerBehind 7 = .ok (.iload_n 3, 1) := by decide +kernel
theorem dX4_layerBehind_8 : decode cX4_layerBehind 8 = .ok (.invokevirtual 103, 3) := by decide +kernel
theorem dX4_layerBehind_11 : decode cX4_layerBehind 11 = .ok (.invokestatic 69, 3) := by decide +kernel
theorem dX4_layerBehind_14 : decode cX4_layerBehind 14 = .ok (.istore 6, 2) := by decide +kernel
theorem dX4_layerBehind_16 : decode cX4_layerBehind 16 = .ok (.aload_n 0, 1) := by decide +kernel
theorem dX4_layerBehind_17 : decode cX4_layerBehind 17 = .ok (.iload_n 1, 1) := by decide +kernel
theorem dX4_layerBehind_18 : decode cX4_layerBehind 18 = .ok (.iload_n 2, 1) := by decide +kernel
theorem dX4_layerBehind_19 : decode cX4_layerBehind 19 = .ok (.iload_n 3, 1) := by decide +kernel
theorem dX4_layerBehind_20 : decode cX4_layerBehind 20 = .ok (.iload 4, 2) := by decide +kernel
theorem dX4_layerBehind_22 : decode cX4_layerBehind 22 = .ok (.invokevirtual 95, 3) := by decide +kernel
theorem dX4_layerBehind_25 : decode cX4_layerBehind 25 = .ok (.ifCond .eq 34, 3) := by decide +kernel
theorem dX4_layerBehind_28 : decode cX4_layerBehind 28 = .ok (.aload_n 0, 1) := by decide +kernel
theorem dX4_layerBehind_29 : decode cX4_layerBehind 29 = .ok (.iload_n 1, 1) := by decide +kernel
theorem dX4_layerBehind_30 : decode cX4_layerBehind 30 = .ok (.invokevirtual 107, 3) := by decide +kernel
theorem dX4_layerBehind_33 : decode cX4_layerBehind 33 = .ok (.iconst 1, 1) := by decide +kernel
theorem dX4_layerBehind_34 : decode cX4_layerBehind 34 = .ok (.isub, 1) := by decide +kernel
theorem dX4_layerBehind_35 : decode cX4_layerBehind 35 = .ok (.aload_n 0, 1) := by decide +kernel
theorem dX4_layerBehind_36 : decode cX4_layerBehind 36 = .ok (.iload_n 1, 1) := by decide +kernel
theorem dX4_layerBehind_37 : decode cX4_layerBehind 37 = .ok (.invokevirtual 110, 3) := by decide +kernel
theorem dX4_layerBehind_40 : decode cX4_layerBehind 40 = .ok (.isub, 1) := by decide +kernel
theorem dX4_layerBehind_41 : decode cX4_layerBehind 41 = .ok (.istore 7, 2) := by decide +kernel
theorem dX4_layerBehind_43 : decode cX4_layerBehind 43 = .ok (.iload 5, 2) := by decide +kernel
theorem dX4_layerBehind_45 : decode cX4_layerBehind 45 = .ok (.ifCond .eq 11, 3) := by decide +kernel
theorem dX4_layerBehind_48 : decode cX4_layerBehind 48 = .ok (.iload 6, 2) := by decide +kernel
theorem dX4_layerBehind_50 : decode cX4_layerBehind 50 = .ok (.iload 7, 2) := by decide +kernel
theorem dX4_layerBehind_52 : decode cX4_layerBehind 52 = .ok (.iadd, 1) := by decide +kernel
theorem dX4_layerBehind_53 : decode cX4_layerBehind 53 = .ok (.goto 5, 3) := by decide +kernel
theorem dX4_layerBehind_56 : decode cX4_layerBehind 56 = .ok (.iload 7, 2) := by decide +kernel
theorem dX4_layerBehind_58 : decode cX4_layerBehind 58 = .ok (.ireturn, 1) := by decide +kernel
theorem dX4_layerBehind_59 : decode cX4_layerBehind 59 = .ok (.iload 5, 2) := by decide +kernel
theorem dX4_layerBehind_61 : decode cX4_layerBehind 61 = .ok (.ifCond .eq 11, 3) := by decide +kernel
theorem dX4_layerBehind_64 : decode cX4_layerBehind 64 = .ok (.aload_n 0, 1) := by decide +kernel
theorem dX4_layerBehind_65 : decode cX4_layerBehind 65 = .ok (.iload_n 1, 1) := by decide +kernel
theorem dX4_layerBehind_66 : decode cX4_layerBehind 66 = .ok (.invokevirtual 110, 3) := by decide +kernel
theorem dX4_layerBehind_69 : decode cX4_layerBehind 69 = .ok (.goto 11, 3) := by decide +kernel
theorem dX4_layerBehind_72 : decode cX4_layerBehind 72 = .ok (.iload 6, 2) := by decide +kernel
theorem dX4_layerBehind_74 : decode cX4_layerBehind 74 = .ok (.aload_n 0, 1) := by decide +kernel
theorem dX4_layerBehind_75 : decode cX4_layerBehind 75 = .ok (.iload_n 1, 1) := by decide +kernel
theorem dX4_layerBehind_76 : decode cX4_layerBehind 76 = .ok (.invokevirtual 110, 3) := by decide +kernel
theorem dX4_layerBehind_79 : decode cX4_layerBehind 79 = .ok (.iadd, 1) := by decide +kernel
theorem dX4_layerBehind_80 : decode cX4_layerBehind 80 = .ok (.ireturn, 1) := by decide +kernel
theorem dX4_flip_0 : decode cX4_flip 0 = .ok (.iload_n 2, 1) := by decide +kernel
theorem dX4_flip_1 : decode cX4_flip 1 = .ok (.iload_n 3, 1) := by decide +kernel
theorem dX4_flip_2 : decode cX4_flip 2 = .ok (.aload_n 0, 1) := by decide +kernel
theorem dX4_flip_3 : decode cX4_flip 3 = .ok (.iload_n 1, 1) := by decide +kernel
theorem dX4_flip_4 : decode cX4_flip 4 = .ok (.invokevirtual 113, 3) := by decide +kernel
theorem dX4_flip_7 : decode cX4_flip 7 = .ok (.aload_n 0, 1) := by decide +kernel
theorem dX4_flip_8 : decode cX4_flip 8 = .ok (.iload_n 1, 1) := by decide +kernel
theorem dX4_flip_9 : decode cX4_flip 9 = .ok (.invokevirtual 114, 3) := by decide +kernel
theorem dX4_flip_12 : decode cX4_flip 12 = .ok (.invokestatic 115, 3) := by decide +kernel
theorem dX4_flip_15 : decode cX4_flip 15 = .ok (.istore 4, 2) := by decide +kernel
theorem dX4_flip_17 : decode cX4_flip 17 = .ok (.iload_n 2, 1) := by decide +kernel
theorem dX4_flip_18 : decode cX4_flip 18 = .ok (.iload_n 3, 1) := by decide +kernel
theorem dX4_flip_19 : decode cX4_flip 19 = .ok (.aload_n 0, 1) := by decide +kernel
theorem dX4_flip_20 : decode cX4_flip 20 = .ok (.iload_n 1, 1) := by decide +kernel
theorem dX4_flip_21 : decode cX4_flip 21 = .ok (.invokevirtual 113, 3) := by decide +kernel
theorem dX4_flip_24 : decode cX4_flip 24 = .ok (.aload_n 0, 1) := by decide +kernel
theorem dX4_flip_25 : decode cX4_flip 25 = .ok (.iload_n 1, 1) := by decide +kernel
theorem dX4_flip_26 : decode cX4_flip 26 = .ok (.invokevirtual 114, 3) := by decide +kernel
theorem dX4_flip_29 : decode cX4_flip 29 = .ok (.invokestatic 119, 3) := by decide +kernel
theorem dX4_flip_32 : decode cX4_flip 32 = .ok (.istore 5, 2) := by decide +kernel
theorem dX4_flip_34 : decode cX4_flip 34 = .ok (.aload_n 0, 1) := by decide +kernel
theorem dX4_flip_35 : decode cX4_flip 35 = .ok (.getfield 9, 3) := by decide +kernel
theorem dX4_flip_38 : decode cX4_flip 38 = .ok (.iload_n 1, 1) := by decide +kernel
theorem dX4_flip_39 : decode cX4_flip 39 = .ok (.iload 4, 2) := by decide +kernel
theorem dX4_flip_41 : decode cX4_flip 41 = .ok (.invokestatic 55, 3) := by decide +kernel
theorem dX4_flip_44 : decode cX4_flip 44 = .ok (.aload_n 0, 1) := by decide +kernel
theorem dX4_flip_45 : decode cX4_flip 45 = .ok (.getfield 15, 3) := by decide +kernel
theorem dX4_flip_48 : decode cX4_flip 48 = .ok (.iload_n 1, 1) := by decide +kernel
theorem dX4_flip_49 : decode cX4_flip 49 = .ok (.iload 5, 2) := by decide +kernel
theorem dX4_flip_51 : decode cX4_flip 51 = .ok (.invokestatic 55, 3) := by decide +kernel
theorem dX4_flip_54 : decode cX4_flip 54 = .ok (.aload_n 0, 1) := by decide +kernel
theorem dX4_flip_55 : decode cX4_flip 55 = .ok (.getfield 18, 3) := by decide +kernel
theorem dX4_flip_58 : decode cX4_flip 58 = .ok (.iload_n 1, 1) := by decide +kernel
theorem dX4_flip_59 : decode cX4_flip 59 = .ok (.iload_n 2, 1) := by decide +kernel
theorem dX4_flip_60 : decode cX4_flip 60 = .ok (.aload_n 0, 1) := by decide +kernel
theorem dX4_flip_61 : decode cX4_flip 61 = .ok (.iload_n 1, 1) := by decide +kernel
theorem dX4_flip_62 : decode cX4_flip 62 = .ok (.invokevirtual 122, 3) := by decide +kernel
theorem dX4_flip_65 : decode cX4_flip 65 = .ok (.invokestatic 123, 3) := by decide +kernel
theorem dX4_flip_68 : decode cX4_flip 68 = .ok (.invokestatic 55, 3) := by decide +kernel
theorem dX4_flip_71 : decode cX4_flip 71 = .ok (.aload_n 0, 1) := by decide +kernel
theorem dX4_flip_72 : decode cX4_flip 72 = .ok (.getfield 24, 3) := by decide +kernel
theorem dX4_flip_75 : decode cX4_flip 75 = .ok (.iload_n 1, 1) := by decide +kernel
theorem dX4_flip_76 : decode cX4_flip 76 = .ok (.aload_n 0, 1) := by decide +kernel
theorem dX4_flip_77 : decode cX4_flip 77 = .ok (.iload_n 1, 1) := by decide +kernel
theorem dX4_flip_78 : decode cX4_flip 78 = .ok (.invokevirtual 127, 3) := by decide +kernel
theorem dX4_flip_81 : decode cX4_flip 81 = .ok (.ifCond .ne 7, 3) := by decide +kernel
theorem dX4_flip_84 : decode cX4_flip 84 = .ok (.iconst 1, 1) := by decide +kernel
theorem dX4_flip_85 : decode cX4_flip 85 = .ok (.goto 4, 3) := by decide +kernel
theorem dX4_flip_88 : decode cX4_flip 88 = .ok (.iconst 0, 1) := by decide +kernel
theorem dX4_flip_89 : decode cX4_flip 89 = .ok (.invokestatic 61, 3) := by decide +kernel
theorem dX4_flip_92 : decode cX4_flip 92 = .ok (.invokestatic 55, 3) := by decide +kernel
theorem dX4_flip_95 : decode cX4_flip 95 = .ok (.return_, 1) := by decide +kernel
theorem dX4_measure_0 : decode cX4_measure 0 = .ok (.aload_n 0, 1) := by decide +kernel
theorem dX4_measure_1 : decode cX4_measure 1 = .ok (.getfield 29, 3) := by decide +kernel
theorem dX4_measure_4 : decode cX4_measure 4 = .ok (.iconst 0, 1) := by decide +kernel
theorem dX4_measure_5 : decode cX4_measure 5 = .ok (.invokestatic 131, 3) := by decide +kernel
theorem dX4_measure_8 : decode cX4_measure 8 = .ok (.iconst 0, 1) := by decide +kernel
theorem dX4_measure_9 : decode cX4_measure 9 = .ok (.istore_n 1, 1) := by decide +kernel
theorem dX4_measure_10 : decode cX4_measure 10 = .ok (.iload_n 1, 1) := by decide +kernel
theorem dX4_measure_11 : decode cX4_measure 11 = .ok (.aload_n 0, 1) := by decide +kernel
theorem dX4_measure_12 : decode cX4_measure 12 = .ok (.getfield 44, 3) := by decide +kernel
theorem dX4_measure_15 : decode cX4_measure 15 = .ok (.getfield 73, 3) := by decide +kernel
theorem dX4_measure_18 : decode cX4_measure 18 = .ok (.if_icmp .ge 33, 3) := by decide +kernel
theorem dX4_measure_21 : decode cX4_measure 21 = .ok (.aload_n 0, 1) := by decide +kernel
theorem dX4_measure_22 : decode cX4_measure 22 = .ok (.iload_n 1, 1) := by decide +kernel
theorem dX4_measure_23 : decode cX4_measure 23 = .ok (.invokevirtual 135, 3) := by decide +kernel
theorem dX4_measure_26 : decode cX4_measure 26 = .ok (.istore_n 2, 1) := by decide +kernel
theorem dX4_measure_27 : decode cX4_measure 27 = .ok (.aload_n 0, 1) := by decide +kernel
theorem dX4_measure_28 : decode cX4_measure 28 = .ok (.getfield 29, 3) := by decide +kernel
theorem dX4_measure_31 : decode cX4_measure 31 = .ok (.iload_n 2, 1) := by decide +kernel
theorem dX4_measure_32 : decode cX4_measure 32 = .ok (.aload_n 0, 1) := by decide +kernel
theorem dX4_measure_33 : decode cX4_measure 33 = .ok (.getfield 29, 3) := by decide +kernel
theorem dX4_measure_36 : decode cX4_measure 36 = .ok (.iload_n 2, 1) := by decide +kernel
theorem dX4_measure_37 : decode cX4_measure 37 = .ok (.invokestatic 69, 3) := by decide +kernel
theorem dX4_measure_40 : decode cX4_measure 40 = .ok (.iconst 1, 1) := by decide +kernel
theorem dX4_measure_41 : decode cX4_measure 41 = .ok (.iadd, 1) := by decide +kernel
theorem dX4_measure_42 : decode cX4_measure 42 = .ok (.invokestatic 55, 3) := by decide +kernel
theorem dX4_measure_45 : decode cX4_measure 45 = .ok (.iinc 1 1, 3) := by decide +kernel
theorem dX4_measure_48 : decode cX4_measure 48 = .ok (.goto (-38), 3) := by decide +kernel
theorem dX4_measure_51 : decode cX4_measure 51 = .ok (.return_, 1) := by decide +kernel
theorem dX4_spot_0 : decode cX4_spot 0 = .ok (.aload_n 0, 1) := by decide +kernel
theorem dX4_spot_1 : decode cX4_spot 1 = .ok (.getfield 9, 3) := by decide +kernel
theorem dX4_spot_4 : decode cX4_spot 4 = .ok (.iload_n 1, 1) := by decide +kernel
theorem dX4_spot_5 : decode cX4_spot 5 = .ok (.invokestatic 69, 3) := by decide +kernel
theorem dX4_spot_8 : decode cX4_spot 8 = .ok (.aload_n 0, 1) := by decide +kernel
theorem dX4_spot_9 : decode cX4_spot 9 = .ok (.getfield 15, 3) := by decide +kernel
theorem dX4_spot_12 : decode cX4_spot 12 = .ok (.iload_n 1, 1) := by decide +kernel
theorem dX4_spot_13 : decode cX4_spot 13 = .ok (.invokestatic 69, 3) := by decide +kernel
theorem dX4_spot_16 : decode cX4_spot 16 = .ok (.aload_n 0, 1) := by decide +kernel
theorem dX4_spot_17 : decode cX4_spot 17 = .ok (.getfield 18, 3) := by decide +kernel
theorem dX4_spot_20 : decode cX4_spot 20 = .ok (.iload_n 1, 1) := by decide +kernel
theorem dX4_spot_21 : decode cX4_spot 21 = .ok (.invokestatic 69, 3) := by decide +kernel
theorem dX4_spot_24 : decode cX4_spot 24 = .ok (.invokestatic 138, 3) := by decide +kernel
theorem dX4_spot_27 : decode cX4_spot 27 = .ok (.ireturn, 1) := by decide +kernel
theorem dX4_mirrorSpot_0 : decode cX4_mirrorSpot 0 = .ok (.iload_n 2, 1) := by decide +kernel
theorem dX4_mirrorSpot_1 : decode cX4_mirrorSpot 1 = .ok (.iload_n 3, 1) := by decide +kernel
theorem dX4_mirrorSpot_2 : decode cX4_mirrorSpot 2 = .ok (.aload_n 0, 1) := by decide +kernel
theorem dX4_mirrorSpot_3 : decode cX4_mirrorSpot 3 = .ok (.iload_n 1, 1) := by decide +kernel
theorem dX4_mirrorSpot_4 : decode cX4_mirrorSpot 4 = .ok (.invokevirtual 113, 3) := by decide +kernel
theorem dX4_mirrorSpot_7 : decode cX4_mirrorSpot 7 = .ok (.aload_n 0, 1) := by decide +kernel
theorem dX4_mirrorSpot_8 : decode cX4_mirrorSpot 8 = .ok (.iload_n 1, 1) := by decide +kernel
theorem dX4_mirrorSpot_9 : decode cX4_mirrorSpot 9 = .ok (.invokevirtual 114, 3) := by decide +kernel
theorem dX4_mirrorSpot_12 : decode cX4_mirrorSpot 12 = .ok (.invokestatic 115, 3) := by decide +kernel
theorem dX4_mirrorSpot_15 : decode cX4_mirrorSpot 15 = .ok (.istore 4, 2) := by decide +kernel
theorem dX4_mirrorSpot_17 : decode cX4_mirrorSpot 17 = .ok (.iload_n 2, 1) := by decide +kernel
theorem dX4_mirrorSpot_18 : decode cX4_mirrorSpot 18 = .ok (.iload_n 3, 1) := by decide +kernel
theorem dX4_mirrorSpot_19 : decode cX4_mirrorSpot 19 = .ok (.aload_n 0, 1) := by decide +kernel
theorem dX4_mirrorSpot_20 : decode cX4_mirrorSpot 20 = .ok (.iload_n 1, 1) := by decide +kernel
theorem dX4_mirrorSpot_21 : decode cX4_mirrorSpot 21 = .ok (.invokevirtual 113, 3) := by decide +kernel
theorem dX4_mirrorSpot_24 : decode cX4_mirrorSpot 24 = .ok (.aload_n 0, 1) := by decide +kernel
theorem dX4_mirrorSpot_25 : decode cX4_mirrorSpot 25 = .ok (.iload_n 1, 1) := by decide +kernel
theorem dX4_mirrorSpot_26 : decode cX4_mirrorSpot 26 = .ok (.invokevirtual 114, 3) := by decide +kernel
theorem dX4_mirrorSpot_29 : decode cX4_mirrorSpot 29 = .ok (.invokestatic 119, 3) := by decide +kernel
theorem dX4_mirrorSpot_32 : decode cX4_mirrorSpot 32 = .ok (.istore 5, 2) := by decide +kernel
theorem dX4_mirrorSpot_34 : decode cX4_mirrorSpot 34 = .ok (.iload 4, 2) := by decide +kernel
theorem dX4_mirrorSpot_36 : decode cX4_mirrorSpot 36 = .ok (.iload 5, 2) := by decide +kernel
theorem dX4_mirrorSpot_38 : decode cX4_mirrorSpot 38 = .ok (.iload_n 2, 1) := by decide +kernel
theorem dX4_mirrorSpot_39 : decode cX4_mirrorSpot 39 = .ok (.aload_n 0, 1) := by decide +kernel
theorem dX4_mirrorSpot_40 : decode cX4_mirrorSpot 40 = .ok (.iload_n 1, 1) := by decide +kernel
theorem dX4_mirrorSpot_41 : decode cX4_mirrorSpot 41 = .ok (.invokevirtual 122, 3) := by decide +kernel
theorem dX4_mirrorSpot_44 : decode cX4_mirrorSpot 44 = .ok (.invokestatic 123, 3) := by decide +kernel
theorem dX4_mirrorSpot_47 : decode cX4_mirrorSpot 47 = .ok (.invokestatic 138, 3) := by decide +kernel
theorem dX4_mirrorSpot_50 : decode cX4_mirrorSpot 50 = .ok (.ireturn, 1) := by decide +kernel
theorem dX4_x_0 : decode cX4_x 0 = .ok (.aload_n 0, 1) := by decide +kernel
theorem dX4_x_1 : decode cX4_x 1 = .ok (.getfield 9, 3) := by decide +kernel
theorem dX4_x_4 : decode cX4_x 4 = .ok (.iload_n 1, 1) := by decide +kernel
theorem dX4_x_5 : decode cX4_x 5 = .ok (.invokestatic 69, 3) := by decide +kernel
theorem dX4_x_8 : decode cX4_x 8 = .ok (.ireturn, 1) := by decide +kernel
theorem dX4_y_0 : decode cX4_y 0 = .ok (.aload_n 0, 1) := by decide +kernel
theorem dX4_y_1 : decode cX4_y 1 = .ok (.getfield 15, 3) := by decide +kernel
theorem dX4_y_4 : decode cX4_y 4 = .ok (.iload_n 1, 1) := by decide +kernel
theorem dX4_y_5 : decode cX4_y 5 = .ok (.invokestatic 69, 3) := by decide +kernel
theorem dX4_y_8 : decode cX4_y 8 = .ok (.ireturn, 1) := by decide +kernel
theorem dX4_quarter_0 : decode cX4_quarter 0 = .ok (.aload_n 0, 1) := by decide +kernel
theorem dX4_quarter_1 : decode cX4_quarter 1 = .ok (.getfield 18, 3) := by decide +kernel
theorem dX4_quarter_4 : decode cX4_quarter 4 = .ok (.iload_n 1, 1) := by decide +kernel
theorem dX4_quarter_5 : decode cX4_quarter 5 = .ok (.invokestatic 69, 3) := by decide +kernel
theorem dX4_quarter_8 : decode cX4_quarter 8 = .ok (.ireturn, 1) := by decide +kernel
theorem dX4_layer_0 : decode cX4_layer 0 = .ok (.aload_n 0, 1) := by decide +kernel
theorem dX4_layer_1 : decode cX4_layer 1 = .ok (.getfield 21, 3) := by decide +kernel
theorem dX4_layer_4 : decode cX4_layer 4 = .ok (.iload_n 1, 1) := by decide +kernel
theorem dX4_layer_5 : decode cX4_layer 5 = .ok (.invokestatic 69, 3) := by decide +kernel
theorem dX4_layer_8 : decode cX4_layer 8 = .ok (.ireturn, 1) := by decide +kernel
theorem dX4_isUp_0 : decode cX4_isUp 0 = .ok (.aload_n 0, 1) := by decide +kernel
theorem dX4_isUp_1 : decode cX4_isUp 1 = .ok (.getfield 24, 3) := by decide +kernel
theorem dX4_isUp_4 : decode cX4_isUp 4 = .ok (.iload_n 1, 1) := by decide +kernel
theorem dX4_isUp_5 : decode cX4_isUp 5 = .ok (.invokestatic 69, 3) := by decide +kernel
theorem dX4_isUp_8 : decode cX4_isUp 8 = .ok (.iconst 1, 1) := by decide +kernel
theorem dX4_isUp_9 : decode cX4_isUp 9 = .ok (.if_icmp .ne 7, 3) := by decide +kernel
theorem dX4_isUp_12 : decode cX4_isUp 12 = .ok (.iconst 1, 1) := by decide +kernel
theorem dX4_isUp_13 : decode cX4_isUp 13 = .ok (.goto 4, 3) := by decide +kernel
theorem dX4_isUp_16 : decode cX4_isUp 16 = .ok (.iconst 0, 1) := by decide +kernel
theorem dX4_isUp_17 : decode cX4_isUp 17 = .ok (.ireturn, 1) := by decide +kernel
theorem dX4_heightOver_0 : decode cX4_heightOver 0 = .ok (.aload_n 0, 1) := by decide +kernel
theorem dX4_heightOver_1 : decode cX4_heightOver 1 = .ok (.getfield 29, 3) := by decide +kernel
theorem dX4_heightOver_4 : decode cX4_heightOver 4 = .ok (.aload_n 0, 1) := by decide +kernel
theorem dX4_heightOver_5 : decode cX4_heightOver 5 = .ok (.iload_n 1, 1) := by decide +kernel
theorem dX4_heightOver_6 : decode cX4_heightOver 6 = .ok (.invokevirtual 135, 3) := by decide +kernel
theorem dX4_heightOver_9 : decode cX4_heightOver 9 = .ok (.invokestatic 69, 3) := by decide +kernel
theorem dX4_heightOver_12 : decode cX4_heightOver 12 = .ok (.ireturn, 1) := by decide +kernel
theorem dX4_isOn_0 : decode cX4_isOn 0 = .ok (.iload_n 2, 1) := by decide +kernel
theorem dX4_isOn_1 : decode cX4_isOn 1 = .ok (.aload_n 0, 1) := by decide +kernel
theorem dX4_isOn_2 : decode cX4_isOn 2 = .ok (.iload_n 1, 1) := by decide +kernel
theorem dX4_isOn_3 : decode cX4_isOn 3 = .ok (.invokevirtual 113, 3) := by decide +kernel
theorem dX4_isOn_6 : decode cX4_isOn 6 = .ok (.aload_n 0, 1) := by decide +kernel
theorem dX4_isOn_7 : decode cX4_isOn 7 = .ok (.iload_n 1, 1) := by decide +kernel
theorem dX4_isOn_8 : decode cX4_isOn 8 = .ok (.invokevirtual 114, 3) := by decide +kernel
theorem dX4_isOn_11 : decode cX4_isOn 11 = .ok (.aload_n 0, 1) := by decide +kernel
theorem dX4_isOn_12 : decode cX4_isOn 12 = .ok (.iload_n 1, 1) := by decide +kernel
theorem dX4_isOn_13 : decode cX4_isOn 13 = .ok (.invokevirtual 122, 3) := by decide +kernel
theorem dX4_isOn_16 : decode cX4_isOn 16 = .ok (.invokestatic 140, 3) := by decide +kernel
theorem dX4_isOn_19 : decode cX4_isOn 19 = .ok (.iload_n 3, 1) := by decide +kernel
theorem dX4_isOn_20 : decode cX4_isOn 20 = .ok (.iload 4, 2) := by decide +kernel
theorem dX4_isOn_22 : decode cX4_isOn 22 = .ok (.invokestatic 143, 3) := by decide +kernel
theorem dX4_isOn_25 : decode cX4_isOn 25 = .ok (.ireturn, 1) := by decide +kernel
theorem dX4_lying_0 : decode cX4_lying 0 = .ok (.iconst 0, 1) := by decide +kernel
theorem dX4_lying_1 : decode cX4_lying 1 = .ok (.istore 4, 2) := by decide +kernel
theorem dX4_lying_3 : decode cX4_lying 3 = .ok (.iconst 0, 1) := by decide +kernel
theorem dX4_lying_4 : decode cX4_lying 4 = .ok (.istore 5, 2) := by decide +kernel
theorem dX4_lying_6 : decode cX4_lying 6 = .ok (.iload 5, 2) := by decide +kernel
theorem dX4_lying_8 : decode cX4_lying 8 = .ok (.aload_n 0, 1) := by decide +kernel
theorem dX4_lying_9 : decode cX4_lying 9 = .ok (.getfield 44, 3) := by decide +kernel
theorem dX4_lying_12 : decode cX4_lying 12 = .ok (.getfield 73, 3) := by decide +kernel
theorem dX4_lying_15 : decode cX4_lying 15 = .ok (.if_icmp .ge 26, 3) := by decide +kernel
theorem dX4_lying_18 : decode cX4_lying 18 = .ok (.iload 4, 2) := by decide +kernel
theorem dX4_lying_20 : decode cX4_lying 20 = .ok (.aload_n 0, 1) := by decide +kernel
theorem dX4_lying_21 : decode cX4_lying 21 = .ok (.iload 5, 2) := by decide +kernel
theorem dX4_lying_23 : decode cX4_lying 23 = .ok (.iload_n 1, 1) := by decide +kernel
theorem dX4_lying_24 : decode cX4_lying 24 = .ok (.iload_n 2, 1) := by decide +kernel
theorem dX4_lying_25 : decode cX4_lying 25 = .ok (.iload_n 3, 1) := by decide +kernel
theorem dX4_lying_26 : decode cX4_lying 26 = .ok (.invokevirtual 95, 3) := by decide +kernel
theorem dX4_lying_29 : decode cX4_lying 29 = .ok (.invokestatic 61, 3) := by decide +kernel
theorem dX4_lying_32 : decode cX4_lying 32 = .ok (.iadd, 1) := by decide +kernel
theorem dX4_lying_33 : decode cX4_lying 33 = .ok (.istore 4, 2) := by decide +kernel
theorem dX4_lying_35 : decode cX4_lying 35 = .ok (.iinc 5 1, 3) := by decide +kernel
theorem dX4_lying_38 : decode cX4_lying 38 = .ok (.goto (-32), 3) := by decide +kernel
theorem dX4_lying_41 : decode cX4_lying 41 = .ok (.iload 4, 2) := by decide +kernel
theorem dX4_lying_43 : decode cX4_lying 43 = .ok (.ireturn, 1) := by decide +kernel
theorem dX4_isCrossed_0 : decode cX4_isCrossed 0 = .ok (.aload_n 0, 1) := by decide +kernel
theorem dX4_isCrossed_1 : decode cX4_isCrossed 1 = .ok (.iload_n 1, 1) := by decide +kernel
theorem dX4_isCrossed_2 : decode cX4_isCrossed 2 = .ok (.iload_n 2, 1) := by decide +kernel
theorem dX4_isCrossed_3 : decode cX4_isCrossed 3 = .ok (.iconst 0, 1) := by decide +kernel
theorem dX4_isCrossed_4 : decode cX4_isCrossed 4 = .ok (.invokevirtual 146, 3) := by decide +kernel
theorem dX4_isCrossed_7 : decode cX4_isCrossed 7 = .ok (.istore_n 3, 1) := by decide +kernel
theorem dX4_isCrossed_8 : decode cX4_isCrossed 8 = .ok (.iload_n 3, 1) := by decide +kernel
theorem dX4_isCrossed_9 : decode cX4_isCrossed 9 = .ok (.ifCond .le 18, 3) := by decide +kernel
theorem dX4_isCrossed_12 : decode cX4_isCrossed 12 = .ok (.iload_n 3, 1) := by decide +kernel
theorem dX4_isCrossed_13 : decode cX4_isCrossed 13 = .ok (.aload_n 0, 1) := by decide +kernel
theorem dX4_isCrossed_14 : decode cX4_isCrossed 14 = .ok (.getfield 44, 3) := by decide +kernel
theorem dX4_isCrossed_17 : decode cX4_isCrossed 17 = .ok (.getfield 73, 3) := by decide +kernel
theorem dX4_isCrossed_20 : decode cX4_isCrossed 20 = .ok (.if_icmp .ge 7, 3) := by decide +kernel
theorem dX4_isCrossed_23 : decode cX4_isCrossed 23 = .ok (.iconst 1, 1) := by decide +kernel
theorem dX4_isCrossed_24 : decode cX4_isCrossed 24 = .ok (.goto 4, 3) := by decide +kernel
theorem dX4_isCrossed_27 : decode cX4_isCrossed 27 = .ok (.iconst 0, 1) := by decide +kernel
theorem dX4_isCrossed_28 : decode cX4_isCrossed 28 = .ok (.ireturn, 1) := by decide +kernel
theorem dX4_find_0 : decode cX4_find 0 = .ok (.iconst 0, 1) := by decide +kernel
theorem dX4_find_1 : decode cX4_find 1 = .ok (.istore 5, 2) := by decide +kernel
theorem dX4_find_3 : decode cX4_find 3 = .ok (.iload 5, 2) := by decide +kernel
theorem dX4_find_5 : decode cX4_find 5 = .ok (.aload_n 0, 1) := by decide +kernel
theorem dX4_find_6 : decode cX4_find 6 = .ok (.getfield 44, 3) := by decide +kernel
theorem dX4_find_9 : decode cX4_find 9 = .ok (.getfield 73, 3) := by decide +kernel
theorem dX4_find_12 : decode cX4_find 12 = .ok (.if_icmp .ge 53, 3) := by decide +kernel
theorem dX4_find_15 : decode cX4_find 15 = .ok (.aload_n 0, 1) := by decide +kernel
theorem dX4_find_16 : decode cX4_find 16 = .ok (.iload 5, 2) := by decide +kernel
theorem dX4_find_18 : decode cX4_find 18 = .ok (.invokevirtual 113, 3) := by decide +kernel
theorem dX4_find_21 : decode cX4_find 21 = .ok (.iload_n 1, 1) := by decide +kernel
theorem dX4_find_22 : decode cX4_find 22 = .ok (.if_icmp .ne 37, 3) := by decide +kernel
theorem dX4_find_25 : decode cX4_find 25 = .ok (.aload_n 0, 1) := by decide +kernel
theorem dX4_find_26 : decode cX4_find 26 = .ok (.iload 5, 2) := by decide +kernel
theorem dX4_find_28 : decode cX4_find 28 = .ok (.invokevirtual 114, 3) := by decide +kernel
theorem dX4_find_31 : decode cX4_find 31 = .ok (.iload_n 2, 1) := by decide +kernel
theorem dX4_find_32 : decode cX4_find 32 = .ok (.if_icmp .ne 27, 3) := by decide +kernel
theorem dX4_find_35 : decode cX4_find 35 = .ok (.aload_n 0, 1) := by decide +kernel
theorem dX4_find_36 : decode cX4_find 36 = .ok (.iload 5, 2) := by decide +kernel
theorem dX4_find_38 : decode cX4_find 38 = .ok (.invokevirtual 122, 3) := by decide +kernel
theorem dX4_find_41 : decode cX4_find 41 = .ok (.iload_n 3, 1) := by decide +kernel
theorem dX4_find_42 : decode cX4_find 42 = .ok (.if_icmp .ne 17, 3) := by decide +kernel
theorem dX4_find_45 : decode cX4_find 45 = .ok (.aload_n 0, 1) := by decide +kernel
theorem dX4_find_46 : decode cX4_find 46 = .ok (.iload 5, 2) := by decide +kernel
theorem dX4_find_48 : decode cX4_find 48 = .ok (.invokevirtual 110, 3) := by decide +kernel
theorem dX4_find_51 : decode cX4_find 51 = .ok (.iload 4, 2) := by decide +kernel
theorem dX4_find_53 : decode cX4_find 53 = .ok (.if_icmp .ne 6, 3) := by decide +kernel
theorem dX4_find_56 : decode cX4_find 56 = .ok (.iload 5, 2) := by decide +kernel
theorem dX4_find_58 : decode cX4_find 58 = .ok (.ireturn, 1) := by decide +kernel
theorem dX4_find_59 : decode cX4_find 59 = .ok (.iinc 5 1, 3) := by decide +kernel
theorem dX4_find_62 : decode cX4_find 62 = .ok (.goto (-59), 3) := by decide +kernel
theorem dX4_find_65 : decode cX4_find 65 = .ok (.ldc 149, 2) := by decide +kernel
theorem dX4_find_67 : decode cX4_find 67 = .ok (.ireturn, 1) := by decide +kernel
theorem dX4_taken_0 : decode cX4_taken 0 = .ok (.iconst 0, 1) := by decide +kernel
theorem dX4_taken_1 : decode cX4_taken 1 = .ok (.istore_n 1, 1) := by decide +kernel
theorem dX4_taken_2 : decode cX4_taken 2 = .ok (.iconst 0, 1) := by decide +kernel
theorem dX4_taken_3 : decode cX4_taken 3 = .ok (.istore_n 2, 1) := by decide +kernel
theorem dX4_taken_4 : decode cX4_taken 4 = .ok (.iload_n 2, 1) := by decide +kernel
theorem dX4_taken_5 : decode cX4_taken 5 = .ok (.aload_n 0, 1) := by decide +kernel
theorem dX4_taken_6 : decode cX4_taken 6 = .ok (.getfield 44, 3) := by decide +kernel
theorem dX4_taken_9 : decode cX4_taken 9 = .ok (.getfield 73, 3) := by decide +kernel
theorem dX4_taken_12 : decode cX4_taken 12 = .ok (.if_icmp .ge 28, 3) := by decide +kernel
theorem dX4_taken_15 : decode cX4_taken 15 = .ok (.iload_n 1, 1) := by decide +kernel
theorem dX4_taken_16 : decode cX4_taken 16 = .ok (.aload_n 0, 1) := by decide +kernel
theorem dX4_taken_17 : decode cX4_taken 17 = .ok (.iload_n 2, 1) := by decide +kernel
theorem dX4_taken_18 : decode cX4_taken 18 = .ok (.invokevirtual 110, 3) := by decide +kernel
theorem dX4_taken_21 : decode cX4_taken 21 = .ok (.ifCond .ne 7, 3) := by decide +kernel
theorem dX4_taken_24 : decode cX4_taken 24 = .ok (.iconst 1, 1) := by decide +kernel
theorem dX4_taken_25 : decode cX4_taken 25 = .ok (.goto 4, 3) := by decide +kernel
theorem dX4_taken_28 : decode cX4_taken 28 = .ok (.iconst 0, 1) := by decide +kernel
theorem dX4_taken_29 : decode cX4_taken 29 = .ok (.invokestatic 61, 3) := by decide +kernel
theorem dX4_taken_32 : decode cX4_taken 32 = .ok (.iadd, 1) := by decide +kernel
theorem dX4_taken_33 : decode cX4_taken 33 = .ok (.istore_n 1, 1) := by decide +kernel
theorem dX4_taken_34 : decode cX4_taken 34 = .ok (.iinc 2 1, 3) := by decide +kernel
theorem dX4_taken_37 : decode cX4_taken 37 = .ok (.goto (-33), 3) := by decide +kernel
theorem dX4_taken_40 : decode cX4_taken 40 = .ok (.iload_n 1, 1) := by decide +kernel
theorem dX4_taken_41 : decode cX4_taken 41 = .ok (.ireturn, 1) := by decide +kernel
theorem dX4_highest_0 : decode cX4_highest 0 = .ok (.iconst 0, 1) := by decide +kernel
theorem dX4_highest_1 : decode cX4_highest 1 = .ok (.istore_n 1, 1) := by decide +kernel
theorem dX4_highest_2 : decode cX4_highest 2 = .ok (.iconst 0, 1) := by decide +kernel
theorem dX4_highest_3 : decode cX4_highest 3 = .ok (.istore_n 2, 1) := by decide +kernel
theorem dX4_highest_4 : decode cX4_highest 4 = .ok (.iload_n 2, 1) := by decide +kernel
theorem dX4_highest_5 : decode cX4_highest 5 = .ok (.aload_n 0, 1) := by decide +kernel
theorem dX4_highest_6 : decode cX4_highest 6 = .ok (.getfield 44, 3) := by decide +kernel
theorem dX4_highest_9 : decode cX4_highest 9 = .ok (.getfield 73, 3) := by decide +kernel
theorem dX4_highest_12 : decode cX4_highest 12 = .ok (.if_icmp .ge 19, 3) := by decide +kernel
theorem dX4_highest_15 : decode cX4_highest 15 = .ok (.iload_n 1, 1) := by decide +kernel
theorem dX4_highest_16 : decode cX4_highest 16 = .ok (.aload_n 0, 1) := by decide +kernel
theorem dX4_highest_17 : decode cX4_highest 17 = .ok (.iload_n 2, 1) := by decide +kernel
theorem dX4_highest_18 : decode cX4_highest 18 = .ok (.invokevirtual 107, 3) := by decide +kernel
theorem dX4_highest_21 : decode cX4_highest 21 = .ok (.invokestatic 150, 3) := by decide +kernel
theorem dX4_highest_24 : decode cX4_highest 24 = .ok (.istore_n 1, 1) := by decide +kernel
theorem dX4_highest_25 : decode cX4_highest 25 = .ok (.iinc 2 1, 3) := by decide +kernel
theorem dX4_highest_28 : decode cX4_highest 28 = .ok (.goto (-24), 3) := by decide +kernel
theorem dX4_highest_31 : decode cX4_highest 31 = .ok (.iload_n 1, 1) := by decide +kernel
theorem dX4_highest_32 : decode cX4_highest 32 = .ok (.ireturn, 1) := by decide +kernel
theorem dX4_heightOn_0 : decode cX4_heightOn 0 = .ok (.iconst 0, 1) := by decide +kernel
theorem dX4_heightOn_1 : decode cX4_heightOn 1 = .ok (.istore_n 3, 1) := by decide +kernel
theorem dX4_heightOn_2 : decode cX4_heightOn 2 = .ok (.iconst 0, 1) := by decide +kernel
theorem dX4_heightOn_3 : decode cX4_heightOn 3 = .ok (.istore 4, 2) := by decide +kernel
theorem dX4_heightOn_5 : decode cX4_heightOn 5 = .ok (.iload 4, 2) := by decide +kernel
theorem dX4_heightOn_7 : decode cX4_heightOn 7 = .ok (.aload_n 0, 1) := by decide +kernel
theorem dX4_heightOn_8 : decode cX4_heightOn 8 = .ok (.getfield 44, 3) := by decide +kernel
theorem dX4_heightOn_11 : decode cX4_heightOn 11 = .ok (.getfield 73, 3) := by decide +kernel
theorem dX4_heightOn_14 : decode cX4_heightOn 14 = .ok (.if_icmp .ge 46, 3) := by decide +kernel
theorem dX4_heightOn_17 : decode cX4_heightOn 17 = .ok (.iload_n 1, 1) := by decide +kernel
theorem dX4_heightOn_18 : decode cX4_heightOn 18 = .ok (.iload_n 2, 1) := by decide +kernel
theorem dX4_heightOn_19 : decode cX4_heightOn 19 = .ok (.aload_n 0, 1) := by decide +kernel
theorem dX4_heightOn_20 : decode cX4_heightOn 20 = .ok (.iload 4, 2) := by decide +kernel
theorem dX4_heightOn_22 : decode cX4_heightOn 22 = .ok (.invokevirtual 113, 3) := by decide +kernel
theorem dX4_heightOn_25 : decode cX4_heightOn 25 = .ok (.aload_n 0, 1) := by decide +kernel
theorem dX4_heightOn_26 : decode cX4_heightOn 26 = .ok (.iload 4, 2) := by decide +kernel
theorem dX4_heightOn_28 : decode cX4_heightOn 28 = .ok (.invokevirtual 114, 3) := by decide +kernel
theorem dX4_heightOn_31 : decode cX4_heightOn 31 = .ok (.aload_n 0, 1) := by decide +kernel
theorem dX4_heightOn_32 : decode cX4_heightOn 32 = .ok (.iload 4, 2) := by decide +kernel
theorem dX4_heightOn_34 : decode cX4_heightOn 34 = .ok (.invokevirtual 122, 3) := by decide +kernel
theorem dX4_heightOn_37 : decode cX4_heightOn 37 = .ok (.invokestatic 155, 3) := by decide +kernel
theorem dX4_heightOn_40 : decode cX4_heightOn 40 = .ok (.ifCond .eq 14, 3) := by decide +kernel
theorem dX4_heightOn_43 : decode cX4_heightOn 43 = .ok (.iload_n 3, 1) := by decide +kernel
theorem dX4_heightOn_44 : decode cX4_heightOn 44 = .ok (.aload_n 0, 1) := by decide +kernel
theorem dX4_heightOn_45 : decode cX4_heightOn 45 = .ok (.iload 4, 2) := by decide +kernel
theorem dX4_heightOn_47 : decode cX4_heightOn 47 = .ok (.invokevirtual 107, 3) := by decide +kernel
theorem dX4_heightOn_50 : decode cX4_heightOn 50 = .ok (.invokestatic 150, 3) := by decide +kernel
theorem dX4_heightOn_53 : decode cX4_heightOn 53 = .ok (.istore_n 3, 1) := by decide +kernel
theorem dX4_heightOn_54 : decode cX4_heightOn 54 = .ok (.iinc 4 1, 3) := by decide +kernel
theorem dX4_heightOn_57 : decode cX4_heightOn 57 = .ok (.goto (-52), 3) := by decide +kernel
theorem dX4_heightOn_60 : decode cX4_heightOn 60 = .ok (.iload_n 3, 1) := by decide +kernel
theorem dX4_heightOn_61 : decode cX4_heightOn 61 = .ok (.ireturn, 1) := by decide +kernel
theorem dX4_turnedDown_0 : decode cX4_turnedDown 0 = .ok (.iconst 0, 1) := by decide +kernel
theorem dX4_turnedDown_1 : decode cX4_turnedDown 1 = .ok (.istore_n 1, 1) := by decide +kernel
theorem dX4_turnedDown_2 : decode cX4_turnedDown 2 = .ok (.iconst 0, 1) := by decide +kernel
theorem dX4_turnedDown_3 : decode cX4_turnedDown 3 = .ok (.istore_n 2, 1) := by decide +kernel
theorem dX4_turnedDown_4 : decode cX4_turnedDown 4 = .ok (.iload_n 2, 1) := by decide +kernel
theorem dX4_turnedDown_5 : decode cX4_turnedDown 5 = .ok (.aload_n 0, 1) := by decide +kernel
theorem dX4_turnedDown_6 : decode cX4_turnedDown 6 = .ok (.getfield 44, 3) := by decide +kernel
theorem dX4_turnedDown_9 : decode cX4_turnedDown 9 = .ok (.getfield 73, 3) := by decide +kernel
theorem dX4_turnedDown_12 : decode cX4_turnedDown 12 = .ok (.if_icmp .ge 28, 3) := by decide +kernel
theorem dX4_turnedDown_15 : decode cX4_turnedDown 15 = .ok (.iload_n 1, 1) := by decide +kernel
theorem dX4_turnedDown_16 : decode cX4_turnedDown 16 = .ok (.aload_n 0, 1) := by decide +kernel
theorem dX4_turnedDown_17 : decode cX4_turnedDown 17 = .ok (.iload_n 2, 1) := by decide +kernel
theorem dX4_turnedDown_18 : decode cX4_turnedDown 18 = .ok (.invokevirtual 127, 3) := by decide +kernel
theorem dX4_turnedDown_21 : decode cX4_turnedDown 21 = .ok (.ifCond .ne 7, 3) := by decide +kernel
theorem dX4_turnedDown_24 : decode cX4_turnedDown 24 = .ok (.iconst 1, 1) := by decide +kernel
theorem dX4_turnedDown_25 : decode cX4_turnedDown 25 = .ok (.goto 4, 3) := by decide +kernel
theorem dX4_turnedDown_28 : decode cX4_turnedDown 28 = .ok (.iconst 0, 1) := by decide +kernel
theorem dX4_turnedDown_29 : decode cX4_turnedDown 29 = .ok (.invokestatic 61, 3) := by decide +kernel
theorem dX4_turnedDown_32 : decode cX4_turnedDown 32 = .ok (.iadd, 1) := by decide +kernel
theorem dX4_turnedDown_33 : decode cX4_turnedDown 33 = .ok (.istore_n 1, 1) := by decide +kernel
theorem dX4_turnedDown_34 : decode cX4_turnedDown 34 = .ok (.iinc 2 1, 3) := by decide +kernel
theorem dX4_turnedDown_37 : decode cX4_turnedDown 37 = .ok (.goto (-33), 3) := by decide +kernel
theorem dX4_turnedDown_40 : decode cX4_turnedDown 40 = .ok (.iload_n 1, 1) := by decide +kernel
theorem dX4_turnedDown_41 : decode cX4_turnedDown 41 = .ok (.ireturn, 1) := by decide +kernel
theorem dX4_leastX_0 : decode cX4_leastX 0 = .ok (.aload_n 0, 1) := by decide +kernel
theorem dX4_leastX_1 : decode cX4_leastX 1 = .ok (.aload_n 0, 1) := by decide +kernel
theorem dX4_leastX_2 : decode cX4_leastX 2 = .ok (.getfield 9, 3) := by decide +kernel
theorem dX4_leastX_5 : decode cX4_leastX 5 = .ok (.invokevirtual 159, 3) := by decide +kernel
theorem dX4_leastX_8 : decode cX4_leastX 8 = .ok (.ireturn, 1) := by decide +kernel
theorem dX4_greatestX_0 : decode cX4_greatestX 0 = .ok (.aload_n 0, 1) := by decide +kernel
theorem dX4_greatestX_1 : decode cX4_greatestX 1 = .ok (.aload_n 0, 1) := by decide +kernel
theorem dX4_greatestX_2 : decode cX4_greatestX 2 = .ok (.getfield 9, 3) := by decide +kernel
theorem dX4_greatestX_5 : decode cX4_greatestX 5 = .ok (.invokevirtual 163, 3) := by decide +kernel
theorem dX4_greatestX_8 : decode cX4_greatestX 8 = .ok (.ireturn, 1) := by decide +kernel
theorem dX4_leastY_0 : decode cX4_leastY 0 = .ok (.aload_n 0, 1) := by decide +kernel
theorem dX4_leastY_1 : decode cX4_leastY 1 = .ok (.aload_n 0, 1) := by decide +kernel
theorem dX4_leastY_2 : decode cX4_leastY 2 = .ok (.getfield 15, 3) := by decide +kernel
theorem dX4_leastY_5 : decode cX4_leastY 5 = .ok (.invokevirtual 159, 3) := by decide +kernel
theorem dX4_leastY_8 : decode cX4_leastY 8 = .ok (.ireturn, 1) := by decide +kernel
theorem dX4_greatestY_0 : decode cX4_greatestY 0 = .ok (.aload_n 0, 1) := by decide +kernel
theorem dX4_greatestY_1 : decode cX4_greatestY 1 = .ok (.aload_n 0, 1) := by decide +kernel
theorem dX4_greatestY_2 : decode cX4_greatestY 2 = .ok (.getfield 15, 3) := by decide +kernel
theorem dX4_greatestY_5 : decode cX4_greatestY 5 = .ok (.invokevirtual 163, 3) := by decide +kernel
theorem dX4_greatestY_8 : decode cX4_greatestY 8 = .ok (.ireturn, 1) := by decide +kernel
theorem dX4_least_0 : decode cX4_least 0 = .ok (.aload_n 1, 1) := by decide +kernel
theorem dX4_least_1 : decode cX4_least 1 = .ok (.iconst 0, 1) := by decide +kernel
theorem dX4_least_2 : decode cX4_least 2 = .ok (.invokestatic 69, 3) := by decide +kernel
theorem dX4_least_5 : decode cX4_least 5 = .ok (.istore_n 2, 1) := by decide +kernel
theorem dX4_least_6 : decode cX4_least 6 = .ok (.iconst 1, 1) := by decide +kernel
theorem dX4_least_7 : decode cX4_least 7 = .ok (.istore_n 3, 1) := by decide +kernel
theorem dX4_least_8 : decode cX4_least 8 = .ok (.iload_n 3, 1) := by decide +kernel
theorem dX4_least_9 : decode cX4_least 9 = .ok (.aload_n 0, 1) := by decide +kernel
theorem dX4_least_10 : decode cX4_least 10 = .ok (.getfield 44, 3) := by decide +kernel
theorem dX4_least_13 : decode cX4_least 13 = .ok (.getfield 73, 3) := by decide +kernel
theorem dX4_least_16 : decode cX4_least 16 = .ok (.if_icmp .ge 19, 3) := by decide +kernel
theorem dX4_least_19 : decode cX4_least 19 = .ok (.iload_n 2, 1) := by decide +kernel
theorem dX4_least_20 : decode cX4_least 20 = .ok (.aload_n 1, 1) := by decide +kernel
theorem dX4_least_21 : decode cX4_least 21 = .ok (.iload_n 3, 1) := by decide +kernel
theorem dX4_least_22 : decode cX4_least 22 = .ok (.invokestatic 69, 3) := by decide +kernel
theorem dX4_least_25 : decode cX4_least 25 = .ok (.invokestatic 166, 3) := by decide +kernel
theorem dX4_least_28 : decode cX4_least 28 = .ok (.istore_n 2, 1) := by decide +kernel
theorem dX4_least_29 : decode cX4_least 29 = .ok (.iinc 3 1, 3) := by decide +kernel
theorem dX4_least_32 : decode cX4_least 32 = .ok (.goto (-24), 3) := by decide +kernel
theorem dX4_least_35 : decode cX4_least 35 = .ok (.iload_n 2, 1) := by decide +kernel
theorem dX4_least_36 : decode cX4_least 36 = .ok (.ireturn, 1) := by decide +kernel
theorem dX4_greatest_0 : decode cX4_greatest 0 = .ok (.aload_n 1, 1) := by decide +kernel
theorem dX4_greatest_1 : decode cX4_greatest 1 = .ok (.iconst 0, 1) := by decide +kernel
theorem dX4_greatest_2 : decode cX4_greatest 2 = .ok (.invokestatic 69, 3) := by decide +kernel
theorem dX4_greatest_5 : decode cX4_greatest 5 = .ok (.istore_n 2, 1) := by decide +kernel
theorem dX4_greatest_6 : decode cX4_greatest 6 = .ok (.iconst 1, 1) := by decide +kernel
theorem dX4_greatest_7 : decode cX4_greatest 7 = .ok (.istore_n 3, 1) := by decide +kernel
theorem dX4_greatest_8 : decode cX4_greatest 8 = .ok (.iload_n 3, 1) := by decide +kernel
theorem dX4_greatest_9 : decode cX4_greatest 9 = .ok (.aload_n 0, 1) := by decide +kernel
theorem dX4_greatest_10 : decode cX4_greatest 10 = .ok (.getfield 44, 3) := by decide +kernel
theorem dX4_greatest_13 : decode cX4_greatest 13 = .ok (.getfield 73, 3) := by decide +kernel
theorem dX4_greatest_16 : decode cX4_greatest 16 = .ok (.if_icmp .ge 19, 3) := by decide +kernel
theorem dX4_greatest_19 : decode cX4_greatest 19 = .ok (.iload_n 2, 1) := by decide +kernel
theorem dX4_greatest_20 : decode cX4_greatest 20 = .ok (.aload_n 1, 1) := by decide +kernel
theorem dX4_greatest_21 : decode cX4_greatest 21 = .ok (.iload_n 3, 1) := by decide +kernel
theorem dX4_greatest_22 : decode cX4_greatest 22 = .ok (.invokestatic 69, 3) := by decide +kernel
theorem dX4_greatest_25 : decode cX4_greatest 25 = .ok (.invokestatic 150, 3) := by decide +kernel
theorem dX4_greatest_28 : decode cX4_greatest 28 = .ok (.istore_n 2, 1) := by decide +kernel
theorem dX4_greatest_29 : decode cX4_greatest 29 = .ok (.iinc 3 1, 3) := by decide +kernel
theorem dX4_greatest_32 : decode cX4_greatest 32 = .ok (.goto (-24), 3) := by decide +kernel
theorem dX4_greatest_35 : decode cX4_greatest 35 = .ok (.iload_n 2, 1) := by decide +kernel
theorem dX4_greatest_36 : decode cX4_greatest 36 = .ok (.ireturn, 1) := by decide +kernel
theorem dX5_get_0 : decode cX5_get 0 = .ok (.aload_n 0, 1) := by decide +kernel
theorem dX5_get_1 : decode cX5_get 1 = .ok (.ifnull 19, 3) := by decide +kernel
theorem dX5_get_4 : decode cX5_get 4 = .ok (.iload_n 1, 1) := by decide +kernel
theorem dX5_get_5 : decode cX5_get 5 = .ok (.ifCond .lt 15, 3) := by decide +kernel
theorem dX5_get_8 : decode cX5_get 8 = .ok (.iload_n 1, 1) := by decide +kernel
theorem dX5_get_9 : decode cX5_get 9 = .ok (.aload_n 0, 1) := by decide +kernel
theorem dX5_get_10 : decode cX5_get 10 = .ok (.arraylength, 1) := by decide +kernel
theorem dX5_get_11 : decode cX5_get 11 = .ok (.if_icmp .ge 9, 3) := by decide +kernel
theorem dX5_get_14 : decode cX5_get 14 = .ok (.aload_n 0, 1) := by decide +kernel
theorem dX5_get_15 : decode cX5_get 15 = .ok (.iload_n 1, 1) := by decide +kernel
theorem dX5_get_16 : decode cX5_get 16 = .ok (.iaload, 1) := by decide +kernel
theorem dX5_get_17 : decode cX5_get 17 = .ok (.goto 4, 3) := by decide +kernel
theorem dX5_get_20 : decode cX5_get 20 = .ok (.iconst 0, 1) := by decide +kernel
end
section
theorem dX5_get_21 : decode cX5_get 21 = .ok (.ireturn, 1) := by decide +kernel
theorem dX5_put_0 : decode cX5_put 0 = .ok (.aload_n 0, 1) := by decide +kernel
theorem dX5_put_1 : decode cX5_put 1 = .ok (.ifnull 17, 3) := by decide +kernel
theorem dX5_put_4 : decode cX5_put 4 = .ok (.iload_n 1, 1) := by decide +kernel
theorem dX5_put_5 : decode cX5_put 5 = .ok (.ifCond .lt 13, 3) := by decide +kernel
theorem dX5_put_8 : decode cX5_put 8 = .ok (.iload_n 1, 1) := by decide +kernel
theorem dX5_put_9 : decode cX5_put 9 = .ok (.aload_n 0, 1) := by decide +kernel
theorem dX5_put_10 : decode cX5_put 10 = .ok (.arraylength, 1) := by decide +kernel
theorem dX5_put_11 : decode cX5_put 11 = .ok (.if_icmp .ge 7, 3) := by decide +kernel
theorem dX5_put_14 : decode cX5_put 14 = .ok (.aload_n 0, 1) := by decide +kernel
theorem dX5_put_15 : decode cX5_put 15 = .ok (.iload_n 1, 1) := by decide +kernel
theorem dX5_put_16 : decode cX5_put 16 = .ok (.iload_n 2, 1) := by decide +kernel
theorem dX5_put_17 : decode cX5_put 17 = .ok (.iastore, 1) := by decide +kernel
theorem dX5_put_18 : decode cX5_put 18 = .ok (.return_, 1) := by decide +kernel
theorem dX5_fill_0 : decode cX5_fill 0 = .ok (.aload_n 0, 1) := by decide +kernel
theorem dX5_fill_1 : decode cX5_fill 1 = .ok (.ifnull 8, 3) := by decide +kernel
theorem dX5_fill_4 : decode cX5_fill 4 = .ok (.aload_n 0, 1) := by decide +kernel
theorem dX5_fill_5 : decode cX5_fill 5 = .ok (.iload_n 1, 1) := by decide +kernel
theorem dX5_fill_6 : decode cX5_fill 6 = .ok (.invokestatic 7, 3) := by decide +kernel
theorem dX5_fill_9 : decode cX5_fill 9 = .ok (.return_, 1) := by decide +kernel
theorem dX6_init_0 : decode cX6_init 0 = .ok (.aload_n 0, 1) := by decide +kernel
theorem dX6_init_1 : decode cX6_init 1 = .ok (.invokespecial 3, 3) := by decide +kernel
theorem dX6_init_4 : decode cX6_init 4 = .ok (.aload_n 0, 1) := by decide +kernel
theorem dX6_init_5 : decode cX6_init 5 = .ok (.new 9, 3) := by decide +kernel
theorem dX6_init_8 : decode cX6_init 8 = .ok (.dup, 1) := by decide +kernel
theorem dX6_init_9 : decode cX6_init 9 = .ok (.new 9, 3) := by decide +kernel
theorem dX6_init_12 : decode cX6_init 12 = .ok (.dup, 1) := by decide +kernel
theorem dX6_init_13 : decode cX6_init 13 = .ok (.new 9, 3) := by decide +kernel
theorem dX6_init_16 : decode cX6_init 16 = .ok (.dup, 1) := by decide +kernel
theorem dX6_init_17 : decode cX6_init 17 = .ok (.new 9, 3) := by decide +kernel
theorem dX6_init_20 : decode cX6_init 20 = .ok (.dup, 1) := by decide +kernel
theorem dX6_init_21 : decode cX6_init 21 = .ok (.aconst_null, 1) := by decide +kernel
theorem dX6_init_22 : decode cX6_init 22 = .ok (.invokespecial 11, 3) := by decide +kernel
theorem dX6_init_25 : decode cX6_init 25 = .ok (.invokespecial 11, 3) := by decide +kernel
theorem dX6_init_28 : decode cX6_init 28 = .ok (.invokespecial 11, 3) := by decide +kernel
theorem dX6_init_31 : decode cX6_init 31 = .ok (.invokespecial 11, 3) := by decide +kernel
theorem dX6_init_34 : decode cX6_init 34 = .ok (.putfield 14, 3) := by decide +kernel
theorem dX6_init_37 : decode cX6_init 37 = .ok (.aload_n 0, 1) := by decide +kernel
theorem dX6_init_38 : decode cX6_init 38 = .ok (.iconst 3, 1) := by decide +kernel
theorem dX6_init_39 : decode cX6_init 39 = .ok (.newarray .int, 2) := by decide +kernel
theorem dX6_init_41 : decode cX6_init 41 = .ok (.putfield 20, 3) := by decide +kernel
theorem dX6_init_44 : decode cX6_init 44 = .ok (.aload_n 0, 1) := by decide +kernel
theorem dX6_init_45 : decode cX6_init 45 = .ok (.iconst 4, 1) := by decide +kernel
theorem dX6_init_46 : decode cX6_init 46 = .ok (.newarray .int, 2) := by decide +kernel
theorem dX6_init_48 : decode cX6_init 48 = .ok (.putfield 24, 3) := by decide +kernel
theorem dX6_init_51 : decode cX6_init 51 = .ok (.aload_n 0, 1) := by decide +kernel
theorem dX6_init_52 : decode cX6_init 52 = .ok (.aload_n 1, 1) := by decide +kernel
theorem dX6_init_53 : decode cX6_init 53 = .ok (.putfield 27, 3) := by decide +kernel
theorem dX6_init_56 : decode cX6_init 56 = .ok (.aload_n 0, 1) := by decide +kernel
theorem dX6_init_57 : decode cX6_init 57 = .ok (.aload_n 2, 1) := by decide +kernel
theorem dX6_init_58 : decode cX6_init 58 = .ok (.putfield 31, 3) := by decide +kernel
theorem dX6_init_61 : decode cX6_init 61 = .ok (.return_, 1) := by decide +kernel
theorem dX6_forget_0 : decode cX6_forget 0 = .ok (.aload_n 0, 1) := by decide +kernel
theorem dX6_forget_1 : decode cX6_forget 1 = .ok (.iconst 0, 1) := by decide +kernel
theorem dX6_forget_2 : decode cX6_forget 2 = .ok (.putfield 35, 3) := by decide +kernel
theorem dX6_forget_5 : decode cX6_forget 5 = .ok (.aload_n 0, 1) := by decide +kernel
theorem dX6_forget_6 : decode cX6_forget 6 = .ok (.iconst 0, 1) := by decide +kernel
theorem dX6_forget_7 : decode cX6_forget 7 = .ok (.putfield 39, 3) := by decide +kernel
theorem dX6_forget_10 : decode cX6_forget 10 = .ok (.aload_n 0, 1) := by decide +kernel
theorem dX6_forget_11 : decode cX6_forget 11 = .ok (.iconst 0, 1) := by decide +kernel
theorem dX6_forget_12 : decode cX6_forget 12 = .ok (.putfield 42, 3) := by decide +kernel
theorem dX6_forget_15 : decode cX6_forget 15 = .ok (.aload_n 0, 1) := by decide +kernel
theorem dX6_forget_16 : decode cX6_forget 16 = .ok (.ldc 45, 2) := by decide +kernel
theorem dX6_forget_18 : decode cX6_forget 18 = .ok (.putfield 46, 3) := by decide +kernel
theorem dX6_forget_21 : decode cX6_forget 21 = .ok (.aload_n 0, 1) := by decide +kernel
theorem dX6_forget_22 : decode cX6_forget 22 = .ok (.ldc 45, 2) := by decide +kernel
theorem dX6_forget_24 : decode cX6_forget 24 = .ok (.putfield 49, 3) := by decide +kernel
theorem dX6_forget_27 : decode cX6_forget 27 = .ok (.return_, 1) := by decide +kernel
theorem dX6_solve_0 : decode cX6_solve 0 = .ok (.aload_n 0, 1) := by decide +kernel
theorem dX6_solve_1 : decode cX6_solve 1 = .ok (.getfield 35, 3) := by decide +kernel
theorem dX6_solve_4 : decode cX6_solve 4 = .ok (.ifCond .ne 18, 3) := by decide +kernel
theorem dX6_solve_7 : decode cX6_solve 7 = .ok (.aload_n 0, 1) := by decide +kernel
theorem dX6_solve_8 : decode cX6_solve 8 = .ok (.getfield 14, 3) := by decide +kernel
theorem dX6_solve_11 : decode cX6_solve 11 = .ok (.aload_n 0, 1) := by decide +kernel
theorem dX6_solve_12 : decode cX6_solve 12 = .ok (.getfield 27, 3) := by decide +kernel
theorem dX6_solve_15 : decode cX6_solve 15 = .ok (.aload_n 0, 1) := by decide +kernel
theorem dX6_solve_16 : decode cX6_solve 16 = .ok (.getfield 31, 3) := by decide +kernel
theorem dX6_solve_19 : decode cX6_solve 19 = .ok (.invokevirtual 52, 3) := by decide +kernel
theorem dX6_solve_22 : decode cX6_solve 22 = .ok (.aload_n 0, 1) := by decide +kernel
theorem dX6_solve_23 : decode cX6_solve 23 = .ok (.getfield 35, 3) := by decide +kernel
theorem dX6_solve_26 : decode cX6_solve 26 = .ok (.iload_n 1, 1) := by decide +kernel
theorem dX6_solve_27 : decode cX6_solve 27 = .ok (.if_icmp .gt 42, 3) := by decide +kernel
theorem dX6_solve_30 : decode cX6_solve 30 = .ok (.aload_n 0, 1) := by decide +kernel
theorem dX6_solve_31 : decode cX6_solve 31 = .ok (.getfield 46, 3) := by decide +kernel
theorem dX6_solve_34 : decode cX6_solve 34 = .ok (.ldc 45, 2) := by decide +kernel
theorem dX6_solve_36 : decode cX6_solve 36 = .ok (.if_icmp .ne 33, 3) := by decide +kernel
theorem dX6_solve_39 : decode cX6_solve 39 = .ok (.aload_n 0, 1) := by decide +kernel
theorem dX6_solve_40 : decode cX6_solve 40 = .ok (.getfield 49, 3) := by decide +kernel
theorem dX6_solve_43 : decode cX6_solve 43 = .ok (.ldc 45, 2) := by decide +kernel
theorem dX6_solve_45 : decode cX6_solve 45 = .ok (.if_icmp .ne 24, 3) := by decide +kernel
theorem dX6_solve_48 : decode cX6_solve 48 = .ok (.aload_n 0, 1) := by decide +kernel
theorem dX6_solve_49 : decode cX6_solve 49 = .ok (.aload_n 0, 1) := by decide +kernel
theorem dX6_solve_50 : decode cX6_solve 50 = .ok (.getfield 35, 3) := by decide +kernel
theorem dX6_solve_53 : decode cX6_solve 53 = .ok (.invokevirtual 56, 3) := by decide +kernel
theorem dX6_solve_56 : decode cX6_solve 56 = .ok (.aload_n 0, 1) := by decide +kernel
theorem dX6_solve_57 : decode cX6_solve 57 = .ok (.dup, 1) := by decide +kernel
theorem dX6_solve_58 : decode cX6_solve 58 = .ok (.getfield 35, 3) := by decide +kernel
theorem dX6_solve_61 : decode cX6_solve 61 = .ok (.iconst 1, 1) := by decide +kernel
theorem dX6_solve_62 : decode cX6_solve 62 = .ok (.iadd, 1) := by decide +kernel
theorem dX6_solve_63 : decode cX6_solve 63 = .ok (.putfield 35, 3) := by decide +kernel
theorem dX6_solve_66 : decode cX6_solve 66 = .ok (.goto (-44), 3) := by decide +kernel
theorem dX6_solve_69 : decode cX6_solve 69 = .ok (.aload_n 0, 1) := by decide +kernel
theorem dX6_solve_70 : decode cX6_solve 70 = .ok (.getfield 49, 3) := by decide +kernel
theorem dX6_solve_73 : decode cX6_solve 73 = .ok (.ldc 45, 2) := by decide +kernel
theorem dX6_solve_75 : decode cX6_solve 75 = .ok (.if_icmp .eq 14, 3) := by decide +kernel
theorem dX6_solve_78 : decode cX6_solve 78 = .ok (.aload_n 0, 1) := by decide +kernel
theorem dX6_solve_79 : decode cX6_solve 79 = .ok (.getfield 49, 3) := by decide +kernel
theorem dX6_solve_82 : decode cX6_solve 82 = .ok (.iload_n 1, 1) := by decide +kernel
theorem dX6_solve_83 : decode cX6_solve 83 = .ok (.if_icmp .gt 6, 3) := by decide +kernel
theorem dX6_solve_86 : decode cX6_solve 86 = .ok (.bipush (-5), 2) := by decide +kernel
theorem dX6_solve_88 : decode cX6_solve 88 = .ok (.ireturn, 1) := by decide +kernel
theorem dX6_solve_89 : decode cX6_solve 89 = .ok (.aload_n 0, 1) := by decide +kernel
theorem dX6_solve_90 : decode cX6_solve 90 = .ok (.getfield 46, 3) := by decide +kernel
theorem dX6_solve_93 : decode cX6_solve 93 = .ok (.iload_n 1, 1) := by decide +kernel
theorem dX6_solve_94 : decode cX6_solve 94 = .ok (.if_icmp .gt 10, 3) := by decide +kernel
theorem dX6_solve_97 : decode cX6_solve 97 = .ok (.aload_n 0, 1) := by decide +kernel
theorem dX6_solve_98 : decode cX6_solve 98 = .ok (.getfield 46, 3) := by decide +kernel
theorem dX6_solve_101 : decode cX6_solve 101 = .ok (.goto 5, 3) := by decide +kernel
theorem dX6_solve_104 : decode cX6_solve 104 = .ok (.ldc 45, 2) := by decide +kernel
theorem dX6_solve_106 : decode cX6_solve 106 = .ok (.ireturn, 1) := by decide +kernel
theorem dX6_told_0 : decode cX6_told 0 = .ok (.iload_n 1, 1) := by decide +kernel
theorem dX6_told_1 : decode cX6_told 1 = .ok (.ifCond .lt 19, 3) := by decide +kernel
theorem dX6_told_4 : decode cX6_told 4 = .ok (.iload_n 1, 1) := by decide +kernel
theorem dX6_told_5 : decode cX6_told 5 = .ok (.iload_n 2, 1) := by decide +kernel
theorem dX6_told_6 : decode cX6_told 6 = .ok (.if_icmp .gt 14, 3) := by decide +kernel
theorem dX6_told_9 : decode cX6_told 9 = .ok (.aload_n 0, 1) := by decide +kernel
theorem dX6_told_10 : decode cX6_told 10 = .ok (.getfield 24, 3) := by decide +kernel
theorem dX6_told_13 : decode cX6_told 13 = .ok (.iload_n 1, 1) := by decide +kernel
theorem dX6_told_14 : decode cX6_told 14 = .ok (.invokestatic 60, 3) := by decide +kernel
theorem dX6_told_17 : decode cX6_told 17 = .ok (.goto 5, 3) := by decide +kernel
theorem dX6_told_20 : decode cX6_told 20 = .ok (.ldc 45, 2) := by decide +kernel
theorem dX6_told_22 : decode cX6_told 22 = .ok (.ireturn, 1) := by decide +kernel
theorem dX6_tryRows_0 : decode cX6_tryRows 0 = .ok (.aload_n 0, 1) := by decide +kernel
theorem dX6_tryRows_1 : decode cX6_tryRows 1 = .ok (.iload_n 1, 1) := by decide +kernel
theorem dX6_tryRows_2 : decode cX6_tryRows 2 = .ok (.putfield 66, 3) := by decide +kernel
theorem dX6_tryRows_5 : decode cX6_tryRows 5 = .ok (.aload_n 0, 1) := by decide +kernel
theorem dX6_tryRows_6 : decode cX6_tryRows 6 = .ok (.iconst 1, 1) := by decide +kernel
theorem dX6_tryRows_7 : decode cX6_tryRows 7 = .ok (.putfield 69, 3) := by decide +kernel
theorem dX6_tryRows_10 : decode cX6_tryRows 10 = .ok (.aload_n 0, 1) := by decide +kernel
theorem dX6_tryRows_11 : decode cX6_tryRows 11 = .ok (.aload_n 0, 1) := by decide +kernel
theorem dX6_tryRows_12 : decode cX6_tryRows 12 = .ok (.getfield 14, 3) := by decide +kernel
theorem dX6_tryRows_15 : decode cX6_tryRows 15 = .ok (.iconst 0, 1) := by decide +kernel
theorem dX6_tryRows_16 : decode cX6_tryRows 16 = .ok (.invokestatic 73, 3) := by decide +kernel
theorem dX6_tryRows_19 : decode cX6_tryRows 19 = .ok (.aload_n 0, 1) := by decide +kernel
theorem dX6_tryRows_20 : decode cX6_tryRows 20 = .ok (.getfield 39, 3) := by decide +kernel
theorem dX6_tryRows_23 : decode cX6_tryRows 23 = .ok (.sipush 3000, 3) := by decide +kernel
theorem dX6_tryRows_26 : decode cX6_tryRows 26 = .ok (.if_icmp .le 9, 3) := by decide +kernel
theorem dX6_tryRows_29 : decode cX6_tryRows 29 = .ok (.aload_n 0, 1) := by decide +kernel
theorem dX6_tryRows_30 : decode cX6_tryRows 30 = .ok (.iload_n 1, 1) := by decide +kernel
theorem dX6_tryRows_31 : decode cX6_tryRows 31 = .ok (.putfield 49, 3) := by decide +kernel
theorem dX6_tryRows_34 : decode cX6_tryRows 34 = .ok (.return_, 1) := by decide +kernel
theorem dX6_tryRows_35 : decode cX6_tryRows 35 = .ok (.aload_n 0, 1) := by decide +kernel
theorem dX6_tryRows_36 : decode cX6_tryRows 36 = .ok (.iconst 0, 1) := by decide +kernel
theorem dX6_tryRows_37 : decode cX6_tryRows 37 = .ok (.putfield 69, 3) := by decide +kernel
theorem dX6_tryRows_40 : decode cX6_tryRows 40 = .ok (.aload_n 0, 1) := by decide +kernel
theorem dX6_tryRows_41 : decode cX6_tryRows 41 = .ok (.aload_n 0, 1) := by decide +kernel
theorem dX6_tryRows_42 : decode cX6_tryRows 42 = .ok (.getfield 14, 3) := by decide +kernel
theorem dX6_tryRows_45 : decode cX6_tryRows 45 = .ok (.iconst 0, 1) := by decide +kernel
theorem dX6_tryRows_46 : decode cX6_tryRows 46 = .ok (.invokestatic 73, 3) := by decide +kernel
theorem dX6_tryRows_49 : decode cX6_tryRows 49 = .ok (.aload_n 0, 1) := by decide +kernel
theorem dX6_tryRows_50 : decode cX6_tryRows 50 = .ok (.getfield 42, 3) := by decide +kernel
theorem dX6_tryRows_53 : decode cX6_tryRows 53 = .ok (.ifCond .le 8, 3) := by decide +kernel
theorem dX6_tryRows_56 : decode cX6_tryRows 56 = .ok (.aload_n 0, 1) := by decide +kernel
theorem dX6_tryRows_57 : decode cX6_tryRows 57 = .ok (.iload_n 1, 1) := by decide +kernel
theorem dX6_tryRows_58 : decode cX6_tryRows 58 = .ok (.putfield 46, 3) := by decide +kernel
theorem dX6_tryRows_61 : decode cX6_tryRows 61 = .ok (.return_, 1) := by decide +kernel
theorem dX6_lengthen_0 : decode cX6_lengthen 0 = .ok (.aload_n 1, 1) := by decide +kernel
theorem dX6_lengthen_1 : decode cX6_lengthen 1 = .ok (.getfield 77, 3) := by decide +kernel
theorem dX6_lengthen_4 : decode cX6_lengthen 4 = .ok (.astore_n 3, 1) := by decide +kernel
theorem dX6_lengthen_5 : decode cX6_lengthen 5 = .ok (.iload_n 2, 1) := by decide +kernel
theorem dX6_lengthen_6 : decode cX6_lengthen 6 = .ok (.aload_n 0, 1) := by decide +kernel
theorem dX6_lengthen_7 : decode cX6_lengthen 7 = .ok (.getfield 66, 3) := by decide +kernel
theorem dX6_lengthen_10 : decode cX6_lengthen 10 = .ok (.if_icmp .ge 7, 3) := by decide +kernel
theorem dX6_lengthen_13 : decode cX6_lengthen 13 = .ok (.aload_n 3, 1) := by decide +kernel
theorem dX6_lengthen_14 : decode cX6_lengthen 14 = .ok (.ifnonnull 9, 3) := by decide +kernel
theorem dX6_lengthen_17 : decode cX6_lengthen 17 = .ok (.aload_n 0, 1) := by decide +kernel
theorem dX6_lengthen_18 : decode cX6_lengthen 18 = .ok (.aload_n 1, 1) := by decide +kernel
theorem dX6_lengthen_19 : decode cX6_lengthen 19 = .ok (.invokevirtual 80, 3) := by decide +kernel
theorem dX6_lengthen_22 : decode cX6_lengthen 22 = .ok (.return_, 1) := by decide +kernel
theorem dX6_lengthen_23 : decode cX6_lengthen 23 = .ok (.iload_n 2, 1) := by decide +kernel
theorem dX6_lengthen_24 : decode cX6_lengthen 24 = .ok (.iconst 1, 1) := by decide +kernel
theorem dX6_lengthen_25 : decode cX6_lengthen 25 = .ok (.iadd, 1) := by decide +kernel
theorem dX6_lengthen_26 : decode cX6_lengthen 26 = .ok (.aload_n 0, 1) := by decide +kernel
theorem dX6_lengthen_27 : decode cX6_lengthen 27 = .ok (.getfield 66, 3) := by decide +kernel
theorem dX6_lengthen_30 : decode cX6_lengthen 30 = .ok (.if_icmp .ne 7, 3) := by decide +kernel
theorem dX6_lengthen_33 : decode cX6_lengthen 33 = .ok (.iconst 1, 1) := by decide +kernel
theorem dX6_lengthen_34 : decode cX6_lengthen 34 = .ok (.goto 4, 3) := by decide +kernel
theorem dX6_lengthen_37 : decode cX6_lengthen 37 = .ok (.iconst 0, 1) := by decide +kernel
theorem dX6_lengthen_38 : decode cX6_lengthen 38 = .ok (.istore 4, 2) := by decide +kernel
theorem dX6_lengthen_40 : decode cX6_lengthen 40 = .ok (.aload_n 1, 1) := by decide +kernel
theorem dX6_lengthen_41 : decode cX6_lengthen 41 = .ok (.invokevirtual 83, 3) := by decide +kernel
theorem dX6_lengthen_44 : decode cX6_lengthen 44 = .ok (.bipush 48, 2) := by decide +kernel
theorem dX6_lengthen_46 : decode cX6_lengthen 46 = .ok (.invokestatic 89, 3) := by decide +kernel
theorem dX6_lengthen_49 : decode cX6_lengthen 49 = .ok (.istore 5, 2) := by decide +kernel
theorem dX6_lengthen_51 : decode cX6_lengthen 51 = .ok (.aload_n 1, 1) := by decide +kernel
theorem dX6_lengthen_52 : decode cX6_lengthen 52 = .ok (.invokevirtual 95, 3) := by decide +kernel
theorem dX6_lengthen_55 : decode cX6_lengthen 55 = .ok (.iconst 1, 1) := by decide +kernel
theorem dX6_lengthen_56 : decode cX6_lengthen 56 = .ok (.iadd, 1) := by decide +kernel
theorem dX6_lengthen_57 : decode cX6_lengthen 57 = .ok (.bipush (-24), 2) := by decide +kernel
theorem dX6_lengthen_59 : decode cX6_lengthen 59 = .ok (.invokestatic 98, 3) := by decide +kernel
theorem dX6_lengthen_62 : decode cX6_lengthen 62 = .ok (.istore 6, 2) := by decide +kernel
theorem dX6_lengthen_64 : decode cX6_lengthen 64 = .ok (.iload 6, 2) := by decide +kernel
theorem dX6_lengthen_66 : decode cX6_lengthen 66 = .ok (.iload 5, 2) := by decide +kernel
theorem dX6_lengthen_68 : decode cX6_lengthen 68 = .ok (.if_icmp .gt 169, 3) := by decide +kernel
theorem dX6_lengthen_71 : decode cX6_lengthen 71 = .ok (.iconst 0, 1) := by decide +kernel
theorem dX6_lengthen_72 : decode cX6_lengthen 72 = .ok (.istore 7, 2) := by decide +kernel
theorem dX6_lengthen_74 : decode cX6_lengthen 74 = .ok (.iload 7, 2) := by decide +kernel
theorem dX6_lengthen_76 : decode cX6_lengthen 76 = .ok (.iconst 4, 1) := by decide +kernel
theorem dX6_lengthen_77 : decode cX6_lengthen 77 = .ok (.if_icmp .ge 154, 3) := by decide +kernel
theorem dX6_lengthen_80 : decode cX6_lengthen 80 = .ok (.aload_n 0, 1) := by decide +kernel
theorem dX6_lengthen_81 : decode cX6_lengthen 81 = .ok (.getfield 39, 3) := by decide +kernel
theorem dX6_lengthen_84 : decode cX6_lengthen 84 = .ok (.sipush 3000, 3) := by decide +kernel
theorem dX6_lengthen_87 : decode cX6_lengthen 87 = .ok (.if_icmp .gt 29, 3) := by decide +kernel
theorem dX6_lengthen_90 : decode cX6_lengthen 90 = .ok (.aload_n 1, 1) := by decide +kernel
theorem dX6_lengthen_91 : decode cX6_lengthen 91 = .ok (.iload 7, 2) := by decide +kernel
theorem dX6_lengthen_93 : decode cX6_lengthen 93 = .ok (.iload 6, 2) := by decide +kernel
theorem dX6_lengthen_95 : decode cX6_lengthen 95 = .ok (.invokevirtual 101, 3) := by decide +kernel
theorem dX6_lengthen_98 : decode cX6_lengthen 98 = .ok (.ifCond .eq 18, 3) := by decide +kernel
theorem dX6_lengthen_101 : decode cX6_lengthen 101 = .ok (.aload_n 1, 1) := by decide +kernel
theorem dX6_lengthen_102 : decode cX6_lengthen 102 = .ok (.iload 7, 2) := by decide +kernel
theorem dX6_lengthen_104 : decode cX6_lengthen 104 = .ok (.iload 6, 2) := by decide +kernel
theorem dX6_lengthen_106 : decode cX6_lengthen 106 = .ok (.invokevirtual 105, 3) := by decide +kernel
theorem dX6_lengthen_109 : decode cX6_lengthen 109 = .ok (.ifCond .eq 7, 3) := by decide +kernel
theorem dX6_lengthen_112 : decode cX6_lengthen 112 = .ok (.iconst 1, 1) := by decide +kernel
theorem dX6_lengthen_113 : decode cX6_lengthen 113 = .ok (.goto 4, 3) := by decide +kernel
theorem dX6_lengthen_116 : decode cX6_lengthen 116 = .ok (.iconst 0, 1) := by decide +kernel
theorem dX6_lengthen_117 : decode cX6_lengthen 117 = .ok (.istore 8, 2) := by decide +kernel
theorem dX6_lengthen_119 : decode cX6_lengthen 119 = .ok (.iload 8, 2) := by decide +kernel
theorem dX6_lengthen_121 : decode cX6_lengthen 121 = .ok (.ifCond .eq 19, 3) := by decide +kernel
theorem dX6_lengthen_124 : decode cX6_lengthen 124 = .ok (.iload 4, 2) := by decide +kernel
theorem dX6_lengthen_126 : decode cX6_lengthen 126 = .ok (.ifCond .eq 14, 3) := by decide +kernel
theorem dX6_lengthen_129 : decode cX6_lengthen 129 = .ok (.aload_n 0, 1) := by decide +kernel
theorem dX6_lengthen_130 : decode cX6_lengthen 130 = .ok (.getfield 69, 3) := by decide +kernel
theorem dX6_lengthen_133 : decode cX6_lengthen 133 = .ok (.ifCond .eq 7, 3) := by decide +kernel
theorem dX6_lengthen_136 : decode cX6_lengthen 136 = .ok (.iconst 1, 1) := by decide +kernel
theorem dX6_lengthen_137 : decode cX6_lengthen 137 = .ok (.goto 4, 3) := by decide +kernel
theorem dX6_lengthen_140 : decode cX6_lengthen 140 = .ok (.iconst 0, 1) := by decide +kernel
theorem dX6_lengthen_141 : decode cX6_lengthen 141 = .ok (.istore 9, 2) := by decide +kernel
theorem dX6_lengthen_143 : decode cX6_lengthen 143 = .ok (.aload_n 0, 1) := by decide +kernel
theorem dX6_lengthen_144 : decode cX6_lengthen 144 = .ok (.dup, 1) := by decide +kernel
theorem dX6_lengthen_145 : decode cX6_lengthen 145 = .ok (.getfield 39, 3) := by decide +kernel
theorem dX6_lengthen_148 : decode cX6_lengthen 148 = .ok (.iload 9, 2) := by decide +kernel
theorem dX6_lengthen_150 : decode cX6_lengthen 150 = .ok (.ifCond .eq 7, 3) := by decide +kernel
theorem dX6_lengthen_153 : decode cX6_lengthen 153 = .ok (.iconst 2, 1) := by decide +kernel
theorem dX6_lengthen_154 : decode cX6_lengthen 154 = .ok (.goto 4, 3) := by decide +kernel
theorem dX6_lengthen_157 : decode cX6_lengthen 157 = .ok (.iconst 0, 1) := by decide +kernel
theorem dX6_lengthen_158 : decode cX6_lengthen 158 = .ok (.iadd, 1) := by decide +kernel
theorem dX6_lengthen_159 : decode cX6_lengthen 159 = .ok (.putfield 39, 3) := by decide +kernel
theorem dX6_lengthen_162 : decode cX6_lengthen 162 = .ok (.iconst 0, 1) := by decide +kernel
theorem dX6_lengthen_163 : decode cX6_lengthen 163 = .ok (.istore 10, 2) := by decide +kernel
theorem dX6_lengthen_165 : decode cX6_lengthen 165 = .ok (.iload 10, 2) := by decide +kernel
theorem dX6_lengthen_167 : decode cX6_lengthen 167 = .ok (.iconst 2, 1) := by decide +kernel
theorem dX6_lengthen_168 : decode cX6_lengthen 168 = .ok (.if_icmp .ge 57, 3) := by decide +kernel
theorem dX6_lengthen_171 : decode cX6_lengthen 171 = .ok (.iload 8, 2) := by decide +kernel
theorem dX6_lengthen_173 : decode cX6_lengthen 173 = .ok (.ifCond .eq 52, 3) := by decide +kernel
theorem dX6_lengthen_176 : decode cX6_lengthen 176 = .ok (.iload 9, 2) := by decide +kernel
theorem dX6_lengthen_178 : decode cX6_lengthen 178 = .ok (.ifCond .ne 47, 3) := by decide +kernel
theorem dX6_lengthen_181 : decode cX6_lengthen 181 = .ok (.aload_n 0, 1) := by decide +kernel
theorem dX6_lengthen_182 : decode cX6_lengthen 182 = .ok (.getfield 20, 3) := by decide +kernel
theorem dX6_lengthen_185 : decode cX6_lengthen 185 = .ok (.iload_n 2, 1) := by decide +kernel
theorem dX6_lengthen_186 : decode cX6_lengthen 186 = .ok (.iload 7, 2) := by decide +kernel
theorem dX6_lengthen_188 : decode cX6_lengthen 188 = .ok (.iload 6, 2) := by decide +kernel
theorem dX6_lengthen_190 : decode cX6_lengthen 190 = .ok (.iload 10, 2) := by decide +kernel
theorem dX6_lengthen_192 : decode cX6_lengthen 192 = .ok (.invokestatic 108, 3) := by decide +kernel
theorem dX6_lengthen_195 : decode cX6_lengthen 195 = .ok (.invokestatic 112, 3) := by decide +kernel
theorem dX6_lengthen_198 : decode cX6_lengthen 198 = .ok (.aload_n 1, 1) := by decide +kernel
theorem dX6_lengthen_199 : decode cX6_lengthen 199 = .ok (.aload_n 3, 1) := by decide +kernel
theorem dX6_lengthen_200 : decode cX6_lengthen 200 = .ok (.iload 7, 2) := by decide +kernel
theorem dX6_lengthen_202 : decode cX6_lengthen 202 = .ok (.iload 6, 2) := by decide +kernel
theorem dX6_lengthen_204 : decode cX6_lengthen 204 = .ok (.iload 10, 2) := by decide +kernel
theorem dX6_lengthen_206 : decode cX6_lengthen 206 = .ok (.iload 4, 2) := by decide +kernel
theorem dX6_lengthen_208 : decode cX6_lengthen 208 = .ok (.invokevirtual 116, 3) := by decide +kernel
theorem dX6_lengthen_211 : decode cX6_lengthen 211 = .ok (.aload_n 0, 1) := by decide +kernel
theorem dX6_lengthen_212 : decode cX6_lengthen 212 = .ok (.aload_n 3, 1) := by decide +kernel
theorem dX6_lengthen_213 : decode cX6_lengthen 213 = .ok (.iload_n 2, 1) := by decide +kernel
theorem dX6_lengthen_214 : decode cX6_lengthen 214 = .ok (.iconst 1, 1) := by decide +kernel
theorem dX6_lengthen_215 : decode cX6_lengthen 215 = .ok (.iadd, 1) := by decide +kernel
theorem dX6_lengthen_216 : decode cX6_lengthen 216 = .ok (.invokestatic 73, 3) := by decide +kernel
theorem dX6_lengthen_219 : decode cX6_lengthen 219 = .ok (.iinc 10 1, 3) := by decide +kernel
theorem dX6_lengthen_222 : decode cX6_lengthen 222 = .ok (.goto (-57), 3) := by decide +kernel
theorem dX6_lengthen_225 : decode cX6_lengthen 225 = .ok (.iinc 7 1, 3) := by decide +kernel
theorem dX6_lengthen_228 : decode cX6_lengthen 228 = .ok (.goto (-154), 3) := by decide +kernel
theorem dX6_lengthen_231 : decode cX6_lengthen 231 = .ok (.iinc 6 1, 3) := by decide +kernel
theorem dX6_lengthen_234 : decode cX6_lengthen 234 = .ok (.goto (-170), 3) := by decide +kernel
theorem dX6_lengthen_237 : decode cX6_lengthen 237 = .ok (.return_, 1) := by decide +kernel
theorem dX6_weigh_0 : decode cX6_weigh 0 = .ok (.aload_n 0, 1) := by decide +kernel
theorem dX6_weigh_1 : decode cX6_weigh 1 = .ok (.getfield 69, 3) := by decide +kernel
theorem dX6_weigh_4 : decode cX6_weigh 4 = .ok (.ifCond .eq 7, 3) := by decide +kernel
theorem dX6_weigh_7 : decode cX6_weigh 7 = .ok (.iconst 0, 1) := by decide +kernel
theorem dX6_weigh_8 : decode cX6_weigh 8 = .ok (.goto 7, 3) := by decide +kernel
theorem dX6_weigh_11 : decode cX6_weigh 11 = .ok (.aload_n 1, 1) := by decide +kernel
theorem dX6_weigh_12 : decode cX6_weigh 12 = .ok (.invokevirtual 120, 3) := by decide +kernel
theorem dX6_weigh_15 : decode cX6_weigh 15 = .ok (.istore_n 2, 1) := by decide +kernel
theorem dX6_weigh_16 : decode cX6_weigh 16 = .ok (.iload_n 2, 1) := by decide +kernel
theorem dX6_weigh_17 : decode cX6_weigh 17 = .ok (.ifCond .le 57, 3) := by decide +kernel
theorem dX6_weigh_20 : decode cX6_weigh 20 = .ok (.aload_n 0, 1) := by decide +kernel
theorem dX6_weigh_21 : decode cX6_weigh 21 = .ok (.getfield 42, 3) := by decide +kernel
theorem dX6_weigh_24 : decode cX6_weigh 24 = .ok (.ifCond .ne 50, 3) := by decide +kernel
theorem dX6_weigh_27 : decode cX6_weigh 27 = .ok (.iconst 0, 1) := by decide +kernel
theorem dX6_weigh_28 : decode cX6_weigh 28 = .ok (.istore_n 3, 1) := by decide +kernel
theorem dX6_weigh_29 : decode cX6_weigh 29 = .ok (.iload_n 3, 1) := by decide +kernel
theorem dX6_weigh_30 : decode cX6_weigh 30 = .ok (.aload_n 0, 1) := by decide +kernel
theorem dX6_weigh_31 : decode cX6_weigh 31 = .ok (.getfield 66, 3) := by decide +kernel
theorem dX6_weigh_34 : decode cX6_weigh 34 = .ok (.if_icmp .ge 25, 3) := by decide +kernel
theorem dX6_weigh_37 : decode cX6_weigh 37 = .ok (.aload_n 0, 1) := by decide +kernel
theorem dX6_weigh_38 : decode cX6_weigh 38 = .ok (.getfield 24, 3) := by decide +kernel
theorem dX6_weigh_41 : decode cX6_weigh 41 = .ok (.iload_n 3, 1) := by decide +kernel
theorem dX6_weigh_42 : decode cX6_weigh 42 = .ok (.aload_n 0, 1) := by decide +kernel
theorem dX6_weigh_43 : decode cX6_weigh 43 = .ok (.getfield 20, 3) := by decide +kernel
theorem dX6_weigh_46 : decode cX6_weigh 46 = .ok (.iload_n 3, 1) := by decide +kernel
theorem dX6_weigh_47 : decode cX6_weigh 47 = .ok (.invokestatic 60, 3) := by decide +kernel
theorem dX6_weigh_50 : decode cX6_weigh 50 = .ok (.invokestatic 112, 3) := by decide +kernel
theorem dX6_weigh_53 : decode cX6_weigh 53 = .ok (.iinc 3 1, 3) := by decide +kernel
theorem dX6_weigh_56 : decode cX6_weigh 56 = .ok (.goto (-27), 3) := by decide +kernel
theorem dX6_weigh_59 : decode cX6_weigh 59 = .ok (.aload_n 0, 1) := by decide +kernel
theorem dX6_weigh_60 : decode cX6_weigh 60 = .ok (.getfield 24, 3) := by decide +kernel
theorem dX6_weigh_63 : decode cX6_weigh 63 = .ok (.aload_n 0, 1) := by decide +kernel
theorem dX6_weigh_64 : decode cX6_weigh 64 = .ok (.getfield 66, 3) := by decide +kernel
theorem dX6_weigh_67 : decode cX6_weigh 67 = .ok (.aload_n 1, 1) := by decide +kernel
theorem dX6_weigh_68 : decode cX6_weigh 68 = .ok (.invokevirtual 123, 3) := by decide +kernel
theorem dX6_weigh_71 : decode cX6_weigh 71 = .ok (.invokestatic 112, 3) := by decide +kernel
theorem dX6_weigh_74 : decode cX6_weigh 74 = .ok (.aload_n 0, 1) := by decide +kernel
theorem dX6_weigh_75 : decode cX6_weigh 75 = .ok (.dup, 1) := by decide +kernel
theorem dX6_weigh_76 : decode cX6_weigh 76 = .ok (.getfield 42, 3) := by decide +kernel
theorem dX6_weigh_79 : decode cX6_weigh 79 = .ok (.iload_n 2, 1) := by decide +kernel
theorem dX6_weigh_80 : decode cX6_weigh 80 = .ok (.iadd, 1) := by decide +kernel
theorem dX6_weigh_81 : decode cX6_weigh 81 = .ok (.putfield 42, 3) := by decide +kernel
theorem dX6_weigh_84 : decode cX6_weigh 84 = .ok (.return_, 1) := by decide +kernel
theorem dX6_tell_0 : decode cX6_tell 0 = .ok (.sipush 1000, 3) := by decide +kernel
theorem dX6_tell_3 : decode cX6_tell 3 = .ok (.bipush 100, 2) := by decide +kernel
theorem dX6_tell_5 : decode cX6_tell 5 = .ok (.iload_n 1, 1) := by decide +kernel
theorem dX6_tell_6 : decode cX6_tell 6 = .ok (.imul, 1) := by decide +kernel
theorem dX6_tell_7 : decode cX6_tell 7 = .ok (.iadd, 1) := by decide +kernel
theorem dX6_tell_8 : decode cX6_tell 8 = .ok (.bipush 10, 2) := by decide +kernel
theorem dX6_tell_10 : decode cX6_tell 10 = .ok (.iload_n 0, 1) := by decide +kernel
theorem dX6_tell_11 : decode cX6_tell 11 = .ok (.imul, 1) := by decide +kernel
theorem dX6_tell_12 : decode cX6_tell 12 = .ok (.iadd, 1) := by decide +kernel
theorem dX6_tell_13 : decode cX6_tell 13 = .ok (.iload_n 2, 1) := by decide +kernel
theorem dX6_tell_14 : decode cX6_tell 14 = .ok (.iadd, 1) := by decide +kernel
theorem dX6_tell_15 : decode cX6_tell 15 = .ok (.ireturn, 1) := by decide +kernel
theorem dX7_init_0 : decode cX7_init 0 = .ok (.aload_n 0, 1) := by decide +kernel
theorem dX7_init_1 : decode cX7_init 1 = .ok (.invokespecial 3, 3) := by decide +kernel
theorem dX7_init_4 : decode cX7_init 4 = .ok (.aload_n 0, 1) := by decide +kernel
theorem dX7_init_5 : decode cX7_init 5 = .ok (.sipush 144, 3) := by decide +kernel
theorem dX7_init_8 : decode cX7_init 8 = .ok (.newarray .int, 2) := by decide +kernel
theorem dX7_init_10 : decode cX7_init 10 = .ok (.putfield 9, 3) := by decide +kernel
theorem dX7_init_13 : decode cX7_init 13 = .ok (.aload_n 0, 1) := by decide +kernel
theorem dX7_init_14 : decode cX7_init 14 = .ok (.sipush 144, 3) := by decide +kernel
theorem dX7_init_17 : decode cX7_init 17 = .ok (.newarray .int, 2) := by decide +kernel
theorem dX7_init_19 : decode cX7_init 19 = .ok (.putfield 15, 3) := by decide +kernel
theorem dX7_init_22 : decode cX7_init 22 = .ok (.aload_n 0, 1) := by decide +kernel
theorem dX7_init_23 : decode cX7_init 23 = .ok (.sipush 432, 3) := by decide +kernel
theorem dX7_init_26 : decode cX7_init 26 = .ok (.newarray .int, 2) := by decide +kernel
theorem dX7_init_28 : decode cX7_init 28 = .ok (.putfield 18, 3) := by decide +kernel
theorem dX7_init_31 : decode cX7_init 31 = .ok (.return_, 1) := by decide +kernel
theorem dX7_resize_0 : decode cX7_resize 0 = .ok (.aload_n 0, 1) := by decide +kernel
theorem dX7_resize_1 : decode cX7_resize 1 = .ok (.iload_n 1, 1) := by decide +kernel
theorem dX7_resize_2 : decode cX7_resize 2 = .ok (.putfield 21, 3) := by decide +kernel
theorem dX7_resize_5 : decode cX7_resize 5 = .ok (.aload_n 0, 1) := by decide +kernel
theorem dX7_resize_6 : decode cX7_resize 6 = .ok (.iconst 4, 1) := by decide +kernel
theorem dX7_resize_7 : decode cX7_resize 7 = .ok (.iload_n 1, 1) := by decide +kernel
theorem dX7_resize_8 : decode cX7_resize 8 = .ok (.imul, 1) := by decide +kernel
theorem dX7_resize_9 : decode cX7_resize 9 = .ok (.iload_n 1, 1) := by decide +kernel
theorem dX7_resize_10 : decode cX7_resize 10 = .ok (.imul, 1) := by decide +kernel
theorem dX7_resize_11 : decode cX7_resize 11 = .ok (.putfield 25, 3) := by decide +kernel
theorem dX7_resize_14 : decode cX7_resize 14 = .ok (.iconst 0, 1) := by decide +kernel
theorem dX7_resize_15 : decode cX7_resize 15 = .ok (.istore_n 2, 1) := by decide +kernel
theorem dX7_resize_16 : decode cX7_resize 16 = .ok (.iload_n 2, 1) := by decide +kernel
theorem dX7_resize_17 : decode cX7_resize 17 = .ok (.iload_n 1, 1) := by decide +kernel
theorem dX7_resize_18 : decode cX7_resize 18 = .ok (.if_icmp .ge 45, 3) := by decide +kernel
theorem dX7_resize_21 : decode cX7_resize 21 = .ok (.iconst 0, 1) := by decide +kernel
theorem dX7_resize_22 : decode cX7_resize 22 = .ok (.istore_n 3, 1) := by decide +kernel
theorem dX7_resize_23 : decode cX7_resize 23 = .ok (.iload_n 3, 1) := by decide +kernel
theorem dX7_resize_24 : decode cX7_resize 24 = .ok (.iload_n 1, 1) := by decide +kernel
theorem dX7_resize_25 : decode cX7_resize 25 = .ok (.if_icmp .ge 32, 3) := by decide +kernel
theorem dX7_resize_28 : decode cX7_resize 28 = .ok (.iconst 0, 1) := by decide +kernel
theorem dX7_resize_29 : decode cX7_resize 29 = .ok (.istore 4, 2) := by decide +kernel
theorem dX7_resize_31 : decode cX7_resize 31 = .ok (.iload 4, 2) := by decide +kernel
theorem dX7_resize_33 : decode cX7_resize 33 = .ok (.iconst 4, 1) := by decide +kernel
theorem dX7_resize_34 : decode cX7_resize 34 = .ok (.if_icmp .ge 17, 3) := by decide +kernel
theorem dX7_resize_37 : decode cX7_resize 37 = .ok (.aload_n 0, 1) := by decide +kernel
theorem dX7_resize_38 : decode cX7_resize 38 = .ok (.iload_n 3, 1) := by decide +kernel
theorem dX7_resize_39 : decode cX7_resize 39 = .ok (.iload_n 2, 1) := by decide +kernel
theorem dX7_resize_40 : decode cX7_resize 40 = .ok (.iload 4, 2) := by decide +kernel
theorem dX7_resize_42 : decode cX7_resize 42 = .ok (.invokevirtual 28, 3) := by decide +kernel
theorem dX7_resize_45 : decode cX7_resize 45 = .ok (.iinc 4 1, 3) := by decide +kernel
theorem dX7_resize_48 : decode cX7_resize 48 = .ok (.goto (-17), 3) := by decide +kernel
theorem dX7_resize_51 : decode cX7_resize 51 = .ok (.iinc 3 1, 3) := by decide +kernel
theorem dX7_resize_54 : decode cX7_resize 54 = .ok (.goto (-31), 3) := by decide +kernel
theorem dX7_resize_57 : decode cX7_resize 57 = .ok (.iinc 2 1, 3) := by decide +kernel
theorem dX7_resize_60 : decode cX7_resize 60 = .ok (.goto (-44), 3) := by decide +kernel
theorem dX7_resize_63 : decode cX7_resize 63 = .ok (.return_, 1) := by decide +kernel
theorem dX7_place_0 : decode cX7_place 0 = .ok (.aload_n 0, 1) := by decide +kernel
theorem dX7_place_1 : decode cX7_place 1 = .ok (.iload_n 1, 1) := by decide +kernel
theorem dX7_place_2 : decode cX7_place 2 = .ok (.iload_n 2, 1) := by decide +kernel
theorem dX7_place_3 : decode cX7_place 3 = .ok (.iload_n 3, 1) := by decide +kernel
theorem dX7_place_4 : decode cX7_place 4 = .ok (.invokevirtual 32, 3) := by decide +kernel
theorem dX7_place_7 : decode cX7_place 7 = .ok (.istore 4, 2) := by decide +kernel
theorem dX7_place_9 : decode cX7_place 9 = .ok (.aload_n 0, 1) := by decide +kernel
theorem dX7_place_10 : decode cX7_place 10 = .ok (.getfield 9, 3) := by decide +kernel
theorem dX7_place_13 : decode cX7_place 13 = .ok (.iload 4, 2) := by decide +kernel
theorem dX7_place_15 : decode cX7_place 15 = .ok (.iload_n 1, 1) := by decide +kernel
theorem dX7_place_16 : decode cX7_place 16 = .ok (.invokestatic 36, 3) := by decide +kernel
theorem dX7_place_19 : decode cX7_place 19 = .ok (.aload_n 0, 1) := by decide +kernel
theorem dX7_place_20 : decode cX7_place 20 = .ok (.getfield 15, 3) := by decide +kernel
theorem dX7_place_23 : decode cX7_place 23 = .ok (.iload 4, 2) := by decide +kernel
theorem dX7_place_25 : decode cX7_place 25 = .ok (.iload_n 2, 1) := by decide +kernel
theorem dX7_place_26 : decode cX7_place 26 = .ok (.invokestatic 36, 3) := by decide +kernel
theorem dX7_place_29 : decode cX7_place 29 = .ok (.aload_n 0, 1) := by decide +kernel
theorem dX7_place_30 : decode cX7_place 30 = .ok (.getfield 18, 3) := by decide +kernel
theorem dX7_place_33 : decode cX7_place 33 = .ok (.iconst 3, 1) := by decide +kernel
theorem dX7_place_34 : decode cX7_place 34 = .ok (.iload 4, 2) := by decide +kernel
theorem dX7_place_36 : decode cX7_place 36 = .ok (.imul, 1) := by decide +kernel
theorem dX7_place_37 : decode cX7_place 37 = .ok (.aload_n 0, 1) := by decide +kernel
theorem dX7_place_38 : decode cX7_place 38 = .ok (.iload_n 1, 1) := by decide +kernel
theorem dX7_place_39 : decode cX7_place 39 = .ok (.iload_n 2, 1) := by decide +kernel
theorem dX7_place_40 : decode cX7_place 40 = .ok (.iload_n 3, 1) := by decide +kernel
theorem dX7_place_41 : decode cX7_place 41 = .ok (.invokevirtual 42, 3) := by decide +kernel
theorem dX7_place_44 : decode cX7_place 44 = .ok (.invokestatic 36, 3) := by decide +kernel
theorem dX7_place_47 : decode cX7_place 47 = .ok (.aload_n 0, 1) := by decide +kernel
theorem dX7_place_48 : decode cX7_place 48 = .ok (.getfield 18, 3) := by decide +kernel
theorem dX7_place_51 : decode cX7_place 51 = .ok (.iconst 3, 1) := by decide +kernel
theorem dX7_place_52 : decode cX7_place 52 = .ok (.iload 4, 2) := by decide +kernel
theorem dX7_place_54 : decode cX7_place 54 = .ok (.imul, 1) := by decide +kernel
theorem dX7_place_55 : decode cX7_place 55 = .ok (.iconst 1, 1) := by decide +kernel
theorem dX7_place_56 : decode cX7_place 56 = .ok (.iadd, 1) := by decide +kernel
theorem dX7_place_57 : decode cX7_place 57 = .ok (.aload_n 0, 1) := by decide +kernel
theorem dX7_place_58 : decode cX7_place 58 = .ok (.iload_n 1, 1) := by decide +kernel
theorem dX7_place_59 : decode cX7_place 59 = .ok (.iload_n 2, 1) := by decide +kernel
theorem dX7_place_60 : decode cX7_place 60 = .ok (.iload_n 3, 1) := by decide +kernel
theorem dX7_place_61 : decode cX7_place 61 = .ok (.iconst 1, 1) := by decide +kernel
theorem dX7_place_62 : decode cX7_place 62 = .ok (.iadd, 1) := by decide +kernel
theorem dX7_place_63 : decode cX7_place 63 = .ok (.iconst 3, 1) := by decide +kernel
theorem dX7_place_64 : decode cX7_place 64 = .ok (.iand, 1) := by decide +kernel
theorem dX7_place_65 : decode cX7_place 65 = .ok (.invokevirtual 32, 3) := by decide +kernel
theorem dX7_place_68 : decode cX7_place 68 = .ok (.invokestatic 36, 3) := by decide +kernel
theorem dX7_place_71 : decode cX7_place 71 = .ok (.aload_n 0, 1) := by decide +kernel
theorem dX7_place_72 : decode cX7_place 72 = .ok (.getfield 18, 3) := by decide +kernel
theorem dX7_place_75 : decode cX7_place 75 = .ok (.iconst 3, 1) := by decide +kernel
theorem dX7_place_76 : decode cX7_place 76 = .ok (.iload 4, 2) := by decide +kernel
theorem dX7_place_78 : decode cX7_place 78 = .ok (.imul, 1) := by decide +kernel
theorem dX7_place_79 : decode cX7_place 79 = .ok (.iconst 2, 1) := by decide +kernel
theorem dX7_place_80 : decode cX7_place 80 = .ok (.iadd, 1) := by decide +kernel
theorem dX7_place_81 : decode cX7_place 81 = .ok (.aload_n 0, 1) := by decide +kernel
theorem dX7_place_82 : decode cX7_place 82 = .ok (.iload_n 1, 1) := by decide +kernel
theorem dX7_place_83 : decode cX7_place 83 = .ok (.iload_n 2, 1) := by decide +kernel
theorem dX7_place_84 : decode cX7_place 84 = .ok (.iload_n 3, 1) := by decide +kernel
theorem dX7_place_85 : decode cX7_place 85 = .ok (.iconst 3, 1) := by decide +kernel
theorem dX7_place_86 : decode cX7_place 86 = .ok (.iadd, 1) := by decide +kernel
theorem dX7_place_87 : decode cX7_place 87 = .ok (.iconst 3, 1) := by decide +kernel
theorem dX7_place_88 : decode cX7_place 88 = .ok (.iand, 1) := by decide +kernel
theorem dX7_place_89 : decode cX7_place 89 = .ok (.invokevirtual 32, 3) := by decide +kernel
theorem dX7_place_92 : decode cX7_place 92 = .ok (.invokestatic 36, 3) := by decide +kernel
theorem dX7_place_95 : decode cX7_place 95 = .ok (.return_, 1) := by decide +kernel
theorem dX7_across_0 : decode cX7_across 0 = .ok (.iload_n 1, 1) := by decide +kernel
theorem dX7_across_1 : decode cX7_across 1 = .ok (.iload_n 3, 1) := by decide +kernel
theorem dX7_across_2 : decode cX7_across 2 = .ok (.iconst 1, 1) := by decide +kernel
theorem dX7_across_3 : decode cX7_across 3 = .ok (.if_icmp .ne 7, 3) := by decide +kernel
theorem dX7_across_6 : decode cX7_across 6 = .ok (.iconst 1, 1) := by decide +kernel
theorem dX7_across_7 : decode cX7_across 7 = .ok (.goto 13, 3) := by decide +kernel
theorem dX7_across_10 : decode cX7_across 10 = .ok (.iload_n 3, 1) := by decide +kernel
theorem dX7_across_11 : decode cX7_across 11 = .ok (.iconst 3, 1) := by decide +kernel
theorem dX7_across_12 : decode cX7_across 12 = .ok (.if_icmp .ne 7, 3) := by decide +kernel
theorem dX7_across_15 : decode cX7_across 15 = .ok (.iconst (-1), 1) := by decide +kernel
theorem dX7_across_16 : decode cX7_across 16 = .ok (.goto 4, 3) := by decide +kernel
theorem dX7_across_19 : decode cX7_across 19 = .ok (.iconst 0, 1) := by decide +kernel
theorem dX7_across_20 : decode cX7_across 20 = .ok (.iadd, 1) := by decide +kernel
theorem dX7_across_21 : decode cX7_across 21 = .ok (.istore 4, 2) := by decide +kernel
theorem dX7_across_23 : decode cX7_across 23 = .ok (.iload_n 2, 1) := by decide +kernel
theorem dX7_across_24 : decode cX7_across 24 = .ok (.iload_n 3, 1) := by decide +kernel
theorem dX7_across_25 : decode cX7_across 25 = .ok (.iconst 2, 1) := by decide +kernel
theorem dX7_across_26 : decode cX7_across 26 = .ok (.if_icmp .ne 7, 3) := by decide +kernel
theorem dX7_across_29 : decode cX7_across 29 = .ok (.iconst 1, 1) := by decide +kernel
theorem dX7_across_30 : decode cX7_across 30 = .ok (.goto 12, 3) := by decide +kernel
theorem dX7_across_33 : decode cX7_across 33 = .ok (.iload_n 3, 1) := by decide +kernel
theorem dX7_across_34 : decode cX7_across 34 = .ok (.ifCond .ne 7, 3) := by decide +kernel
theorem dX7_across_37 : decode cX7_across 37 = .ok (.iconst (-1), 1) := by decide +kernel
theorem dX7_across_38 : decode cX7_across 38 = .ok (.goto 4, 3) := by decide +kernel
theorem dX7_across_41 : decode cX7_across 41 = .ok (.iconst 0, 1) := by decide +kernel
theorem dX7_across_42 : decode cX7_across 42 = .ok (.iadd, 1) := by decide +kernel
theorem dX7_across_43 : decode cX7_across 43 = .ok (.istore 5, 2) := by decide +kernel
theorem dX7_across_45 : decode cX7_across 45 = .ok (.aload_n 0, 1) := by decide +kernel
theorem dX7_across_46 : decode cX7_across 46 = .ok (.iload 4, 2) := by decide +kernel
theorem dX7_across_48 : decode cX7_across 48 = .ok (.iload 5, 2) := by decide +kernel
theorem dX7_across_50 : decode cX7_across 50 = .ok (.invokevirtual 45, 3) := by decide +kernel
theorem dX7_across_53 : decode cX7_across 53 = .ok (.ifCond .eq 17, 3) := by decide +kernel
theorem dX7_across_56 : decode cX7_across 56 = .ok (.aload_n 0, 1) := by decide +kernel
theorem dX7_across_57 : decode cX7_across 57 = .ok (.iload 4, 2) := by decide +kernel
theorem dX7_across_59 : decode cX7_across 59 = .ok (.iload 5, 2) := by decide +kernel
theorem dX7_across_61 : decode cX7_across 61 = .ok (.iload_n 3, 1) := by decide +kernel
theorem dX7_across_62 : decode cX7_across 62 = .ok (.iconst 2, 1) := by decide +kernel
theorem dX7_across_63 : decode cX7_across 63 = .ok (.ixor, 1) := by decide +kernel
theorem dX7_across_64 : decode cX7_across 64 = .ok (.invokevirtual 32, 3) := by decide +kernel
theorem dX7_across_67 : decode cX7_across 67 = .ok (.goto 5, 3) := by decide +kernel
theorem dX7_across_70 : decode cX7_across 70 = .ok (.ldc 49, 2) := by decide +kernel
theorem dX7_across_72 : decode cX7_across 72 = .ok (.ireturn, 1) := by decide +kernel
theorem dX7_has_0 : decode cX7_has 0 = .ok (.iload_n 1, 1) := by decide +kernel
theorem dX7_has_1 : decode cX7_has 1 = .ok (.ifCond .lt 15, 3) := by decide +kernel
theorem dX7_has_4 : decode cX7_has 4 = .ok (.iload_n 1, 1) := by decide +kernel
theorem dX7_has_5 : decode cX7_has 5 = .ok (.aload_n 0, 1) := by decide +kernel
theorem dX7_has_6 : decode cX7_has 6 = .ok (.getfield 25, 3) := by decide +kernel
theorem dX7_has_9 : decode cX7_has 9 = .ok (.if_icmp .ge 7, 3) := by decide +kernel
theorem dX7_has_12 : decode cX7_has 12 = .ok (.iconst 1, 1) := by decide +kernel
theorem dX7_has_13 : decode cX7_has 13 = .ok (.goto 4, 3) := by decide +kernel
theorem dX7_has_16 : decode cX7_has 16 = .ok (.iconst 0, 1) := by decide +kernel
theorem dX7_has_17 : decode cX7_has 17 = .ok (.ireturn, 1) := by decide +kernel
theorem dX7_hasCell_0 : decode cX7_hasCell 0 = .ok (.iload_n 1, 1) := by decide +kernel
theorem dX7_hasCell_1 : decode cX7_hasCell 1 = .ok (.ifCond .lt 27, 3) := by decide +kernel
theorem dX7_hasCell_4 : decode cX7_hasCell 4 = .ok (.iload_n 1, 1) := by decide +kernel
theorem dX7_hasCell_5 : decode cX7_hasCell 5 = .ok (.aload_n 0, 1) := by decide +kernel
theorem dX7_hasCell_6 : decode cX7_hasCell 6 = .ok (.getfield 21, 3) := by decide +kernel
theorem dX7_hasCell_9 : decode cX7_hasCell 9 = .ok (.if_icmp .ge 19, 3) := by decide +kernel
theorem dX7_hasCell_12 : decode cX7_hasCell 12 = .ok (.iload_n 2, 1) := by decide +kernel
theorem dX7_hasCell_13 : decode cX7_hasCell 13 = .ok (.ifCond .lt 15, 3) := by decide +kernel
theorem dX7_hasCell_16 : decode cX7_hasCell 16 = .ok (.iload_n 2, 1) := by decide +kernel
theorem dX7_hasCell_17 : decode cX7_hasCell 17 = .ok (.aload_n 0, 1) := by decide +kernel
theorem dX7_hasCell_18 : decode cX7_hasCell 18 = .ok (.getfield 21, 3) := by decide +kernel
theorem dX7_hasCell_21 : decode cX7_hasCell 21 = .ok (.if_icmp .ge 7, 3) := by decide +kernel
theorem dX7_hasCell_24 : decode cX7_hasCell 24 = .ok (.iconst 1, 1) := by decide +kernel
theorem dX7_hasCell_25 : decode cX7_hasCell 25 = .ok (.goto 4, 3) := by decide +kernel
theorem dX7_hasCell_28 : decode cX7_hasCell 28 = .ok (.iconst 0, 1) := by decide +kernel
theorem dX7_hasCell_29 : decode cX7_hasCell 29 = .ok (.ireturn, 1) := by decide +kernel
theorem dX7_hasPoint_0 : decode cX7_hasPoint 0 = .ok (.iload_n 3, 1) := by decide +kernel
theorem dX7_hasPoint_1 : decode cX7_hasPoint 1 = .ok (.ifCond .eq 12, 3) := by decide +kernel
theorem dX7_hasPoint_4 : decode cX7_hasPoint 4 = .ok (.aload_n 0, 1) := by decide +kernel
theorem dX7_hasPoint_5 : decode cX7_hasPoint 5 = .ok (.iload_n 1, 1) := by decide +kernel
theorem dX7_hasPoint_6 : decode cX7_hasPoint 6 = .ok (.iload_n 2, 1) := by decide +kernel
theorem dX7_hasPoint_7 : decode cX7_hasPoint 7 = .ok (.invokevirtual 45, 3) := by decide +kernel
theorem dX7_hasPoint_10 : decode cX7_hasPoint 10 = .ok (.goto 32, 3) := by decide +kernel
theorem dX7_hasPoint_13 : decode cX7_hasPoint 13 = .ok (.iload_n 1, 1) := by decide +kernel
theorem dX7_hasPoint_14 : decode cX7_hasPoint 14 = .ok (.ifCond .lt 27, 3) := by decide +kernel
theorem dX7_hasPoint_17 : decode cX7_hasPoint 17 = .ok (.iload_n 1, 1) := by decide +kernel
theorem dX7_hasPoint_18 : decode cX7_hasPoint 18 = .ok (.aload_n 0, 1) := by decide +kernel
theorem dX7_hasPoint_19 : decode cX7_hasPoint 19 = .ok (.getfield 21, 3) := by decide +kernel
theorem dX7_hasPoint_22 : decode cX7_hasPoint 22 = .ok (.if_icmp .gt 19, 3) := by decide +kernel
theorem dX7_hasPoint_25 : decode cX7_hasPoint 25 = .ok (.iload_n 2, 1) := by decide +kernel
theorem dX7_hasPoint_26 : decode cX7_hasPoint 26 = .ok (.ifCond .lt 15, 3) := by decide +kernel
theorem dX7_hasPoint_29 : decode cX7_hasPoint 29 = .ok (.iload_n 2, 1) := by decide +kernel
theorem dX7_hasPoint_30 : decode cX7_hasPoint 30 = .ok (.aload_n 0, 1) := by decide +kernel
theorem dX7_hasPoint_31 : decode cX7_hasPoint 31 = .ok (.getfield 21, 3) := by decide +kernel
theorem dX7_hasPoint_34 : decode cX7_hasPoint 34 = .ok (.if_icmp .gt 7, 3) := by decide +kernel
theorem dX7_hasPoint_37 : decode cX7_hasPoint 37 = .ok (.iconst 1, 1) := by decide +kernel
theorem dX7_hasPoint_38 : decode cX7_hasPoint 38 = .ok (.goto 4, 3) := by decide +kernel
theorem dX7_hasPoint_41 : decode cX7_hasPoint 41 = .ok (.iconst 0, 1) := by decide +kernel
theorem dX7_hasPoint_42 : decode cX7_hasPoint 42 = .ok (.ireturn, 1) := by decide +kernel
theorem dX7_leaf_0 : decode cX7_leaf 0 = .ok (.iconst 4, 1) := by decide +kernel
theorem dX7_leaf_1 : decode cX7_leaf 1 = .ok (.iload_n 2, 1) := by decide +kernel
theorem dX7_leaf_2 : decode cX7_leaf 2 = .ok (.aload_n 0, 1) := by decide +kernel
theorem dX7_leaf_3 : decode cX7_leaf 3 = .ok (.getfield 21, 3) := by decide +kernel
theorem dX7_leaf_6 : decode cX7_leaf 6 = .ok (.imul, 1) := by decide +kernel
theorem dX7_leaf_7 : decode cX7_leaf 7 = .ok (.iload_n 1, 1) := by decide +kernel
theorem dX7_leaf_8 : decode cX7_leaf 8 = .ok (.iadd, 1) := by decide +kernel
theorem dX7_leaf_9 : decode cX7_leaf 9 = .ok (.imul, 1) := by decide +kernel
theorem dX7_leaf_10 : decode cX7_leaf 10 = .ok (.iload_n 3, 1) := by decide +kernel
theorem dX7_leaf_11 : decode cX7_leaf 11 = .ok (.iadd, 1) := by decide +kernel
theorem dX7_leaf_12 : decode cX7_leaf 12 = .ok (.ireturn, 1) := by decide +kernel
theorem dX7_x_0 : decode cX7_x 0 = .ok (.aload_n 0, 1) := by decide +kernel
theorem dX7_x_1 : decode cX7_x 1 = .ok (.getfield 9, 3) := by decide +kernel
theorem dX7_x_4 : decode cX7_x 4 = .ok (.iload_n 1, 1) := by decide +kernel
theorem dX7_x_5 : decode cX7_x 5 = .ok (.invokestatic 50, 3) := by decide +kernel
theorem dX7_x_8 : decode cX7_x 8 = .ok (.ireturn, 1) := by decide +kernel
theorem dX7_y_0 : decode cX7_y 0 = .ok (.aload_n 0, 1) := by decide +kernel
theorem dX7_y_1 : decode cX7_y 1 = .ok (.getfield 15, 3) := by decide +kernel
theorem dX7_y_4 : decode cX7_y 4 = .ok (.iload_n 1, 1) := by decide +kernel
theorem dX7_y_5 : decode cX7_y 5 = .ok (.invokestatic 50, 3) := by decide +kernel
theorem dX7_y_8 : decode cX7_y 8 = .ok (.ireturn, 1) := by decide +kernel
theorem dX7_quarter_0 : decode cX7_quarter 0 = .ok (.iload_n 1, 1) := by decide +kernel
theorem dX7_quarter_1 : decode cX7_quarter 1 = .ok (.iconst 3, 1) := by decide +kernel
theorem dX7_quarter_2 : decode cX7_quarter 2 = .ok (.iand, 1) := by decide +kernel
theorem dX7_quarter_3 : decode cX7_quarter 3 = .ok (.ireturn, 1) := by decide +kernel
theorem dX7_distance_0 : decode cX7_distance 0 = .ok (.aload_n 0, 1) := by decide +kernel
theorem dX7_distance_1 : decode cX7_distance 1 = .ok (.iload_n 1, 1) := by decide +kernel
theorem dX7_distance_2 : decode cX7_distance 2 = .ok (.invokevirtual 54, 3) := by decide +kernel
theorem dX7_distance_5 : decode cX7_distance 5 = .ok (.aload_n 0, 1) := by decide +kernel
theorem dX7_distance_6 : decode cX7_distance 6 = .ok (.iload_n 2, 1) := by decide +kernel
theorem dX7_distance_7 : decode cX7_distance 7 = .ok (.invokevirtual 54, 3) := by decide +kernel
theorem dX7_distance_10 : decode cX7_distance 10 = .ok (.isub, 1) := by decide +kernel
theorem dX7_distance_11 : decode cX7_distance 11 = .ok (.invokestatic 58, 3) := by decide +kernel
theorem dX7_distance_14 : decode cX7_distance 14 = .ok (.aload_n 0, 1) := by decide +kernel
theorem dX7_distance_15 : decode cX7_distance 15 = .ok (.iload_n 1, 1) := by decide +kernel
theorem dX7_distance_16 : decode cX7_distance 16 = .ok (.invokevirtual 63, 3) := by decide +kernel
theorem dX7_distance_19 : decode cX7_distance 19 = .ok (.aload_n 0, 1) := by decide +kernel
theorem dX7_distance_20 : decode cX7_distance 20 = .ok (.iload_n 2, 1) := by decide +kernel
theorem dX7_distance_21 : decode cX7_distance 21 = .ok (.invokevirtual 63, 3) := by decide +kernel
theorem dX7_distance_24 : decode cX7_distance 24 = .ok (.isub, 1) := by decide +kernel
theorem dX7_distance_25 : decode cX7_distance 25 = .ok (.invokestatic 58, 3) := by decide +kernel
theorem dX7_distance_28 : decode cX7_distance 28 = .ok (.invokestatic 66, 3) := by decide +kernel
theorem dX7_distance_31 : decode cX7_distance 31 = .ok (.ireturn, 1) := by decide +kernel
theorem dX7_beside_0 : decode cX7_beside 0 = .ok (.aload_n 0, 1) := by decide +kernel
theorem dX7_beside_1 : decode cX7_beside 1 = .ok (.getfield 18, 3) := by decide +kernel
theorem dX7_beside_4 : decode cX7_beside 4 = .ok (.iconst 3, 1) := by decide +kernel
theorem dX7_beside_5 : decode cX7_beside 5 = .ok (.iload_n 1, 1) := by decide +kernel
theorem dX7_beside_6 : decode cX7_beside 6 = .ok (.imul, 1) := by decide +kernel
theorem dX7_beside_7 : decode cX7_beside 7 = .ok (.iload_n 2, 1) := by decide +kernel
theorem dX7_beside_8 : decode cX7_beside 8 = .ok (.iadd, 1) := by decide +kernel
theorem dX7_beside_9 : decode cX7_beside 9 = .ok (.invokestatic 50, 3) := by decide +kernel
theorem dX7_beside_12 : decode cX7_beside 12 = .ok (.ireturn, 1) := by decide +kernel
theorem dX8_init_0 : decode cX8_init 0 = .ok (.aload_n 0, 1) := by decide +kernel
theorem dX8_init_1 : decode cX8_init 1 = .ok (.invokespecial 3, 3) := by decide +kernel
theorem dX8_init_4 : decode cX8_init 4 = .ok (.aload_n 0, 1) := by decide +kernel
theorem dX8_init_5 : decode cX8_init 5 = .ok (.sipush 144, 3) := by decide +kernel
theorem dX8_init_8 : decode cX8_init 8 = .ok (.newarray .int, 2) := by decide +kernel
theorem dX8_init_10 : decode cX8_init 10 = .ok (.putfield 9, 3) := by decide +kernel
theorem dX8_init_13 : decode cX8_init 13 = .ok (.aload_n 0, 1) := by decide +kernel
theorem dX8_init_14 : decode cX8_init 14 = .ok (.sipush 144, 3) := by decide +kernel
theorem dX8_init_17 : decode cX8_init 17 = .ok (.newarray .int, 2) := by decide +kernel
theorem dX8_init_19 : decode cX8_init 19 = .ok (.putfield 15, 3) := by decide +kernel
theorem dX8_init_22 : decode cX8_init 22 = .ok (.aload_n 0, 1) := by decide +kernel
theorem dX8_init_23 : decode cX8_init 23 = .ok (.sipush 144, 3) := by decide +kernel
theorem dX8_init_26 : decode cX8_init 26 = .ok (.newarray .int, 2) := by decide +kernel
theorem dX8_init_28 : decode cX8_init 28 = .ok (.putfield 18, 3) := by decide +kernel
theorem dX8_init_31 : decode cX8_init 31 = .ok (.aload_n 0, 1) := by decide +kernel
theorem dX8_init_32 : decode cX8_init 32 = .ok (.aload_n 1, 1) := by decide +kernel
theorem dX8_init_33 : decode cX8_init 33 = .ok (.putfield 21, 3) := by decide +kernel
theorem dX8_init_36 : decode cX8_init 36 = .ok (.return_, 1) := by decide +kernel
theorem dX8_mend_0 : decode cX8_mend 0 = .ok (.aload_n 0, 1) := by decide +kernel
theorem dX8_mend_1 : decode cX8_mend 1 = .ok (.iconst 0, 1) := by decide +kernel
theorem dX8_mend_2 : decode cX8_mend 2 = .ok (.putfield 25, 3) := by decide +kernel
theorem dX8_mend_5 : decode cX8_mend 5 = .ok (.aload_n 0, 1) := by decide +kernel
theorem dX8_mend_6 : decode cX8_mend 6 = .ok (.iconst 0, 1) := by decide +kernel
theorem dX8_mend_7 : decode cX8_mend 7 = .ok (.putfield 29, 3) := by decide +kernel
theorem dX8_mend_10 : decode cX8_mend 10 = .ok (.aload_n 0, 1) := by decide +kernel
theorem dX8_mend_11 : decode cX8_mend 11 = .ok (.getfield 9, 3) := by decide +kernel
theorem dX8_mend_14 : decode cX8_mend 14 = .ok (.iconst 0, 1) := by decide +kernel
theorem dX8_mend_15 : decode cX8_mend 15 = .ok (.invokestatic 33, 3) := by decide +kernel
theorem dX8_mend_18 : decode cX8_mend 18 = .ok (.aload_n 0, 1) := by decide +kernel
theorem dX8_mend_19 : decode cX8_mend 19 = .ok (.invokevirtual 39, 3) := by decide +kernel
theorem dX8_mend_22 : decode cX8_mend 22 = .ok (.return_, 1) := by decide +kernel
theorem dX8_drop_0 : decode cX8_drop 0 = .ok (.aload_n 0, 1) := by decide +kernel
theorem dX8_drop_1 : decode cX8_drop 1 = .ok (.iconst 1, 1) := by decide +kernel
theorem dX8_drop_2 : decode cX8_drop 2 = .ok (.putfield 25, 3) := by decide +kernel
theorem dX8_drop_5 : decode cX8_drop 5 = .ok (.aload_n 0, 1) := by decide +kernel
theorem dX8_drop_6 : decode cX8_drop 6 = .ok (.iconst 0, 1) := by decide +kernel
theorem dX8_drop_7 : decode cX8_drop 7 = .ok (.putfield 29, 3) := by decide +kernel
theorem dX8_drop_10 : decode cX8_drop 10 = .ok (.iconst 0, 1) := by decide +kernel
theorem dX8_drop_11 : decode cX8_drop 11 = .ok (.istore 5, 2) := by decide +kernel
theorem dX8_drop_13 : decode cX8_drop 13 = .ok (.iload 5, 2) := by decide +kernel
theorem dX8_drop_15 : decode cX8_drop 15 = .ok (.aload_n 0, 1) := by decide +kernel
theorem dX8_drop_16 : decode cX8_drop 16 = .ok (.getfield 21, 3) := by decide +kernel
theorem dX8_drop_19 : decode cX8_drop 19 = .ok (.getfield 42, 3) := by decide +kernel
theorem dX8_drop_22 : decode cX8_drop 22 = .ok (.if_icmp .ge 46, 3) := by decide +kernel
theorem dX8_drop_25 : decode cX8_drop 25 = .ok (.aload_n 1, 1) := by decide +kernel
theorem dX8_drop_26 : decode cX8_drop 26 = .ok (.iload 5, 2) := by decide +kernel
theorem dX8_drop_28 : decode cX8_drop 28 = .ok (.iload_n 2, 1) := by decide +kernel
theorem dX8_drop_29 : decode cX8_drop 29 = .ok (.iload_n 3, 1) := by decide +kernel
theorem dX8_drop_30 : decode cX8_drop 30 = .ok (.iload 4, 2) := by decide +kernel
theorem dX8_drop_32 : decode cX8_drop 32 = .ok (.invokevirtual 47, 3) := by decide +kernel
theorem dX8_drop_35 : decode cX8_drop 35 = .ok (.invokestatic 53, 3) := by decide +kernel
theorem dX8_drop_38 : decode cX8_drop 38 = .ok (.istore 6, 2) := by decide +kernel
theorem dX8_drop_40 : decode cX8_drop 40 = .ok (.aload_n 0, 1) := by decide +kernel
theorem dX8_drop_41 : decode cX8_drop 41 = .ok (.getfield 9, 3) := by decide +kernel
theorem dX8_drop_44 : decode cX8_drop 44 = .ok (.iload 5, 2) := by decide +kernel
theorem dX8_drop_46 : decode cX8_drop 46 = .ok (.iload 6, 2) := by decide +kernel
theorem dX8_drop_48 : decode cX8_drop 48 = .ok (.invokestatic 57, 3) := by decide +kernel
theorem dX8_drop_51 : decode cX8_drop 51 = .ok (.aload_n 0, 1) := by decide +kernel
theorem dX8_drop_52 : decode cX8_drop 52 = .ok (.dup, 1) := by decide +kernel
theorem dX8_drop_53 : decode cX8_drop 53 = .ok (.getfield 29, 3) := by decide +kernel
theorem dX8_drop_56 : decode cX8_drop 56 = .ok (.iload 6, 2) := by decide +kernel
theorem dX8_drop_58 : decode cX8_drop 58 = .ok (.iadd, 1) := by decide +kernel
theorem dX8_drop_59 : decode cX8_drop 59 = .ok (.putfield 29, 3) := by decide +kernel
theorem dX8_drop_62 : decode cX8_drop 62 = .ok (.iinc 5 1, 3) := by decide +kernel
theorem dX8_drop_65 : decode cX8_drop 65 = .ok (.goto (-52), 3) := by decide +kernel
theorem dX8_drop_68 : decode cX8_drop 68 = .ok (.aload_n 0, 1) := by decide +kernel
theorem dX8_drop_69 : decode cX8_drop 69 = .ok (.invokevirtual 39, 3) := by decide +kernel
theorem dX8_drop_72 : decode cX8_drop 72 = .ok (.return_, 1) := by decide +kernel
theorem dX8_isDown_0 : decode cX8_isDown 0 = .ok (.aload_n 0, 1) := by decide +kernel
theorem dX8_isDown_1 : decode cX8_isDown 1 = .ok (.getfield 9, 3) := by decide +kernel
theorem dX8_isDown_4 : decode cX8_isDown 4 = .ok (.iload_n 1, 1) := by decide +kernel
theorem dX8_isDown_5 : decode cX8_isDown 5 = .ok (.invokestatic 61, 3) := by decide +kernel
theorem dX8_isDown_8 : decode cX8_isDown 8 = .ok (.iconst 1, 1) := by decide +kernel
theorem dX8_isDown_9 : decode cX8_isDown 9 = .ok (.if_icmp .ne 7, 3) := by decide +kernel
theorem dX8_isDown_12 : decode cX8_isDown 12 = .ok (.iconst 1, 1) := by decide +kernel
theorem dX8_isDown_13 : decode cX8_isDown 13 = .ok (.goto 4, 3) := by decide +kernel
theorem dX8_isDown_16 : decode cX8_isDown 16 = .ok (.iconst 0, 1) := by decide +kernel
theorem dX8_isDown_17 : decode cX8_isDown 17 = .ok (.ireturn, 1) := by decide +kernel
theorem dX8_leastOf_0 : decode cX8_leastOf 0 = .ok (.aload_n 0, 1) := by decide +kernel
theorem dX8_leastOf_1 : decode cX8_leastOf 1 = .ok (.getfield 15, 3) := by decide +kernel
theorem dX8_leastOf_4 : decode cX8_leastOf 4 = .ok (.iload_n 1, 1) := by decide +kernel
theorem dX8_leastOf_5 : decode cX8_leastOf 5 = .ok (.invokestatic 61, 3) := by decide +kernel
theorem dX8_leastOf_8 : decode cX8_leastOf 8 = .ok (.ireturn, 1) := by decide +kernel
theorem dX8_part_0 : decode cX8_part 0 = .ok (.aload_n 0, 1) := by decide +kernel
theorem dX8_part_1 : decode cX8_part 1 = .ok (.getfield 15, 3) := by decide +kernel
theorem dX8_part_4 : decode cX8_part 4 = .ok (.ldc 65, 2) := by decide +kernel
theorem dX8_part_6 : decode cX8_part 6 = .ok (.invokestatic 33, 3) := by decide +kernel
theorem dX8_part_9 : decode cX8_part 9 = .ok (.iconst 0, 1) := by decide +kernel
theorem dX8_part_10 : decode cX8_part 10 = .ok (.istore_n 1, 1) := by decide +kernel
theorem dX8_part_11 : decode cX8_part 11 = .ok (.iload_n 1, 1) := by decide +kernel
theorem dX8_part_12 : decode cX8_part 12 = .ok (.aload_n 0, 1) := by decide +kernel
theorem dX8_part_13 : decode cX8_part 13 = .ok (.getfield 21, 3) := by decide +kernel
theorem dX8_part_16 : decode cX8_part 16 = .ok (.getfield 42, 3) := by decide +kernel
theorem dX8_part_19 : decode cX8_part 19 = .ok (.if_icmp .ge 24, 3) := by decide +kernel
theorem dX8_part_22 : decode cX8_part 22 = .ok (.aload_n 0, 1) := by decide +kernel
theorem dX8_part_23 : decode cX8_part 23 = .ok (.iload_n 1, 1) := by decide +kernel
theorem dX8_part_24 : decode cX8_part 24 = .ok (.invokevirtual 66, 3) := by decide +kernel
theorem dX8_part_27 : decode cX8_part 27 = .ok (.ldc 65, 2) := by decide +kernel
theorem dX8_part_29 : decode cX8_part 29 = .ok (.if_icmp .ne 8, 3) := by decide +kernel
theorem dX8_part_32 : decode cX8_part 32 = .ok (.aload_n 0, 1) := by decide +kernel
theorem dX8_part_33 : decode cX8_part 33 = .ok (.iload_n 1, 1) := by decide +kernel
theorem dX8_part_34 : decode cX8_part 34 = .ok (.invokevirtual 70, 3) := by decide +kernel
theorem dX8_part_37 : decode cX8_part 37 = .ok (.iinc 1 1, 3) := by decide +kernel
theorem dX8_part_40 : decode cX8_part 40 = .ok (.goto (-29), 3) := by decide +kernel
theorem dX8_part_43 : decode cX8_part 43 = .ok (.return_, 1) := by decide +kernel
theorem dX8_gather_0 : decode cX8_gather 0 = .ok (.aload_n 0, 1) := by decide +kernel
theorem dX8_gather_1 : decode cX8_gather 1 = .ok (.getfield 15, 3) := by decide +kernel
theorem dX8_gather_4 : decode cX8_gather 4 = .ok (.iload_n 1, 1) := by decide +kernel
theorem dX8_gather_5 : decode cX8_gather 5 = .ok (.iload_n 1, 1) := by decide +kernel
theorem dX8_gather_6 : decode cX8_gather 6 = .ok (.invokestatic 57, 3) := by decide +kernel
theorem dX8_gather_9 : decode cX8_gather 9 = .ok (.aload_n 0, 1) := by decide +kernel
theorem dX8_gather_10 : decode cX8_gather 10 = .ok (.getfield 18, 3) := by decide +kernel
theorem dX8_gather_13 : decode cX8_gather 13 = .ok (.iconst 0, 1) := by decide +kernel
theorem dX8_gather_14 : decode cX8_gather 14 = .ok (.iload_n 1, 1) := by decide +kernel
theorem dX8_gather_15 : decode cX8_gather 15 = .ok (.invokestatic 57, 3) := by decide +kernel
theorem dX8_gather_18 : decode cX8_gather 18 = .ok (.iconst 1, 1) := by decide +kernel
theorem dX8_gather_19 : decode cX8_gather 19 = .ok (.istore_n 2, 1) := by decide +kernel
theorem dX8_gather_20 : decode cX8_gather 20 = .ok (.iconst 0, 1) := by decide +kernel
theorem dX8_gather_21 : decode cX8_gather 21 = .ok (.istore_n 3, 1) := by decide +kernel
theorem dX8_gather_22 : decode cX8_gather 22 = .ok (.iload_n 3, 1) := by decide +kernel
theorem dX8_gather_23 : decode cX8_gather 23 = .ok (.iload_n 2, 1) := by decide +kernel
theorem dX8_gather_24 : decode cX8_gather 24 = .ok (.if_icmp .ge 110, 3) := by decide +kernel
theorem dX8_gather_27 : decode cX8_gather 27 = .ok (.iload_n 3, 1) := by decide +kernel
theorem dX8_gather_28 : decode cX8_gather 28 = .ok (.sipush 144, 3) := by decide +kernel
theorem dX8_gather_31 : decode cX8_gather 31 = .ok (.if_icmp .ge 103, 3) := by decide +kernel
theorem dX8_gather_34 : decode cX8_gather 34 = .ok (.aload_n 0, 1) := by decide +kernel
theorem dX8_gather_35 : decode cX8_gather 35 = .ok (.getfield 18, 3) := by decide +kernel
theorem dX8_gather_38 : decode cX8_gather 38 = .ok (.iload_n 3, 1) := by decide +kernel
theorem dX8_gather_39 : decode cX8_gather 39 = .ok (.invokestatic 61, 3) := by decide +kernel
theorem dX8_gather_42 : decode cX8_gather 42 = .ok (.istore 4, 2) := by decide +kernel
theorem dX8_gather_44 : decode cX8_gather 44 = .ok (.iconst 0, 1) := by decide +kernel
theorem dX8_gather_45 : decode cX8_gather 45 = .ok (.istore 5, 2) := by decide +kernel
theorem dX8_gather_47 : decode cX8_gather 47 = .ok (.iload 5, 2) := by decide +kernel
theorem dX8_gather_49 : decode cX8_gather 49 = .ok (.iconst 3, 1) := by decide +kernel
theorem dX8_gather_50 : decode cX8_gather 50 = .ok (.if_icmp .ge 78, 3) := by decide +kernel
theorem dX8_gather_53 : decode cX8_gather 53 = .ok (.aload_n 0, 1) := by decide +kernel
theorem dX8_gather_54 : decode cX8_gather 54 = .ok (.getfield 21, 3) := by decide +kernel
theorem dX8_gather_57 : decode cX8_gather 57 = .ok (.iload 4, 2) := by decide +kernel
theorem dX8_gather_59 : decode cX8_gather 59 = .ok (.iload 5, 2) := by decide +kernel
theorem dX8_gather_61 : decode cX8_gather 61 = .ok (.invokevirtual 74, 3) := by decide +kernel
theorem dX8_gather_64 : decode cX8_gather 64 = .ok (.istore 6, 2) := by decide +kernel
theorem dX8_gather_66 : decode cX8_gather 66 = .ok (.iload 6, 2) := by decide +kernel
theorem dX8_gather_68 : decode cX8_gather 68 = .ok (.ldc 65, 2) := by decide +kernel
theorem dX8_gather_70 : decode cX8_gather 70 = .ok (.if_icmp .eq 52, 3) := by decide +kernel
theorem dX8_gather_73 : decode cX8_gather 73 = .ok (.aload_n 0, 1) := by decide +kernel
theorem dX8_gather_74 : decode cX8_gather 74 = .ok (.iload 6, 2) := by decide +kernel
theorem dX8_gather_76 : decode cX8_gather 76 = .ok (.invokevirtual 66, 3) := by decide +kernel
theorem dX8_gather_79 : decode cX8_gather 79 = .ok (.ldc 65, 2) := by decide +kernel
theorem dX8_gather_81 : decode cX8_gather 81 = .ok (.if_icmp .ne 41, 3) := by decide +kernel
theorem dX8_gather_84 : decode cX8_gather 84 = .ok (.aload_n 0, 1) := by decide +kernel
theorem dX8_gather_85 : decode cX8_gather 85 = .ok (.iload 6, 2) := by decide +kernel
theorem dX8_gather_87 : decode cX8_gather 87 = .ok (.invokevirtual 78, 3) := by decide +kernel
theorem dX8_gather_90 : decode cX8_gather 90 = .ok (.aload_n 0, 1) := by decide +kernel
theorem dX8_gather_91 : decode cX8_gather 91 = .ok (.iload 4, 2) := by decide +kernel
theorem dX8_gather_93 : decode cX8_gather 93 = .ok (.invokevirtual 78, 3) := by decide +kernel
theorem dX8_gather_96 : decode cX8_gather 96 = .ok (.if_icmp .ne 26, 3) := by decide +kernel
theorem dX8_gather_99 : decode cX8_gather 99 = .ok (.aload_n 0, 1) := by decide +kernel
theorem dX8_gather_100 : decode cX8_gather 100 = .ok (.getfield 15, 3) := by decide +kernel
theorem dX8_gather_103 : decode cX8_gather 103 = .ok (.iload 6, 2) := by decide +kernel
theorem dX8_gather_105 : decode cX8_gather 105 = .ok (.iload_n 1, 1) := by decide +kernel
theorem dX8_gather_106 : decode cX8_gather 106 = .ok (.invokestatic 57, 3) := by decide +kernel
theorem dX8_gather_109 : decode cX8_gather 109 = .ok (.aload_n 0, 1) := by decide +kernel
theorem dX8_gather_110 : decode cX8_gather 110 = .ok (.getfield 18, 3) := by decide +kernel
theorem dX8_gather_113 : decode cX8_gather 113 = .ok (.iload_n 2, 1) := by decide +kernel
theorem dX8_gather_114 : decode cX8_gather 114 = .ok (.iload 6, 2) := by decide +kernel
theorem dX8_gather_116 : decode cX8_gather 116 = .ok (.invokestatic 57, 3) := by decide +kernel
theorem dX8_gather_119 : decode cX8_gather 119 = .ok (.iinc 2 1, 3) := by decide +kernel
theorem dX8_gather_122 : decode cX8_gather 122 = .ok (.iinc 5 1, 3) := by decide +kernel
theorem dX8_gather_125 : decode cX8_gather 125 = .ok (.goto (-78), 3) := by decide +kernel
theorem dX8_gather_128 : decode cX8_gather 128 = .ok (.iinc 3 1, 3) := by decide +kernel
theorem dX8_gather_131 : decode cX8_gather 131 = .ok (.goto (-109), 3) := by decide +kernel
theorem dX8_gather_134 : decode cX8_gather 134 = .ok (.return_, 1) := by decide +kernel
theorem dX8_total_0 : decode cX8_total 0 = .ok (.iconst 0, 1) := by decide +kernel
theorem dX8_total_1 : decode cX8_total 1 = .ok (.istore_n 2, 1) := by decide +kernel
theorem dX8_total_2 : decode cX8_total 2 = .ok (.iconst 0, 1) := by decide +kernel
theorem dX8_total_3 : decode cX8_total 3 = .ok (.istore_n 3, 1) := by decide +kernel
theorem dX8_total_4 : decode cX8_total 4 = .ok (.iload_n 3, 1) := by decide +kernel
theorem dX8_total_5 : decode cX8_total 5 = .ok (.aload_n 0, 1) := by decide +kernel
theorem dX8_total_6 : decode cX8_total 6 = .ok (.getfield 21, 3) := by decide +kernel
theorem dX8_total_9 : decode cX8_total 9 = .ok (.getfield 42, 3) := by decide +kernel
theorem dX8_total_12 : decode cX8_total 12 = .ok (.if_icmp .ge 38, 3) := by decide +kernel
theorem dX8_total_15 : decode cX8_total 15 = .ok (.iload_n 2, 1) := by decide +kernel
theorem dX8_total_16 : decode cX8_total 16 = .ok (.aload_n 0, 1) := by decide +kernel
theorem dX8_total_17 : decode cX8_total 17 = .ok (.iload_n 3, 1) := by decide +kernel
theorem dX8_total_18 : decode cX8_total 18 = .ok (.invokevirtual 66, 3) := by decide +kernel
theorem dX8_total_21 : decode cX8_total 21 = .ok (.iload_n 3, 1) := by decide +kernel
theorem dX8_total_22 : decode cX8_total 22 = .ok (.if_icmp .ne 16, 3) := by decide +kernel
theorem dX8_total_25 : decode cX8_total 25 = .ok (.aload_n 0, 1) := by decide +kernel
theorem dX8_total_26 : decode cX8_total 26 = .ok (.iload_n 3, 1) := by decide +kernel
theorem dX8_total_27 : decode cX8_total 27 = .ok (.invokevirtual 78, 3) := by decide +kernel
theorem dX8_total_30 : decode cX8_total 30 = .ok (.iload_n 1, 1) := by decide +kernel
theorem dX8_total_31 : decode cX8_total 31 = .ok (.if_icmp .ne 7, 3) := by decide +kernel
theorem dX8_total_34 : decode cX8_total 34 = .ok (.iconst 1, 1) := by decide +kernel
theorem dX8_total_35 : decode cX8_total 35 = .ok (.goto 4, 3) := by decide +kernel
theorem dX8_total_38 : decode cX8_total 38 = .ok (.iconst 0, 1) := by decide +kernel
theorem dX8_total_39 : decode cX8_total 39 = .ok (.invokestatic 53, 3) := by decide +kernel
theorem dX8_total_42 : decode cX8_total 42 = .ok (.iadd, 1) := by decide +kernel
theorem dX8_total_43 : decode cX8_total 43 = .ok (.istore_n 2, 1) := by decide +kernel
theorem dX8_total_44 : decode cX8_total 44 = .ok (.iinc 3 1, 3) := by decide +kernel
theorem dX8_total_47 : decode cX8_total 47 = .ok (.goto (-43), 3) := by decide +kernel
theorem dX8_total_50 : decode cX8_total 50 = .ok (.iload_n 2, 1) := by decide +kernel
theorem dX8_total_51 : decode cX8_total 51 = .ok (.ireturn, 1) := by decide +kernel
theorem dX8_inner_0 : decode cX8_inner 0 = .ok (.iconst 0, 1) := by decide +kernel
theorem dX8_inner_1 : decode cX8_inner 1 = .ok (.istore_n 1, 1) := by decide +kernel
theorem dX8_inner_2 : decode cX8_inner 2 = .ok (.iconst 0, 1) := by decide +kernel
theorem dX8_inner_3 : decode cX8_inner 3 = .ok (.istore_n 2, 1) := by decide +kernel
theorem dX8_inner_4 : decode cX8_inner 4 = .ok (.iload_n 2, 1) := by decide +kernel
theorem dX8_inner_5 : decode cX8_inner 5 = .ok (.aload_n 0, 1) := by decide +kernel
theorem dX8_inner_6 : decode cX8_inner 6 = .ok (.getfield 21, 3) := by decide +kernel
theorem dX8_inner_9 : decode cX8_inner 9 = .ok (.getfield 42, 3) := by decide +kernel
theorem dX8_inner_12 : decode cX8_inner 12 = .ok (.if_icmp .ge 45, 3) := by decide +kernel
theorem dX8_inner_15 : decode cX8_inner 15 = .ok (.iload_n 1, 1) := by decide +kernel
theorem dX8_inner_16 : decode cX8_inner 16 = .ok (.aload_n 0, 1) := by decide +kernel
theorem dX8_inner_17 : decode cX8_inner 17 = .ok (.iload_n 2, 1) := by decide +kernel
theorem dX8_inner_18 : decode cX8_inner 18 = .ok (.invokevirtual 66, 3) := by decide +kernel
theorem dX8_inner_21 : decode cX8_inner 21 = .ok (.iload_n 2, 1) := by decide +kernel
theorem dX8_inner_22 : decode cX8_inner 22 = .ok (.if_icmp .ne 23, 3) := by decide +kernel
theorem dX8_inner_25 : decode cX8_inner 25 = .ok (.aload_n 0, 1) := by decide +kernel
theorem dX8_inner_26 : decode cX8_inner 26 = .ok (.iload_n 2, 1) := by decide +kernel
theorem dX8_inner_27 : decode cX8_inner 27 = .ok (.invokevirtual 78, 3) := by decide +kernel
theorem dX8_inner_30 : decode cX8_inner 30 = .ok (.ifCond .eq 15, 3) := by decide +kernel
theorem dX8_inner_33 : decode cX8_inner 33 = .ok (.aload_n 0, 1) := by decide +kernel
theorem dX8_inner_34 : decode cX8_inner 34 = .ok (.iload_n 2, 1) := by decide +kernel
theorem dX8_inner_35 : decode cX8_inner 35 = .ok (.invokevirtual 82, 3) := by decide +kernel
theorem dX8_inner_38 : decode cX8_inner 38 = .ok (.ifCond .ne 7, 3) := by decide +kernel
theorem dX8_inner_41 : decode cX8_inner 41 = .ok (.iconst 1, 1) := by decide +kernel
theorem dX8_inner_42 : decode cX8_inner 42 = .ok (.goto 4, 3) := by decide +kernel
theorem dX8_inner_45 : decode cX8_inner 45 = .ok (.iconst 0, 1) := by decide +kernel
theorem dX8_inner_46 : decode cX8_inner 46 = .ok (.invokestatic 53, 3) := by decide +kernel
theorem dX8_inner_49 : decode cX8_inner 49 = .ok (.iadd, 1) := by decide +kernel
theorem dX8_inner_50 : decode cX8_inner 50 = .ok (.istore_n 1, 1) := by decide +kernel
theorem dX8_inner_51 : decode cX8_inner 51 = .ok (.iinc 2 1, 3) := by decide +kernel
theorem dX8_inner_54 : decode cX8_inner 54 = .ok (.goto (-50), 3) := by decide +kernel
theorem dX8_inner_57 : decode cX8_inner 57 = .ok (.iload_n 1, 1) := by decide +kernel
theorem dX8_inner_58 : decode cX8_inner 58 = .ok (.ireturn, 1) := by decide +kernel
theorem dX8_reachesOut_0 : decode cX8_reachesOut 0 = .ok (.iconst 0, 1) := by decide +kernel
theorem dX8_reachesOut_1 : decode cX8_reachesOut 1 = .ok (.istore_n 2, 1) := by decide +kernel
theorem dX8_reachesOut_2 : decode cX8_reachesOut 2 = .ok (.iload_n 2, 1) := by decide +kernel
theorem dX8_reachesOut_3 : decode cX8_reachesOut 3 = .ok (.aload_n 0, 1) := by decide +kernel
theorem dX8_reachesOut_4 : decode cX8_reachesOut 4 = .ok (.getfield 21, 3) := by decide +kernel
theorem dX8_reachesOut_7 : decode cX8_reachesOut 7 = .ok (.getfield 42, 3) := by decide +kernel
theorem dX8_reachesOut_10 : decode cX8_reachesOut 10 = .ok (.if_icmp .ge 34, 3) := by decide +kernel
theorem dX8_reachesOut_13 : decode cX8_reachesOut 13 = .ok (.aload_n 0, 1) := by decide +kernel
theorem dX8_reachesOut_14 : decode cX8_reachesOut 14 = .ok (.iload_n 2, 1) := by decide +kernel
theorem dX8_reachesOut_15 : decode cX8_reachesOut 15 = .ok (.invokevirtual 66, 3) := by decide +kernel
theorem dX8_reachesOut_18 : decode cX8_reachesOut 18 = .ok (.iload_n 1, 1) := by decide +kernel
theorem dX8_reachesOut_19 : decode cX8_reachesOut 19 = .ok (.if_icmp .ne 19, 3) := by decide +kernel
theorem dX8_reachesOut_22 : decode cX8_reachesOut 22 = .ok (.aload_n 0, 1) := by decide +kernel
theorem dX8_reachesOut_23 : decode cX8_reachesOut 23 = .ok (.getfield 21, 3) := by decide +kernel
theorem dX8_reachesOut_26 : decode cX8_reachesOut 26 = .ok (.iload_n 2, 1) := by decide +kernel
theorem dX8_reachesOut_27 : decode cX8_reachesOut 27 = .ok (.iconst 0, 1) := by decide +kernel
theorem dX8_reachesOut_28 : decode cX8_reachesOut 28 = .ok (.invokevirtual 74, 3) := by decide +kernel
theorem dX8_reachesOut_31 : decode cX8_reachesOut 31 = .ok (.ldc 65, 2) := by decide +kernel
theorem dX8_reachesOut_33 : decode cX8_reachesOut 33 = .ok (.if_icmp .ne 5, 3) := by decide +kernel
theorem dX8_reachesOut_36 : decode cX8_reachesOut 36 = .ok (.iconst 1, 1) := by decide +kernel
theorem dX8_reachesOut_37 : decode cX8_reachesOut 37 = .ok (.ireturn, 1) := by decide +kernel
theorem dX8_reachesOut_38 : decode cX8_reachesOut 38 = .ok (.iinc 2 1, 3) := by decide +kernel
theorem dX8_reachesOut_41 : decode cX8_reachesOut 41 = .ok (.goto (-39), 3) := by decide +kernel
theorem dX8_reachesOut_44 : decode cX8_reachesOut 44 = .ok (.iconst 0, 1) := by decide +kernel
theorem dX8_reachesOut_45 : decode cX8_reachesOut 45 = .ok (.ireturn, 1) := by decide +kernel
theorem dX8_border_0 : decode cX8_border 0 = .ok (.iconst 0, 1) := by decide +kernel
theorem dX8_border_1 : decode cX8_border 1 = .ok (.istore_n 2, 1) := by decide +kernel
theorem dX8_border_2 : decode cX8_border 2 = .ok (.iconst 0, 1) := by decide +kernel
theorem dX8_border_3 : decode cX8_border 3 = .ok (.istore_n 3, 1) := by decide +kernel
theorem dX8_border_4 : decode cX8_border 4 = .ok (.iload_n 3, 1) := by decide +kernel
theorem dX8_border_5 : decode cX8_border 5 = .ok (.aload_n 0, 1) := by decide +kernel
theorem dX8_border_6 : decode cX8_border 6 = .ok (.getfield 21, 3) := by decide +kernel
theorem dX8_border_9 : decode cX8_border 9 = .ok (.getfield 42, 3) := by decide +kernel
theorem dX8_border_12 : decode cX8_border 12 = .ok (.if_icmp .ge 55, 3) := by decide +kernel
theorem dX8_border_15 : decode cX8_border 15 = .ok (.aload_n 0, 1) := by decide +kernel
theorem dX8_border_16 : decode cX8_border 16 = .ok (.getfield 21, 3) := by decide +kernel
theorem dX8_border_19 : decode cX8_border 19 = .ok (.iload_n 3, 1) := by decide +kernel
theorem dX8_border_20 : decode cX8_border 20 = .ok (.iload_n 1, 1) := by decide +kernel
theorem dX8_border_21 : decode cX8_border 21 = .ok (.invokevirtual 74, 3) := by decide +kernel
theorem dX8_border_24 : decode cX8_border 24 = .ok (.istore 4, 2) := by decide +kernel
theorem dX8_border_26 : decode cX8_border 26 = .ok (.iload_n 2, 1) := by decide +kernel
theorem dX8_border_27 : decode cX8_border 27 = .ok (.iload 4, 2) := by decide +kernel
theorem dX8_border_29 : decode cX8_border 29 = .ok (.ldc 65, 2) := by decide +kernel
theorem dX8_border_31 : decode cX8_border 31 = .ok (.if_icmp .eq 24, 3) := by decide +kernel
theorem dX8_border_34 : decode cX8_border 34 = .ok (.aload_n 0, 1) := by decide +kernel
theorem dX8_border_35 : decode cX8_border 35 = .ok (.iload_n 3, 1) := by decide +kernel
theorem dX8_border_36 : decode cX8_border 36 = .ok (.invokevirtual 78, 3) := by decide +kernel
theorem dX8_border_39 : decode cX8_border 39 = .ok (.ifCond .eq 16, 3) := by decide +kernel
theorem dX8_border_42 : decode cX8_border 42 = .ok (.aload_n 0, 1) := by decide +kernel
theorem dX8_border_43 : decode cX8_border 43 = .ok (.iload 4, 2) := by decide +kernel
theorem dX8_border_45 : decode cX8_border 45 = .ok (.invokevirtual 78, 3) := by decide +kernel
theorem dX8_border_48 : decode cX8_border 48 = .ok (.ifCond .ne 7, 3) := by decide +kernel
theorem dX8_border_51 : decode cX8_border 51 = .ok (.iconst 1, 1) := by decide +kernel
theorem dX8_border_52 : decode cX8_border 52 = .ok (.goto 4, 3) := by decide +kernel
theorem dX8_border_55 : decode cX8_border 55 = .ok (.iconst 0, 1) := by decide +kernel
theorem dX8_border_56 : decode cX8_border 56 = .ok (.invokestatic 53, 3) := by decide +kernel
theorem dX8_border_59 : decode cX8_border 59 = .ok (.iadd, 1) := by decide +kernel
theorem dX8_border_60 : decode cX8_border 60 = .ok (.istore_n 2, 1) := by decide +kernel
theorem dX8_border_61 : decode cX8_border 61 = .ok (.iinc 3 1, 3) := by decide +kernel
theorem dX8_border_64 : decode cX8_border 64 = .ok (.goto (-60), 3) := by decide +kernel
theorem dX8_border_67 : decode cX8_border 67 = .ok (.iload_n 2, 1) := by decide +kernel
theorem dX8_border_68 : decode cX8_border 68 = .ok (.ireturn, 1) := by decide +kernel
theorem dX9_init_0 : decode cX9_init 0 = .ok (.aload_n 0, 1) := by decide +kernel
theorem dX9_init_1 : decode cX9_init 1 = .ok (.invokespecial 3, 3) := by decide +kernel
theorem dX9_init_4 : decode cX9_init 4 = .ok (.aload_n 0, 1) := by decide +kernel
theorem dX9_init_5 : decode cX9_init 5 = .ok (.new 9, 3) := by decide +kernel
theorem dX9_init_8 : decode cX9_init 8 = .ok (.dup, 1) := by decide +kernel
theorem dX9_init_9 : decode cX9_init 9 = .ok (.invokespecial 11, 3) := by decide +kernel
theorem dX9_init_12 : decode cX9_init 12 = .ok (.putfield 12, 3) := by decide +kernel
theorem dX9_init_15 : decode cX9_init 15 = .ok (.aload_n 0, 1) := by decide +kernel
theorem dX9_init_16 : decode cX9_init 16 = .ok (.new 16, 3) := by decide +kernel
theorem dX9_init_19 : decode cX9_init 19 = .ok (.dup, 1) := by decide +kernel
theorem dX9_init_20 : decode cX9_init 20 = .ok (.aload_n 0, 1) := by decide +kernel
theorem dX9_init_21 : decode cX9_init 21 = .ok (.getfield 12, 3) := by decide +kernel
theorem dX9_init_24 : decode cX9_init 24 = .ok (.invokespecial 18, 3) := by decide +kernel
theorem dX9_init_27 : decode cX9_init 27 = .ok (.putfield 21, 3) := by decide +kernel
theorem dX9_init_30 : decode cX9_init 30 = .ok (.aload_n 0, 1) := by decide +kernel
theorem dX9_init_31 : decode cX9_init 31 = .ok (.new 25, 3) := by decide +kernel
theorem dX9_init_34 : decode cX9_init 34 = .ok (.dup, 1) := by decide +kernel
theorem dX9_init_35 : decode cX9_init 35 = .ok (.aload_n 0, 1) := by decide +kernel
theorem dX9_init_36 : decode cX9_init 36 = .ok (.getfield 12, 3) := by decide +kernel
theorem dX9_init_39 : decode cX9_init 39 = .ok (.aload_n 0, 1) := by decide +kernel
theorem dX9_init_40 : decode cX9_init 40 = .ok (.getfield 21, 3) := by decide +kernel
theorem dX9_init_43 : decode cX9_init 43 = .ok (.invokespecial 27, 3) := by decide +kernel
theorem dX9_init_46 : decode cX9_init 46 = .ok (.putfield 30, 3) := by decide +kernel
theorem dX9_init_49 : decode cX9_init 49 = .ok (.aload_n 0, 1) := by decide +kernel
theorem dX9_init_50 : decode cX9_init 50 = .ok (.new 34, 3) := by decide +kernel
theorem dX9_init_53 : decode cX9_init 53 = .ok (.dup, 1) := by decide +kernel
theorem dX9_init_54 : decode cX9_init 54 = .ok (.aload_n 0, 1) := by decide +kernel
theorem dX9_init_55 : decode cX9_init 55 = .ok (.getfield 12, 3) := by decide +kernel
theorem dX9_init_58 : decode cX9_init 58 = .ok (.invokespecial 36, 3) := by decide +kernel
theorem dX9_init_61 : decode cX9_init 61 = .ok (.putfield 37, 3) := by decide +kernel
theorem dX9_init_64 : decode cX9_init 64 = .ok (.aload_n 0, 1) := by decide +kernel
theorem dX9_init_65 : decode cX9_init 65 = .ok (.new 41, 3) := by decide +kernel
theorem dX9_init_68 : decode cX9_init 68 = .ok (.dup, 1) := by decide +kernel
theorem dX9_init_69 : decode cX9_init 69 = .ok (.aload_n 0, 1) := by decide +kernel
theorem dX9_init_70 : decode cX9_init 70 = .ok (.getfield 12, 3) := by decide +kernel
theorem dX9_init_73 : decode cX9_init 73 = .ok (.invokespecial 43, 3) := by decide +kernel
theorem dX9_init_76 : decode cX9_init 76 = .ok (.putfield 44, 3) := by decide +kernel
theorem dX9_init_79 : decode cX9_init 79 = .ok (.aload_n 0, 1) := by decide +kernel
theorem dX9_init_80 : decode cX9_init 80 = .ok (.new 48, 3) := by decide +kernel
theorem dX9_init_83 : decode cX9_init 83 = .ok (.dup, 1) := by decide +kernel
theorem dX9_init_84 : decode cX9_init 84 = .ok (.aload_n 0, 1) := by decide +kernel
theorem dX9_init_85 : decode cX9_init 85 = .ok (.getfield 12, 3) := by decide +kernel
theorem dX9_init_88 : decode cX9_init 88 = .ok (.aload_n 0, 1) := by decide +kernel
theorem dX9_init_89 : decode cX9_init 89 = .ok (.getfield 44, 3) := by decide +kernel
theorem dX9_init_92 : decode cX9_init 92 = .ok (.invokespecial 50, 3) := by decide +kernel
theorem dX9_init_95 : decode cX9_init 95 = .ok (.putfield 53, 3) := by decide +kernel
theorem dX9_init_98 : decode cX9_init 98 = .ok (.aload_n 0, 1) := by decide +kernel
theorem dX9_init_99 : decode cX9_init 99 = .ok (.sipush 144, 3) := by decide +kernel
theorem dX9_init_102 : decode cX9_init 102 = .ok (.putfield 57, 3) := by decide +kernel
theorem dX9_init_105 : decode cX9_init 105 = .ok (.aload_n 0, 1) := by decide +kernel
theorem dX9_init_106 : decode cX9_init 106 = .ok (.iconst 4, 1) := by decide +kernel
theorem dX9_init_107 : decode cX9_init 107 = .ok (.invokevirtual 61, 3) := by decide +kernel
theorem dX9_init_110 : decode cX9_init 110 = .ok (.return_, 1) := by decide +kernel
theorem dX9_sheet_0 : decode cX9_sheet 0 = .ok (.iload_n 1, 1) := by decide +kernel
theorem dX9_sheet_1 : decode cX9_sheet 1 = .ok (.iconst 1, 1) := by decide +kernel
theorem dX9_sheet_2 : decode cX9_sheet 2 = .ok (.if_icmp .lt 9, 3) := by decide +kernel
theorem dX9_sheet_5 : decode cX9_sheet 5 = .ok (.iload_n 1, 1) := by decide +kernel
theorem dX9_sheet_6 : decode cX9_sheet 6 = .ok (.bipush 6, 2) := by decide +kernel
theorem dX9_sheet_8 : decode cX9_sheet 8 = .ok (.if_icmp .le 6, 3) := by decide +kernel
theorem dX9_sheet_11 : decode cX9_sheet 11 = .ok (.bipush (-2), 2) := by decide +kernel
theorem dX9_sheet_13 : decode cX9_sheet 13 = .ok (.ireturn, 1) := by decide +kernel
theorem dX9_sheet_14 : decode cX9_sheet 14 = .ok (.aload_n 0, 1) := by decide +kernel
theorem dX9_sheet_15 : decode cX9_sheet 15 = .ok (.getfield 12, 3) := by decide +kernel
theorem dX9_sheet_18 : decode cX9_sheet 18 = .ok (.getfield 65, 3) := by decide +kernel
theorem dX9_sheet_21 : decode cX9_sheet 21 = .ok (.istore_n 2, 1) := by decide +kernel
theorem dX9_sheet_22 : decode cX9_sheet 22 = .ok (.aload_n 0, 1) := by decide +kernel
theorem dX9_sheet_23 : decode cX9_sheet 23 = .ok (.iload_n 1, 1) := by decide +kernel
theorem dX9_sheet_24 : decode cX9_sheet 24 = .ok (.invokevirtual 61, 3) := by decide +kernel
theorem dX9_sheet_27 : decode cX9_sheet 27 = .ok (.iload_n 2, 1) := by decide +kernel
theorem dX9_sheet_28 : decode cX9_sheet 28 = .ok (.ireturn, 1) := by decide +kernel
theorem dX9_fold_0 : decode cX9_fold 0 = .ok (.iload_n 1, 1) := by decide +kernel
theorem dX9_fold_1 : decode cX9_fold 1 = .ok (.iload_n 2, 1) := by decide +kernel
theorem dX9_fold_2 : decode cX9_fold 2 = .ok (.invokestatic 68, 3) := by decide +kernel
theorem dX9_fold_5 : decode cX9_fold 5 = .ok (.ifCond .eq 10, 3) := by decide +kernel
theorem dX9_fold_8 : decode cX9_fold 8 = .ok (.iload_n 3, 1) := by decide +kernel
theorem dX9_fold_9 : decode cX9_fold 9 = .ok (.invokestatic 74, 3) := by decide +kernel
theorem dX9_fold_12 : decode cX9_fold 12 = .ok (.ifCond .ne 6, 3) := by decide +kernel
theorem dX9_fold_15 : decode cX9_fold 15 = .ok (.bipush (-2), 2) := by decide +kernel
theorem dX9_fold_17 : decode cX9_fold 17 = .ok (.ireturn, 1) := by decide +kernel
theorem dX9_fold_18 : decode cX9_fold 18 = .ok (.aload_n 0, 1) := by decide +kernel
theorem dX9_fold_19 : decode cX9_fold 19 = .ok (.getfield 37, 3) := by decide +kernel
theorem dX9_fold_22 : decode cX9_fold 22 = .ok (.getfield 78, 3) := by decide +kernel
theorem dX9_fold_25 : decode cX9_fold 25 = .ok (.ifCond .ne 15, 3) := by decide +kernel
theorem dX9_fold_28 : decode cX9_fold 28 = .ok (.aload_n 0, 1) := by decide +kernel
theorem dX9_fold_29 : decode cX9_fold 29 = .ok (.getfield 21, 3) := by decide +kernel
theorem dX9_fold_32 : decode cX9_fold 32 = .ok (.iload_n 1, 1) := by decide +kernel
theorem dX9_fold_33 : decode cX9_fold 33 = .ok (.iload_n 2, 1) := by decide +kernel
theorem dX9_fold_34 : decode cX9_fold 34 = .ok (.invokevirtual 82, 3) := by decide +kernel
theorem dX9_fold_37 : decode cX9_fold 37 = .ok (.ifCond .ne 6, 3) := by decide +kernel
theorem dX9_fold_40 : decode cX9_fold 40 = .ok (.bipush (-3), 2) := by decide +kernel
theorem dX9_fold_42 : decode cX9_fold 42 = .ok (.ireturn, 1) := by decide +kernel
theorem dX9_fold_43 : decode cX9_fold 43 = .ok (.aload_n 0, 1) := by decide +kernel
theorem dX9_fold_44 : decode cX9_fold 44 = .ok (.getfield 21, 3) := by decide +kernel
theorem dX9_fold_47 : decode cX9_fold 47 = .ok (.getfield 85, 3) := by decide +kernel
theorem dX9_fold_50 : decode cX9_fold 50 = .ok (.bipush 8, 2) := by decide +kernel
theorem dX9_fold_52 : decode cX9_fold 52 = .ok (.if_icmp .lt 6, 3) := by decide +kernel
theorem dX9_fold_55 : decode cX9_fold 55 = .ok (.bipush (-4), 2) := by decide +kernel
theorem dX9_fold_57 : decode cX9_fold 57 = .ok (.ireturn, 1) := by decide +kernel
theorem dX9_fold_58 : decode cX9_fold 58 = .ok (.aload_n 0, 1) := by decide +kernel
theorem dX9_fold_59 : decode cX9_fold 59 = .ok (.getfield 21, 3) := by decide +kernel
theorem dX9_fold_62 : decode cX9_fold 62 = .ok (.iload_n 1, 1) := by decide +kernel
theorem dX9_fold_63 : decode cX9_fold 63 = .ok (.iload_n 2, 1) := by decide +kernel
theorem dX9_fold_64 : decode cX9_fold 64 = .ok (.iload_n 3, 1) := by decide +kernel
theorem dX9_fold_65 : decode cX9_fold 65 = .ok (.iload 4, 2) := by decide +kernel
theorem dX9_fold_67 : decode cX9_fold 67 = .ok (.invokevirtual 87, 3) := by decide +kernel
theorem dX9_fold_70 : decode cX9_fold 70 = .ok (.aload_n 0, 1) := by decide +kernel
theorem dX9_fold_71 : decode cX9_fold 71 = .ok (.getfield 21, 3) := by decide +kernel
theorem dX9_fold_74 : decode cX9_fold 74 = .ok (.invokevirtual 91, 3) := by decide +kernel
theorem dX9_fold_77 : decode cX9_fold 77 = .ok (.ireturn, 1) := by decide +kernel
theorem dX9_unfold_0 : decode cX9_unfold 0 = .ok (.aload_n 0, 1) := by decide +kernel
theorem dX9_unfold_1 : decode cX9_unfold 1 = .ok (.getfield 21, 3) := by decide +kernel
theorem dX9_unfold_4 : decode cX9_unfold 4 = .ok (.getfield 85, 3) := by decide +kernel
theorem dX9_unfold_7 : decode cX9_unfold 7 = .ok (.ifCond .ne 6, 3) := by decide +kernel
theorem dX9_unfold_10 : decode cX9_unfold 10 = .ok (.bipush (-3), 2) := by decide +kernel
theorem dX9_unfold_12 : decode cX9_unfold 12 = .ok (.ireturn, 1) := by decide +kernel
theorem dX9_unfold_13 : decode cX9_unfold 13 = .ok (.aload_n 0, 1) := by decide +kernel
theorem dX9_unfold_14 : decode cX9_unfold 14 = .ok (.getfield 21, 3) := by decide +kernel
theorem dX9_unfold_17 : decode cX9_unfold 17 = .ok (.invokevirtual 95, 3) := by decide +kernel
theorem dX9_unfold_20 : decode cX9_unfold 20 = .ok (.aload_n 0, 1) := by decide +kernel
theorem dX9_unfold_21 : decode cX9_unfold 21 = .ok (.getfield 21, 3) := by decide +kernel
theorem dX9_unfold_24 : decode cX9_unfold 24 = .ok (.getfield 85, 3) := by decide +kernel
theorem dX9_unfold_27 : decode cX9_unfold 27 = .ok (.ireturn, 1) := by decide +kernel
theorem dX9_facet_0 : decode cX9_facet 0 = .ok (.aload_n 0, 1) := by decide +kernel
theorem dX9_facet_1 : decode cX9_facet 1 = .ok (.getfield 12, 3) := by decide +kernel
theorem dX9_facet_4 : decode cX9_facet 4 = .ok (.iload_n 1, 1) := by decide +kernel
theorem dX9_facet_5 : decode cX9_facet 5 = .ok (.invokevirtual 98, 3) := by decide +kernel
theorem dX9_facet_8 : decode cX9_facet 8 = .ok (.ifCond .ne 5, 3) := by decide +kernel
theorem dX9_facet_11 : decode cX9_facet 11 = .ok (.iconst (-1), 1) := by decide +kernel
theorem dX9_facet_12 : decode cX9_facet 12 = .ok (.ireturn, 1) := by decide +kernel
theorem dX9_facet_13 : decode cX9_facet 13 = .ok (.iload_n 2, 1) := by decide +kernel
theorem dX9_facet_14 : decode cX9_facet 14 = .ok (.tableswitch 127 0 7 #[46, 55, 64, 73, 82, 94, 103, 115], 46) := by decide +kernel
theorem dX9_facet_60 : decode cX9_facet 60 = .ok (.aload_n 0, 1) := by decide +kernel
theorem dX9_facet_61 : decode cX9_facet 61 = .ok (.getfield 21, 3) := by decide +kernel
theorem dX9_facet_64 : decode cX9_facet 64 = .ok (.iload_n 1, 1) := by decide +kernel
theorem dX9_facet_65 : decode cX9_facet 65 = .ok (.invokevirtual 101, 3) := by decide +kernel
theorem dX9_facet_68 : decode cX9_facet 68 = .ok (.ireturn, 1) := by decide +kernel
theorem dX9_facet_69 : decode cX9_facet 69 = .ok (.aload_n 0, 1) := by decide +kernel
theorem dX9_facet_70 : decode cX9_facet 70 = .ok (.getfield 21, 3) := by decide +kernel
theorem dX9_facet_73 : decode cX9_facet 73 = .ok (.iload_n 1, 1) := by decide +kernel
theorem dX9_facet_74 : decode cX9_facet 74 = .ok (.invokevirtual 105, 3) := by decide +kernel
theorem dX9_facet_77 : decode cX9_facet 77 = .ok (.ireturn, 1) := by decide +kernel
theorem dX9_facet_78 : decode cX9_facet 78 = .ok (.aload_n 0, 1) := by decide +kernel
theorem dX9_facet_79 : decode cX9_facet 79 = .ok (.getfield 21, 3) := by decide +kernel
theorem dX9_facet_82 : decode cX9_facet 82 = .ok (.iload_n 1, 1) := by decide +kernel
theorem dX9_facet_83 : decode cX9_facet 83 = .ok (.invokevirtual 108, 3) := by decide +kernel
theorem dX9_facet_86 : decode cX9_facet 86 = .ok (.ireturn, 1) := by decide +kernel
theorem dX9_facet_87 : decode cX9_facet 87 = .ok (.aload_n 0, 1) := by decide +kernel
theorem dX9_facet_88 : decode cX9_facet 88 = .ok (.getfield 21, 3) := by decide +kernel
theorem dX9_facet_91 : decode cX9_facet 91 = .ok (.iload_n 1, 1) := by decide +kernel
theorem dX9_facet_92 : decode cX9_facet 92 = .ok (.invokevirtual 111, 3) := by decide +kernel
theorem dX9_facet_95 : decode cX9_facet 95 = .ok (.ireturn, 1) := by decide +kernel
theorem dX9_facet_96 : decode cX9_facet 96 = .ok (.aload_n 0, 1) := by decide +kernel
theorem dX9_facet_97 : decode cX9_facet 97 = .ok (.getfield 21, 3) := by decide +kernel
theorem dX9_facet_100 : decode cX9_facet 100 = .ok (.iload_n 1, 1) := by decide +kernel
theorem dX9_facet_101 : decode cX9_facet 101 = .ok (.invokevirtual 114, 3) := by decide +kernel
theorem dX9_facet_104 : decode cX9_facet 104 = .ok (.invokestatic 117, 3) := by decide +kernel
theorem dX9_facet_107 : decode cX9_facet 107 = .ok (.ireturn, 1) := by decide +kernel
theorem dX9_facet_108 : decode cX9_facet 108 = .ok (.aload_n 0, 1) := by decide +kernel
theorem dX9_facet_109 : decode cX9_facet 109 = .ok (.getfield 21, 3) := by decide +kernel
theorem dX9_facet_112 : decode cX9_facet 112 = .ok (.iload_n 1, 1) := by decide +kernel
theorem dX9_facet_113 : decode cX9_facet 113 = .ok (.invokevirtual 121, 3) := by decide +kernel
theorem dX9_facet_116 : decode cX9_facet 116 = .ok (.ireturn, 1) := by decide +kernel
theorem dX9_facet_117 : decode cX9_facet 117 = .ok (.aload_n 0, 1) := by decide +kernel
theorem dX9_facet_118 : decode cX9_facet 118 = .ok (.getfield 37, 3) := by decide +kernel
theorem dX9_facet_121 : decode cX9_facet 121 = .ok (.iload_n 1, 1) := by decide +kernel
theorem dX9_facet_122 : decode cX9_facet 122 = .ok (.invokevirtual 124, 3) := by decide +kernel
theorem dX9_facet_125 : decode cX9_facet 125 = .ok (.invokestatic 117, 3) := by decide +kernel
theorem dX9_facet_128 : decode cX9_facet 128 = .ok (.ireturn, 1) := by decide +kernel
theorem dX9_facet_129 : decode cX9_facet 129 = .ok (.aload_n 0, 1) := by decide +kernel
theorem dX9_facet_130 : decode cX9_facet 130 = .ok (.getfield 44, 3) := by decide +kernel
theorem dX9_facet_133 : decode cX9_facet 133 = .ok (.iload_n 1, 1) := by decide +kernel
theorem dX9_facet_134 : decode cX9_facet 134 = .ok (.invokevirtual 127, 3) := by decide +kernel
theorem dX9_facet_137 : decode cX9_facet 137 = .ok (.invokestatic 117, 3) := by decide +kernel
theorem dX9_facet_140 : decode cX9_facet 140 = .ok (.ireturn, 1) := by decide +kernel
theorem dX9_facet_141 : decode cX9_facet 141 = .ok (.bipush (-2), 2) := by decide +kernel
theorem dX9_facet_143 : decode cX9_facet 143 = .ok (.ireturn, 1) := by decide +kernel
theorem dX9_at_0 : decode cX9_at 0 = .ok (.iload_n 3, 1) := by decide +kernel
theorem dX9_at_1 : decode cX9_at 1 = .ok (.ifCond .lt 8, 3) := by decide +kernel
theorem dX9_at_4 : decode cX9_at 4 = .ok (.iload_n 3, 1) := by decide +kernel
theorem dX9_at_5 : decode cX9_at 5 = .ok (.iconst 3, 1) := by decide +kernel
theorem dX9_at_6 : decode cX9_at 6 = .ok (.if_icmp .le 6, 3) := by decide +kernel
theorem dX9_at_9 : decode cX9_at 9 = .ok (.bipush (-2), 2) := by decide +kernel
theorem dX9_at_11 : decode cX9_at 11 = .ok (.ireturn, 1) := by decide +kernel
theorem dX9_at_12 : decode cX9_at 12 = .ok (.aload_n 0, 1) := by decide +kernel
theorem dX9_at_13 : decode cX9_at 13 = .ok (.getfield 21, 3) := by decide +kernel
theorem dX9_at_16 : decode cX9_at 16 = .ok (.iload_n 1, 1) := by decide +kernel
theorem dX9_at_17 : decode cX9_at 17 = .ok (.iload_n 2, 1) := by decide +kernel
theorem dX9_at_18 : decode cX9_at 18 = .ok (.iload_n 3, 1) := by decide +kernel
theorem dX9_at_19 : decode cX9_at 19 = .ok (.iload 4, 2) := by decide +kernel
theorem dX9_at_21 : decode cX9_at 21 = .ok (.invokevirtual 128, 3) := by decide +kernel
theorem dX9_at_24 : decode cX9_at 24 = .ok (.ireturn, 1) := by decide +kernel
theorem dX9_places_0 : decode cX9_places 0 = .ok (.aload_n 0, 1) := by decide +kernel
theorem dX9_places_1 : decode cX9_places 1 = .ok (.getfield 21, 3) := by decide +kernel
theorem dX9_places_4 : decode cX9_places 4 = .ok (.invokevirtual 91, 3) := by decide +kernel
theorem dX9_places_7 : decode cX9_places 7 = .ok (.ireturn, 1) := by decide +kernel
theorem dX9_deepest_0 : decode cX9_deepest 0 = .ok (.aload_n 0, 1) := by decide +kernel
theorem dX9_deepest_1 : decode cX9_deepest 1 = .ok (.getfield 21, 3) := by decide +kernel
theorem dX9_deepest_4 : decode cX9_deepest 4 = .ok (.invokevirtual 132, 3) := by decide +kernel
theorem dX9_deepest_7 : decode cX9_deepest 7 = .ok (.ireturn, 1) := by decide +kernel
theorem dX9_reach_0 : decode cX9_reach 0 = .ok (.iload_n 1, 1) := by decide +kernel
theorem dX9_reach_1 : decode cX9_reach 1 = .ok (.tableswitch 63 0 3 #[31, 39, 47, 55], 31) := by decide +kernel
theorem dX9_reach_32 : decode cX9_reach 32 = .ok (.aload_n 0, 1) := by decide +kernel
theorem dX9_reach_33 : decode cX9_reach 33 = .ok (.getfield 21, 3) := by decide +kernel
theorem dX9_reach_36 : decode cX9_reach 36 = .ok (.invokevirtual 135, 3) := by decide +kernel
theorem dX9_reach_39 : decode cX9_reach 39 = .ok (.ireturn, 1) := by decide +kernel
theorem dX9_reach_40 : decode cX9_reach 40 = .ok (.aload_n 0, 1) := by decide +kernel
theorem dX9_reach_41 : decode cX9_reach 41 = .ok (.getfield 21, 3) := by decide +kernel
theorem dX9_reach_44 : decode cX9_reach 44 = .ok (.invokevirtual 138, 3) := by decide +kernel
theorem dX9_reach_47 : decode cX9_reach 47 = .ok (.ireturn, 1) := by decide +kernel
theorem dX9_reach_48 : decode cX9_reach 48 = .ok (.aload_n 0, 1) := by decide +kernel
theorem dX9_reach_49 : decode cX9_reach 49 = .ok (.getfield 21, 3) := by decide +kernel
theorem dX9_reach_52 : decode cX9_reach 52 = .ok (.invokevirtual 141, 3) := by decide +kernel
theorem dX9_reach_55 : decode cX9_reach 55 = .ok (.ireturn, 1) := by decide +kernel
theorem dX9_reach_56 : decode cX9_reach 56 = .ok (.aload_n 0, 1) := by decide +kernel
theorem dX9_reach_57 : decode cX9_reach 57 = .ok (.getfield 21, 3) := by decide +kernel
theorem dX9_reach_60 : decode cX9_reach 60 = .ok (.invokevirtual 144, 3) := by decide +kernel
theorem dX9_reach_63 : decode cX9_reach 63 = .ok (.ireturn, 1) := by decide +kernel
theorem dX9_reach_64 : decode cX9_reach 64 = .ok (.bipush (-2), 2) := by decide +kernel
theorem dX9_reach_66 : decode cX9_reach 66 = .ok (.ireturn, 1) := by decide +kernel
theorem dX9_folds_0 : decode cX9_folds 0 = .ok (.aload_n 0, 1) := by decide +kernel
theorem dX9_folds_1 : decode cX9_folds 1 = .ok (.getfield 21, 3) := by decide +kernel
theorem dX9_folds_4 : decode cX9_folds 4 = .ok (.getfield 85, 3) := by decide +kernel
theorem dX9_folds_7 : decode cX9_folds 7 = .ok (.ireturn, 1) := by decide +kernel
theorem dX9_crease_0 : decode cX9_crease 0 = .ok (.aload_n 0, 1) := by decide +kernel
theorem dX9_crease_1 : decode cX9_crease 1 = .ok (.getfield 12, 3) := by decide +kernel
theorem dX9_crease_4 : decode cX9_crease 4 = .ok (.iload_n 1, 1) := by decide +kernel
theorem dX9_crease_5 : decode cX9_crease 5 = .ok (.invokevirtual 98, 3) := by decide +kernel
theorem dX9_crease_8 : decode cX9_crease 8 = .ok (.ifCond .ne 5, 3) := by decide +kernel
theorem dX9_crease_11 : decode cX9_crease 11 = .ok (.iconst (-1), 1) := by decide +kernel
theorem dX9_crease_12 : decode cX9_crease 12 = .ok (.ireturn, 1) := by decide +kernel
theorem dX9_crease_13 : decode cX9_crease 13 = .ok (.iload_n 2, 1) := by decide +kernel
theorem dX9_crease_14 : decode cX9_crease 14 = .ok (.invokestatic 147, 3) := by decide +kernel
theorem dX9_crease_17 : decode cX9_crease 17 = .ok (.ifCond .eq 15, 3) := by decide +kernel
theorem dX9_crease_20 : decode cX9_crease 20 = .ok (.aload_n 0, 1) := by decide +kernel
theorem dX9_crease_21 : decode cX9_crease 21 = .ok (.getfield 30, 3) := by decide +kernel
theorem dX9_crease_24 : decode cX9_crease 24 = .ok (.iload_n 1, 1) := by decide +kernel
theorem dX9_crease_25 : decode cX9_crease 25 = .ok (.iload_n 2, 1) := by decide +kernel
theorem dX9_crease_26 : decode cX9_crease 26 = .ok (.invokevirtual 150, 3) := by decide +kernel
theorem dX9_crease_29 : decode cX9_crease 29 = .ok (.goto 5, 3) := by decide +kernel
theorem dX9_crease_32 : decode cX9_crease 32 = .ok (.bipush (-2), 2) := by decide +kernel
theorem dX9_crease_34 : decode cX9_crease 34 = .ok (.ireturn, 1) := by decide +kernel
theorem dX9_neighbour_0 : decode cX9_neighbour 0 = .ok (.aload_n 0, 1) := by decide +kernel
theorem dX9_neighbour_1 : decode cX9_neighbour 1 = .ok (.getfield 12, 3) := by decide +kernel
theorem dX9_neighbour_4 : decode cX9_neighbour 4 = .ok (.iload_n 1, 1) := by decide +kernel
theorem dX9_neighbour_5 : decode cX9_neighbour 5 = .ok (.invokevirtual 98, 3) := by decide +kernel
theorem dX9_neighbour_8 : decode cX9_neighbour 8 = .ok (.ifCond .ne 5, 3) := by decide +kernel
theorem dX9_neighbour_11 : decode cX9_neighbour 11 = .ok (.iconst (-1), 1) := by decide +kernel
theorem dX9_neighbour_12 : decode cX9_neighbour 12 = .ok (.ireturn, 1) := by decide +kernel
theorem dX9_neighbour_13 : decode cX9_neighbour 13 = .ok (.iload_n 2, 1) := by decide +kernel
theorem dX9_neighbour_14 : decode cX9_neighbour 14 = .ok (.invokestatic 147, 3) := by decide +kernel
theorem dX9_neighbour_17 : decode cX9_neighbour 17 = .ok (.ifCond .eq 15, 3) := by decide +kernel
theorem dX9_neighbour_20 : decode cX9_neighbour 20 = .ok (.aload_n 0, 1) := by decide +kernel
theorem dX9_neighbour_21 : decode cX9_neighbour 21 = .ok (.getfield 12, 3) := by decide +kernel
theorem dX9_neighbour_24 : decode cX9_neighbour 24 = .ok (.iload_n 1, 1) := by decide +kernel
theorem dX9_neighbour_25 : decode cX9_neighbour 25 = .ok (.iload_n 2, 1) := by decide +kernel
theorem dX9_neighbour_26 : decode cX9_neighbour 26 = .ok (.invokevirtual 154, 3) := by decide +kernel
theorem dX9_neighbour_29 : decode cX9_neighbour 29 = .ok (.goto 5, 3) := by decide +kernel
theorem dX9_neighbour_32 : decode cX9_neighbour 32 = .ok (.bipush (-2), 2) := by decide +kernel
theorem dX9_neighbour_34 : decode cX9_neighbour 34 = .ok (.ireturn, 1) := by decide +kernel
theorem dX9_creases_0 : decode cX9_creases 0 = .ok (.aload_n 0, 1) := by decide +kernel
theorem dX9_creases_1 : decode cX9_creases 1 = .ok (.getfield 30, 3) := by decide +kernel
theorem dX9_creases_4 : decode cX9_creases 4 = .ok (.iload_n 1, 1) := by decide +kernel
theorem dX9_creases_5 : decode cX9_creases 5 = .ok (.ifCond .eq 7, 3) := by decide +kernel
theorem dX9_creases_8 : decode cX9_creases 8 = .ok (.iconst 2, 1) := by decide +kernel
theorem dX9_creases_9 : decode cX9_creases 9 = .ok (.goto 4, 3) := by decide +kernel
theorem dX9_creases_12 : decode cX9_creases 12 = .ok (.iconst 1, 1) := by decide +kernel
theorem dX9_creases_13 : decode cX9_creases 13 = .ok (.invokevirtual 157, 3) := by decide +kernel
theorem dX9_creases_16 : decode cX9_creases 16 = .ok (.ireturn, 1) := by decide +kernel
theorem dX9_balance_0 : decode cX9_balance 0 = .ok (.aload_n 0, 1) := by decide +kernel
theorem dX9_balance_1 : decode cX9_balance 1 = .ok (.getfield 12, 3) := by decide +kernel
theorem dX9_balance_4 : decode cX9_balance 4 = .ok (.iload_n 1, 1) := by decide +kernel
theorem dX9_balance_5 : decode cX9_balance 5 = .ok (.iload_n 2, 1) := by decide +kernel
theorem dX9_balance_6 : decode cX9_balance 6 = .ok (.iload_n 3, 1) := by decide +kernel
theorem dX9_balance_7 : decode cX9_balance 7 = .ok (.invokevirtual 160, 3) := by decide +kernel
theorem dX9_balance_10 : decode cX9_balance 10 = .ok (.ifCond .ne 6, 3) := by decide +kernel
theorem dX9_balance_13 : decode cX9_balance 13 = .ok (.bipush (-2), 2) := by decide +kernel
theorem dX9_balance_15 : decode cX9_balance 15 = .ok (.ireturn, 1) := by decide +kernel
theorem dX9_balance_16 : decode cX9_balance 16 = .ok (.aload_n 0, 1) := by decide +kernel
theorem dX9_balance_17 : decode cX9_balance 17 = .ok (.getfield 30, 3) := by decide +kernel
theorem dX9_balance_20 : decode cX9_balance 20 = .ok (.iconst 2, 1) := by decide +kernel
theorem dX9_balance_21 : decode cX9_balance 21 = .ok (.iload_n 1, 1) := by decide +kernel
theorem dX9_balance_22 : decode cX9_balance 22 = .ok (.iload_n 2, 1) := by decide +kernel
theorem dX9_balance_23 : decode cX9_balance 23 = .ok (.iload_n 3, 1) := by decide +kernel
theorem dX9_balance_24 : decode cX9_balance 24 = .ok (.invokevirtual 164, 3) := by decide +kernel
theorem dX9_balance_27 : decode cX9_balance 27 = .ok (.aload_n 0, 1) := by decide +kernel
theorem dX9_balance_28 : decode cX9_balance 28 = .ok (.getfield 30, 3) := by decide +kernel
theorem dX9_balance_31 : decode cX9_balance 31 = .ok (.iconst 1, 1) := by decide +kernel
theorem dX9_balance_32 : decode cX9_balance 32 = .ok (.iload_n 1, 1) := by decide +kernel
theorem dX9_balance_33 : decode cX9_balance 33 = .ok (.iload_n 2, 1) := by decide +kernel
theorem dX9_balance_34 : decode cX9_balance 34 = .ok (.iload_n 3, 1) := by decide +kernel
theorem dX9_balance_35 : decode cX9_balance 35 = .ok (.invokevirtual 164, 3) := by decide +kernel
theorem dX9_balance_38 : decode cX9_balance 38 = .ok (.isub, 1) := by decide +kernel
theorem dX9_balance_39 : decode cX9_balance 39 = .ok (.ireturn, 1) := by decide +kernel
theorem dX9_degree_0 : decode cX9_degree 0 = .ok (.aload_n 0, 1) := by decide +kernel
theorem dX9_degree_1 : decode cX9_degree 1 = .ok (.getfield 12, 3) := by decide +kernel
theorem dX9_degree_4 : decode cX9_degree 4 = .ok (.iload_n 1, 1) := by decide +kernel
theorem dX9_degree_5 : decode cX9_degree 5 = .ok (.iload_n 2, 1) := by decide +kernel
theorem dX9_degree_6 : decode cX9_degree 6 = .ok (.iload_n 3, 1) := by decide +kernel
theorem dX9_degree_7 : decode cX9_degree 7 = .ok (.invokevirtual 160, 3) := by decide +kernel
theorem dX9_degree_10 : decode cX9_degree 10 = .ok (.ifCond .ne 6, 3) := by decide +kernel
theorem dX9_degree_13 : decode cX9_degree 13 = .ok (.bipush (-2), 2) := by decide +kernel
theorem dX9_degree_15 : decode cX9_degree 15 = .ok (.ireturn, 1) := by decide +kernel
theorem dX9_degree_16 : decode cX9_degree 16 = .ok (.aload_n 0, 1) := by decide +kernel
theorem dX9_degree_17 : decode cX9_degree 17 = .ok (.getfield 30, 3) := by decide +kernel
theorem dX9_degree_20 : decode cX9_degree 20 = .ok (.iconst 2, 1) := by decide +kernel
theorem dX9_degree_21 : decode cX9_degree 21 = .ok (.iload_n 1, 1) := by decide +kernel
theorem dX9_degree_22 : decode cX9_degree 22 = .ok (.iload_n 2, 1) := by decide +kernel
theorem dX9_degree_23 : decode cX9_degree 23 = .ok (.iload_n 3, 1) := by decide +kernel
theorem dX9_degree_24 : decode cX9_degree 24 = .ok (.invokevirtual 164, 3) := by decide +kernel
theorem dX9_degree_27 : decode cX9_degree 27 = .ok (.aload_n 0, 1) := by decide +kernel
theorem dX9_degree_28 : decode cX9_degree 28 = .ok (.getfield 30, 3) := by decide +kernel
theorem dX9_degree_31 : decode cX9_degree 31 = .ok (.iconst 1, 1) := by decide +kernel
theorem dX9_degree_32 : decode cX9_degree 32 = .ok (.iload_n 1, 1) := by decide +kernel
theorem dX9_degree_33 : decode cX9_degree 33 = .ok (.iload_n 2, 1) := by decide +kernel
theorem dX9_degree_34 : decode cX9_degree 34 = .ok (.iload_n 3, 1) := by decide +kernel
theorem dX9_degree_35 : decode cX9_degree 35 = .ok (.invokevirtual 164, 3) := by decide +kernel
theorem dX9_degree_38 : decode cX9_degree 38 = .ok (.iadd, 1) := by decide +kernel
theorem dX9_degree_39 : decode cX9_degree 39 = .ok (.ireturn, 1) := by decide +kernel
theorem dX9_knife_0 : decode cX9_knife 0 = .ok (.iload_n 1, 1) := by decide +kernel
theorem dX9_knife_1 : decode cX9_knife 1 = .ok (.iconst 1, 1) := by decide +kernel
theorem dX9_knife_2 : decode cX9_knife 2 = .ok (.if_icmp .lt 10, 3) := by decide +kernel
theorem dX9_knife_5 : decode cX9_knife 5 = .ok (.iload_n 1, 1) := by decide +kernel
theorem dX9_knife_6 : decode cX9_knife 6 = .ok (.sipush 144, 3) := by decide +kernel
theorem dX9_knife_9 : decode cX9_knife 9 = .ok (.if_icmp .le 6, 3) := by decide +kernel
theorem dX9_knife_12 : decode cX9_knife 12 = .ok (.bipush (-2), 2) := by decide +kernel
theorem dX9_knife_14 : decode cX9_knife 14 = .ok (.ireturn, 1) := by decide +kernel
theorem dX9_knife_15 : decode cX9_knife 15 = .ok (.aload_n 0, 1) := by decide +kernel
theorem dX9_knife_16 : decode cX9_knife 16 = .ok (.getfield 57, 3) := by decide +kernel
theorem dX9_knife_19 : decode cX9_knife 19 = .ok (.istore_n 2, 1) := by decide +kernel
theorem dX9_knife_20 : decode cX9_knife 20 = .ok (.aload_n 0, 1) := by decide +kernel
theorem dX9_knife_21 : decode cX9_knife 21 = .ok (.iload_n 1, 1) := by decide +kernel
theorem dX9_knife_22 : decode cX9_knife 22 = .ok (.putfield 57, 3) := by decide +kernel
theorem dX9_knife_25 : decode cX9_knife 25 = .ok (.iload_n 2, 1) := by decide +kernel
theorem dX9_knife_26 : decode cX9_knife 26 = .ok (.ireturn, 1) := by decide +kernel
theorem dX9_thickness_0 : decode cX9_thickness 0 = .ok (.iload_n 1, 1) := by decide +kernel
theorem dX9_thickness_1 : decode cX9_thickness 1 = .ok (.iload_n 2, 1) := by decide +kernel
theorem dX9_thickness_2 : decode cX9_thickness 2 = .ok (.invokestatic 68, 3) := by decide +kernel
theorem dX9_thickness_5 : decode cX9_thickness 5 = .ok (.ifCond .eq 15, 3) := by decide +kernel
theorem dX9_thickness_8 : decode cX9_thickness 8 = .ok (.aload_n 0, 1) := by decide +kernel
theorem dX9_thickness_9 : decode cX9_thickness 9 = .ok (.getfield 21, 3) := by decide +kernel
theorem dX9_thickness_12 : decode cX9_thickness 12 = .ok (.iload_n 1, 1) := by decide +kernel
theorem dX9_thickness_13 : decode cX9_thickness 13 = .ok (.iload_n 2, 1) := by decide +kernel
theorem dX9_thickness_14 : decode cX9_thickness 14 = .ok (.invokevirtual 168, 3) := by decide +kernel
theorem dX9_thickness_17 : decode cX9_thickness 17 = .ok (.goto 5, 3) := by decide +kernel
theorem dX9_thickness_20 : decode cX9_thickness 20 = .ok (.bipush (-2), 2) := by decide +kernel
theorem dX9_thickness_22 : decode cX9_thickness 22 = .ok (.ireturn, 1) := by decide +kernel
theorem dX9_would_0 : decode cX9_would 0 = .ok (.iload_n 1, 1) := by decide +kernel
theorem dX9_would_1 : decode cX9_would 1 = .ok (.iload_n 2, 1) := by decide +kernel
theorem dX9_would_2 : decode cX9_would 2 = .ok (.invokestatic 68, 3) := by decide +kernel
theorem dX9_would_5 : decode cX9_would 5 = .ok (.ifCond .eq 10, 3) := by decide +kernel
theorem dX9_would_8 : decode cX9_would 8 = .ok (.iload_n 3, 1) := by decide +kernel
theorem dX9_would_9 : decode cX9_would 9 = .ok (.invokestatic 74, 3) := by decide +kernel
theorem dX9_would_12 : decode cX9_would 12 = .ok (.ifCond .ne 6, 3) := by decide +kernel
theorem dX9_would_15 : decode cX9_would 15 = .ok (.bipush (-2), 2) := by decide +kernel
theorem dX9_would_17 : decode cX9_would 17 = .ok (.ireturn, 1) := by decide +kernel
theorem dX9_would_18 : decode cX9_would 18 = .ok (.aload_n 0, 1) := by decide +kernel
theorem dX9_would_19 : decode cX9_would 19 = .ok (.getfield 21, 3) := by decide +kernel
theorem dX9_would_22 : decode cX9_would 22 = .ok (.iload_n 1, 1) := by decide +kernel
theorem dX9_would_23 : decode cX9_would 23 = .ok (.iload_n 2, 1) := by decide +kernel
theorem dX9_would_24 : decode cX9_would 24 = .ok (.iload_n 3, 1) := by decide +kernel
theorem dX9_would_25 : decode cX9_would 25 = .ok (.invokevirtual 171, 3) := by decide +kernel
theorem dX9_would_28 : decode cX9_would 28 = .ok (.ireturn, 1) := by decide +kernel
theorem dX9_cut_0 : decode cX9_cut 0 = .ok (.iload_n 1, 1) := by decide +kernel
theorem dX9_cut_1 : decode cX9_cut 1 = .ok (.iload_n 2, 1) := by decide +kernel
theorem dX9_cut_2 : decode cX9_cut 2 = .ok (.invokestatic 68, 3) := by decide +kernel
theorem dX9_cut_5 : decode cX9_cut 5 = .ok (.ifCond .eq 10, 3) := by decide +kernel
theorem dX9_cut_8 : decode cX9_cut 8 = .ok (.iload_n 3, 1) := by decide +kernel
theorem dX9_cut_9 : decode cX9_cut 9 = .ok (.invokestatic 74, 3) := by decide +kernel
theorem dX9_cut_12 : decode cX9_cut 12 = .ok (.ifCond .ne 6, 3) := by decide +kernel
theorem dX9_cut_15 : decode cX9_cut 15 = .ok (.bipush (-2), 2) := by decide +kernel
theorem dX9_cut_17 : decode cX9_cut 17 = .ok (.ireturn, 1) := by decide +kernel
theorem dX9_cut_18 : decode cX9_cut 18 = .ok (.aload_n 0, 1) := by decide +kernel
theorem dX9_cut_19 : decode cX9_cut 19 = .ok (.getfield 37, 3) := by decide +kernel
theorem dX9_cut_22 : decode cX9_cut 22 = .ok (.getfield 78, 3) := by decide +kernel
theorem dX9_cut_25 : decode cX9_cut 25 = .ok (.ifCond .eq 6, 3) := by decide +kernel
theorem dX9_cut_28 : decode cX9_cut 28 = .ok (.bipush (-3), 2) := by decide +kernel
theorem dX9_cut_30 : decode cX9_cut 30 = .ok (.ireturn, 1) := by decide +kernel
theorem dX9_cut_31 : decode cX9_cut 31 = .ok (.aload_n 0, 1) := by decide +kernel
theorem dX9_cut_32 : decode cX9_cut 32 = .ok (.getfield 21, 3) := by decide +kernel
theorem dX9_cut_35 : decode cX9_cut 35 = .ok (.iload_n 1, 1) := by decide +kernel
theorem dX9_cut_36 : decode cX9_cut 36 = .ok (.iload_n 2, 1) := by decide +kernel
theorem dX9_cut_37 : decode cX9_cut 37 = .ok (.invokevirtual 168, 3) := by decide +kernel
theorem dX9_cut_40 : decode cX9_cut 40 = .ok (.aload_n 0, 1) := by decide +kernel
theorem dX9_cut_41 : decode cX9_cut 41 = .ok (.getfield 57, 3) := by decide +kernel
theorem dX9_cut_44 : decode cX9_cut 44 = .ok (.if_icmp .le 6, 3) := by decide +kernel
theorem dX9_cut_47 : decode cX9_cut 47 = .ok (.bipush (-4), 2) := by decide +kernel
theorem dX9_cut_49 : decode cX9_cut 49 = .ok (.ireturn, 1) := by decide +kernel
theorem dX9_cut_50 : decode cX9_cut 50 = .ok (.aload_n 0, 1) := by decide +kernel
theorem dX9_cut_51 : decode cX9_cut 51 = .ok (.getfield 37, 3) := by decide +kernel
theorem dX9_cut_54 : decode cX9_cut 54 = .ok (.aload_n 0, 1) := by decide +kernel
theorem dX9_cut_55 : decode cX9_cut 55 = .ok (.getfield 21, 3) := by decide +kernel
theorem dX9_cut_58 : decode cX9_cut 58 = .ok (.iload_n 1, 1) := by decide +kernel
theorem dX9_cut_59 : decode cX9_cut 59 = .ok (.iload_n 2, 1) := by decide +kernel
theorem dX9_cut_60 : decode cX9_cut 60 = .ok (.iload_n 3, 1) := by decide +kernel
theorem dX9_cut_61 : decode cX9_cut 61 = .ok (.invokevirtual 175, 3) := by decide +kernel
theorem dX9_cut_64 : decode cX9_cut 64 = .ok (.aload_n 0, 1) := by decide +kernel
theorem dX9_cut_65 : decode cX9_cut 65 = .ok (.getfield 37, 3) := by decide +kernel
theorem dX9_cut_68 : decode cX9_cut 68 = .ok (.getfield 179, 3) := by decide +kernel
theorem dX9_cut_71 : decode cX9_cut 71 = .ok (.ireturn, 1) := by decide +kernel
theorem dX9_pieces_0 : decode cX9_pieces 0 = .ok (.aload_n 0, 1) := by decide +kernel
theorem dX9_pieces_1 : decode cX9_pieces 1 = .ok (.getfield 37, 3) := by decide +kernel
theorem dX9_pieces_4 : decode cX9_pieces 4 = .ok (.iload_n 1, 1) := by decide +kernel
theorem dX9_pieces_5 : decode cX9_pieces 5 = .ok (.ifCond .ne 7, 3) := by decide +kernel
theorem dX9_pieces_8 : decode cX9_pieces 8 = .ok (.iconst 1, 1) := by decide +kernel
theorem dX9_pieces_9 : decode cX9_pieces 9 = .ok (.goto 4, 3) := by decide +kernel
theorem dX9_pieces_12 : decode cX9_pieces 12 = .ok (.iconst 0, 1) := by decide +kernel
theorem dX9_pieces_13 : decode cX9_pieces 13 = .ok (.invokevirtual 182, 3) := by decide +kernel
theorem dX9_pieces_16 : decode cX9_pieces 16 = .ok (.ireturn, 1) := by decide +kernel
theorem dX9_holes_0 : decode cX9_holes 0 = .ok (.aload_n 0, 1) := by decide +kernel
theorem dX9_holes_1 : decode cX9_holes 1 = .ok (.getfield 37, 3) := by decide +kernel
theorem dX9_holes_4 : decode cX9_holes 4 = .ok (.invokevirtual 184, 3) := by decide +kernel
theorem dX9_holes_7 : decode cX9_holes 7 = .ok (.ireturn, 1) := by decide +kernel
theorem dX9_rims_0 : decode cX9_rims 0 = .ok (.iload_n 1, 1) := by decide +kernel
theorem dX9_rims_1 : decode cX9_rims 1 = .ok (.ifCond .eq 23, 3) := by decide +kernel
theorem dX9_rims_4 : decode cX9_rims 4 = .ok (.aload_n 0, 1) := by decide +kernel
theorem dX9_rims_5 : decode cX9_rims 5 = .ok (.getfield 37, 3) := by decide +kernel
theorem dX9_rims_8 : decode cX9_rims 8 = .ok (.iconst 1, 1) := by decide +kernel
theorem dX9_rims_9 : decode cX9_rims 9 = .ok (.invokevirtual 187, 3) := by decide +kernel
theorem dX9_rims_12 : decode cX9_rims 12 = .ok (.aload_n 0, 1) := by decide +kernel
theorem dX9_rims_13 : decode cX9_rims 13 = .ok (.getfield 37, 3) := by decide +kernel
theorem dX9_rims_16 : decode cX9_rims 16 = .ok (.iconst 2, 1) := by decide +kernel
theorem dX9_rims_17 : decode cX9_rims 17 = .ok (.invokevirtual 187, 3) := by decide +kernel
theorem dX9_rims_20 : decode cX9_rims 20 = .ok (.iadd, 1) := by decide +kernel
theorem dX9_rims_21 : decode cX9_rims 21 = .ok (.goto 11, 3) := by decide +kernel
theorem dX9_rims_24 : decode cX9_rims 24 = .ok (.aload_n 0, 1) := by decide +kernel
theorem dX9_rims_25 : decode cX9_rims 25 = .ok (.getfield 37, 3) := by decide +kernel
theorem dX9_rims_28 : decode cX9_rims 28 = .ok (.iconst 0, 1) := by decide +kernel
theorem dX9_rims_29 : decode cX9_rims 29 = .ok (.invokevirtual 187, 3) := by decide +kernel
theorem dX9_rims_32 : decode cX9_rims 32 = .ok (.ireturn, 1) := by decide +kernel
theorem dX9_piece_0 : decode cX9_piece 0 = .ok (.aload_n 0, 1) := by decide +kernel
theorem dX9_piece_1 : decode cX9_piece 1 = .ok (.getfield 12, 3) := by decide +kernel
theorem dX9_piece_4 : decode cX9_piece 4 = .ok (.iload_n 1, 1) := by decide +kernel
theorem dX9_piece_5 : decode cX9_piece 5 = .ok (.invokevirtual 98, 3) := by decide +kernel
theorem dX9_piece_8 : decode cX9_piece 8 = .ok (.ifCond .eq 14, 3) := by decide +kernel
theorem dX9_piece_11 : decode cX9_piece 11 = .ok (.aload_n 0, 1) := by decide +kernel
theorem dX9_piece_12 : decode cX9_piece 12 = .ok (.getfield 37, 3) := by decide +kernel
theorem dX9_piece_15 : decode cX9_piece 15 = .ok (.iload_n 1, 1) := by decide +kernel
theorem dX9_piece_16 : decode cX9_piece 16 = .ok (.invokevirtual 190, 3) := by decide +kernel
theorem dX9_piece_19 : decode cX9_piece 19 = .ok (.goto 4, 3) := by decide +kernel
theorem dX9_piece_22 : decode cX9_piece 22 = .ok (.iconst (-1), 1) := by decide +kernel
theorem dX9_piece_23 : decode cX9_piece 23 = .ok (.ireturn, 1) := by decide +kernel
theorem dX9_mark_0 : decode cX9_mark 0 = .ok (.aload_n 0, 1) := by decide +kernel
theorem dX9_mark_1 : decode cX9_mark 1 = .ok (.getfield 12, 3) := by decide +kernel
theorem dX9_mark_4 : decode cX9_mark 4 = .ok (.iload_n 1, 1) := by decide +kernel
theorem dX9_mark_5 : decode cX9_mark 5 = .ok (.invokevirtual 98, 3) := by decide +kernel
theorem dX9_mark_8 : decode cX9_mark 8 = .ok (.ifCond .ne 5, 3) := by decide +kernel
theorem dX9_mark_11 : decode cX9_mark 11 = .ok (.iconst (-1), 1) := by decide +kernel
theorem dX9_mark_12 : decode cX9_mark 12 = .ok (.ireturn, 1) := by decide +kernel
theorem dX9_mark_13 : decode cX9_mark 13 = .ok (.aload_n 0, 1) := by decide +kernel
theorem dX9_mark_14 : decode cX9_mark 14 = .ok (.getfield 44, 3) := by decide +kernel
theorem dX9_mark_17 : decode cX9_mark 17 = .ok (.iload_n 1, 1) := by decide +kernel
theorem dX9_mark_18 : decode cX9_mark 18 = .ok (.invokevirtual 127, 3) := by decide +kernel
theorem dX9_mark_21 : decode cX9_mark 21 = .ok (.invokestatic 117, 3) := by decide +kernel
theorem dX9_mark_24 : decode cX9_mark 24 = .ok (.istore_n 3, 1) := by decide +kernel
theorem dX9_mark_25 : decode cX9_mark 25 = .ok (.aload_n 0, 1) := by decide +kernel
theorem dX9_mark_26 : decode cX9_mark 26 = .ok (.iload_n 1, 1) := by decide +kernel
theorem dX9_mark_27 : decode cX9_mark 27 = .ok (.iload_n 2, 1) := by decide +kernel
theorem dX9_mark_28 : decode cX9_mark 28 = .ok (.invokevirtual 193, 3) := by decide +kernel
theorem dX9_mark_31 : decode cX9_mark 31 = .ok (.iload_n 3, 1) := by decide +kernel
theorem dX9_mark_32 : decode cX9_mark 32 = .ok (.ireturn, 1) := by decide +kernel
theorem dX9_markCell_0 : decode cX9_markCell 0 = .ok (.aload_n 0, 1) := by decide +kernel
theorem dX9_markCell_1 : decode cX9_markCell 1 = .ok (.getfield 12, 3) := by decide +kernel
theorem dX9_markCell_4 : decode cX9_markCell 4 = .ok (.iload_n 1, 1) := by decide +kernel
theorem dX9_markCell_5 : decode cX9_markCell 5 = .ok (.iload_n 2, 1) := by decide +kernel
theorem dX9_markCell_6 : decode cX9_markCell 6 = .ok (.invokevirtual 197, 3) := by decide +kernel
theorem dX9_markCell_9 : decode cX9_markCell 9 = .ok (.ifCond .ne 6, 3) := by decide +kernel
theorem dX9_markCell_12 : decode cX9_markCell 12 = .ok (.bipush (-2), 2) := by decide +kernel
theorem dX9_markCell_14 : decode cX9_markCell 14 = .ok (.ireturn, 1) := by decide +kernel
theorem dX9_markCell_15 : decode cX9_markCell 15 = .ok (.iconst 0, 1) := by decide +kernel
theorem dX9_markCell_16 : decode cX9_markCell 16 = .ok (.istore 4, 2) := by decide +kernel
theorem dX9_markCell_18 : decode cX9_markCell 18 = .ok (.iload 4, 2) := by decide +kernel
theorem dX9_markCell_20 : decode cX9_markCell 20 = .ok (.iconst 4, 1) := by decide +kernel
theorem dX9_markCell_21 : decode cX9_markCell 21 = .ok (.if_icmp .ge 25, 3) := by decide +kernel
theorem dX9_markCell_24 : decode cX9_markCell 24 = .ok (.aload_n 0, 1) := by decide +kernel
theorem dX9_markCell_25 : decode cX9_markCell 25 = .ok (.aload_n 0, 1) := by decide +kernel
theorem dX9_markCell_26 : decode cX9_markCell 26 = .ok (.getfield 12, 3) := by decide +kernel
theorem dX9_markCell_29 : decode cX9_markCell 29 = .ok (.iload_n 1, 1) := by decide +kernel
theorem dX9_markCell_30 : decode cX9_markCell 30 = .ok (.iload_n 2, 1) := by decide +kernel
theorem dX9_markCell_31 : decode cX9_markCell 31 = .ok (.iload 4, 2) := by decide +kernel
theorem dX9_markCell_33 : decode cX9_markCell 33 = .ok (.invokevirtual 200, 3) := by decide +kernel
theorem dX9_markCell_36 : decode cX9_markCell 36 = .ok (.iload_n 3, 1) := by decide +kernel
theorem dX9_markCell_37 : decode cX9_markCell 37 = .ok (.invokevirtual 193, 3) := by decide +kernel
theorem dX9_markCell_40 : decode cX9_markCell 40 = .ok (.iinc 4 1, 3) := by decide +kernel
theorem dX9_markCell_43 : decode cX9_markCell 43 = .ok (.goto (-25), 3) := by decide +kernel
theorem dX9_markCell_46 : decode cX9_markCell 46 = .ok (.aload_n 0, 1) := by decide +kernel
theorem dX9_markCell_47 : decode cX9_markCell 47 = .ok (.getfield 44, 3) := by decide +kernel
theorem dX9_markCell_50 : decode cX9_markCell 50 = .ok (.getfield 203, 3) := by decide +kernel
theorem dX9_markCell_53 : decode cX9_markCell 53 = .ok (.ireturn, 1) := by decide +kernel
theorem dX9_take_0 : decode cX9_take 0 = .ok (.aload_n 0, 1) := by decide +kernel
theorem dX9_take_1 : decode cX9_take 1 = .ok (.getfield 37, 3) := by decide +kernel
theorem dX9_take_4 : decode cX9_take 4 = .ok (.getfield 78, 3) := by decide +kernel
theorem dX9_take_7 : decode cX9_take 7 = .ok (.ifCond .ne 6, 3) := by decide +kernel
theorem dX9_take_10 : decode cX9_take 10 = .ok (.bipush (-3), 2) := by decide +kernel
theorem dX9_take_12 : decode cX9_take 12 = .ok (.ireturn, 1) := by decide +kernel
theorem dX9_take_13 : decode cX9_take 13 = .ok (.iconst 0, 1) := by decide +kernel
theorem dX9_take_14 : decode cX9_take 14 = .ok (.istore_n 1, 1) := by decide +kernel
theorem dX9_take_15 : decode cX9_take 15 = .ok (.iload_n 1, 1) := by decide +kernel
theorem dX9_take_16 : decode cX9_take 16 = .ok (.aload_n 0, 1) := by decide +kernel
theorem dX9_take_17 : decode cX9_take 17 = .ok (.getfield 12, 3) := by decide +kernel
theorem dX9_take_20 : decode cX9_take 20 = .ok (.getfield 205, 3) := by decide +kernel
theorem dX9_take_23 : decode cX9_take 23 = .ok (.if_icmp .ge 22, 3) := by decide +kernel
theorem dX9_take_26 : decode cX9_take 26 = .ok (.aload_n 0, 1) := by decide +kernel
theorem dX9_take_27 : decode cX9_take 27 = .ok (.iload_n 1, 1) := by decide +kernel
theorem dX9_take_28 : decode cX9_take 28 = .ok (.aload_n 0, 1) := by decide +kernel
theorem dX9_take_29 : decode cX9_take 29 = .ok (.getfield 37, 3) := by decide +kernel
theorem dX9_take_32 : decode cX9_take 32 = .ok (.iload_n 1, 1) := by decide +kernel
theorem dX9_take_33 : decode cX9_take 33 = .ok (.invokevirtual 124, 3) := by decide +kernel
theorem dX9_take_36 : decode cX9_take 36 = .ok (.invokevirtual 193, 3) := by decide +kernel
theorem dX9_take_39 : decode cX9_take 39 = .ok (.iinc 1 1, 3) := by decide +kernel
theorem dX9_take_42 : decode cX9_take 42 = .ok (.goto (-27), 3) := by decide +kernel
theorem dX9_take_45 : decode cX9_take 45 = .ok (.aload_n 0, 1) := by decide +kernel
theorem dX9_take_46 : decode cX9_take 46 = .ok (.getfield 44, 3) := by decide +kernel
theorem dX9_take_49 : decode cX9_take 49 = .ok (.getfield 203, 3) := by decide +kernel
theorem dX9_take_52 : decode cX9_take 52 = .ok (.ireturn, 1) := by decide +kernel
theorem dX9_same_0 : decode cX9_same 0 = .ok (.iconst 0, 1) := by decide +kernel
theorem dX9_same_1 : decode cX9_same 1 = .ok (.istore_n 1, 1) := by decide +kernel
theorem dX9_same_2 : decode cX9_same 2 = .ok (.iload_n 1, 1) := by decide +kernel
theorem dX9_same_3 : decode cX9_same 3 = .ok (.aload_n 0, 1) := by decide +kernel
theorem dX9_same_4 : decode cX9_same 4 = .ok (.getfield 12, 3) := by decide +kernel
theorem dX9_same_7 : decode cX9_same 7 = .ok (.getfield 205, 3) := by decide +kernel
theorem dX9_same_10 : decode cX9_same 10 = .ok (.if_icmp .ge 30, 3) := by decide +kernel
theorem dX9_same_13 : decode cX9_same 13 = .ok (.aload_n 0, 1) := by decide +kernel
theorem dX9_same_14 : decode cX9_same 14 = .ok (.getfield 44, 3) := by decide +kernel
theorem dX9_same_17 : decode cX9_same 17 = .ok (.iload_n 1, 1) := by decide +kernel
theorem dX9_same_18 : decode cX9_same 18 = .ok (.invokevirtual 127, 3) := by decide +kernel
theorem dX9_same_21 : decode cX9_same 21 = .ok (.aload_n 0, 1) := by decide +kernel
theorem dX9_same_22 : decode cX9_same 22 = .ok (.getfield 37, 3) := by decide +kernel
theorem dX9_same_25 : decode cX9_same 25 = .ok (.iload_n 1, 1) := by decide +kernel
theorem dX9_same_26 : decode cX9_same 26 = .ok (.invokevirtual 124, 3) := by decide +kernel
theorem dX9_same_29 : decode cX9_same 29 = .ok (.if_icmp .eq 5, 3) := by decide +kernel
theorem dX9_same_32 : decode cX9_same 32 = .ok (.iconst 0, 1) := by decide +kernel
theorem dX9_same_33 : decode cX9_same 33 = .ok (.ireturn, 1) := by decide +kernel
theorem dX9_same_34 : decode cX9_same 34 = .ok (.iinc 1 1, 3) := by decide +kernel
theorem dX9_same_37 : decode cX9_same 37 = .ok (.goto (-35), 3) := by decide +kernel
theorem dX9_same_40 : decode cX9_same 40 = .ok (.iconst 1, 1) := by decide +kernel
theorem dX9_same_41 : decode cX9_same 41 = .ok (.ireturn, 1) := by decide +kernel
theorem dX9_mirror_0 : decode cX9_mirror 0 = .ok (.iload_n 1, 1) := by decide +kernel
theorem dX9_mirror_1 : decode cX9_mirror 1 = .ok (.iload_n 2, 1) := by decide +kernel
theorem dX9_mirror_2 : decode cX9_mirror 2 = .ok (.invokestatic 68, 3) := by decide +kernel
theorem dX9_mirror_5 : decode cX9_mirror 5 = .ok (.ifCond .eq 18, 3) := by decide +kernel
theorem dX9_mirror_8 : decode cX9_mirror 8 = .ok (.aload_n 0, 1) := by decide +kernel
theorem dX9_mirror_9 : decode cX9_mirror 9 = .ok (.getfield 44, 3) := by decide +kernel
theorem dX9_mirror_12 : decode cX9_mirror 12 = .ok (.iload_n 1, 1) := by decide +kernel
theorem dX9_mirror_13 : decode cX9_mirror 13 = .ok (.iload_n 2, 1) := by decide +kernel
theorem dX9_mirror_14 : decode cX9_mirror 14 = .ok (.invokevirtual 208, 3) := by decide +kernel
theorem dX9_mirror_17 : decode cX9_mirror 17 = .ok (.invokestatic 117, 3) := by decide +kernel
theorem dX9_mirror_20 : decode cX9_mirror 20 = .ok (.goto 5, 3) := by decide +kernel
theorem dX9_mirror_23 : decode cX9_mirror 23 = .ok (.bipush (-2), 2) := by decide +kernel
theorem dX9_mirror_25 : decode cX9_mirror 25 = .ok (.ireturn, 1) := by decide +kernel
theorem dX9_mirrors_0 : decode cX9_mirrors 0 = .ok (.iconst 0, 1) := by decide +kernel
theorem dX9_mirrors_1 : decode cX9_mirrors 1 = .ok (.istore_n 1, 1) := by decide +kernel
theorem dX9_mirrors_2 : decode cX9_mirrors 2 = .ok (.iconst 0, 1) := by decide +kernel
theorem dX9_mirrors_3 : decode cX9_mirrors 3 = .ok (.istore_n 2, 1) := by decide +kernel
theorem dX9_mirrors_4 : decode cX9_mirrors 4 = .ok (.iload_n 2, 1) := by decide +kernel
theorem dX9_mirrors_5 : decode cX9_mirrors 5 = .ok (.iconst 4, 1) := by decide +kernel
theorem dX9_mirrors_6 : decode cX9_mirrors 6 = .ok (.if_icmp .ge 39, 3) := by decide +kernel
theorem dX9_mirrors_9 : decode cX9_mirrors 9 = .ok (.bipush (-24), 2) := by decide +kernel
theorem dX9_mirrors_11 : decode cX9_mirrors 11 = .ok (.istore_n 3, 1) := by decide +kernel
theorem dX9_mirrors_12 : decode cX9_mirrors 12 = .ok (.iload_n 3, 1) := by decide +kernel
theorem dX9_mirrors_13 : decode cX9_mirrors 13 = .ok (.bipush 48, 2) := by decide +kernel
theorem dX9_mirrors_15 : decode cX9_mirrors 15 = .ok (.if_icmp .gt 24, 3) := by decide +kernel
theorem dX9_mirrors_18 : decode cX9_mirrors 18 = .ok (.iload_n 1, 1) := by decide +kernel
theorem dX9_mirrors_19 : decode cX9_mirrors 19 = .ok (.aload_n 0, 1) := by decide +kernel
theorem dX9_mirrors_20 : decode cX9_mirrors 20 = .ok (.getfield 44, 3) := by decide +kernel
theorem dX9_mirrors_23 : decode cX9_mirrors 23 = .ok (.iload_n 2, 1) := by decide +kernel
theorem dX9_mirrors_24 : decode cX9_mirrors 24 = .ok (.iload_n 3, 1) := by decide +kernel
theorem dX9_mirrors_25 : decode cX9_mirrors 25 = .ok (.invokevirtual 208, 3) := by decide +kernel
theorem dX9_mirrors_28 : decode cX9_mirrors 28 = .ok (.invokestatic 117, 3) := by decide +kernel
theorem dX9_mirrors_31 : decode cX9_mirrors 31 = .ok (.iadd, 1) := by decide +kernel
theorem dX9_mirrors_32 : decode cX9_mirrors 32 = .ok (.istore_n 1, 1) := by decide +kernel
theorem dX9_mirrors_33 : decode cX9_mirrors 33 = .ok (.iinc 3 1, 3) := by decide +kernel
theorem dX9_mirrors_36 : decode cX9_mirrors 36 = .ok (.goto (-24), 3) := by decide +kernel
theorem dX9_mirrors_39 : decode cX9_mirrors 39 = .ok (.iinc 2 1, 3) := by decide +kernel
theorem dX9_mirrors_42 : decode cX9_mirrors 42 = .ok (.goto (-38), 3) := by decide +kernel
theorem dX9_mirrors_45 : decode cX9_mirrors 45 = .ok (.iload_n 1, 1) := by decide +kernel
theorem dX9_mirrors_46 : decode cX9_mirrors 46 = .ok (.ireturn, 1) := by decide +kernel
theorem dX9_fewest_0 : decode cX9_fewest 0 = .ok (.iload_n 1, 1) := by decide +kernel
theorem dX9_fewest_1 : decode cX9_fewest 1 = .ok (.invokestatic 211, 3) := by decide +kernel
theorem dX9_fewest_4 : decode cX9_fewest 4 = .ok (.ifCond .eq 14, 3) := by decide +kernel
theorem dX9_fewest_7 : decode cX9_fewest 7 = .ok (.aload_n 0, 1) := by decide +kernel
theorem dX9_fewest_8 : decode cX9_fewest 8 = .ok (.getfield 53, 3) := by decide +kernel
theorem dX9_fewest_11 : decode cX9_fewest 11 = .ok (.iload_n 1, 1) := by decide +kernel
theorem dX9_fewest_12 : decode cX9_fewest 12 = .ok (.invokevirtual 214, 3) := by decide +kernel
theorem dX9_fewest_15 : decode cX9_fewest 15 = .ok (.goto 5, 3) := by decide +kernel
theorem dX9_fewest_18 : decode cX9_fewest 18 = .ok (.bipush (-2), 2) := by decide +kernel
theorem dX9_fewest_20 : decode cX9_fewest 20 = .ok (.ireturn, 1) := by decide +kernel
theorem dX9_way_0 : decode cX9_way 0 = .ok (.iload_n 1, 1) := by decide +kernel
theorem dX9_way_1 : decode cX9_way 1 = .ok (.invokestatic 211, 3) := by decide +kernel
theorem dX9_way_4 : decode cX9_way 4 = .ok (.ifCond .ne 6, 3) := by decide +kernel
theorem dX9_way_7 : decode cX9_way 7 = .ok (.bipush (-2), 2) := by decide +kernel
theorem dX9_way_9 : decode cX9_way 9 = .ok (.ireturn, 1) := by decide +kernel
theorem dX9_way_10 : decode cX9_way 10 = .ok (.aload_n 0, 1) := by decide +kernel
theorem dX9_way_11 : decode cX9_way 11 = .ok (.getfield 53, 3) := by decide +kernel
theorem dX9_way_14 : decode cX9_way 14 = .ok (.iload_n 1, 1) := by decide +kernel
theorem dX9_way_15 : decode cX9_way 15 = .ok (.invokevirtual 214, 3) := by decide +kernel
theorem dX9_way_18 : decode cX9_way 18 = .ok (.istore_n 3, 1) := by decide +kernel
theorem dX9_way_19 : decode cX9_way 19 = .ok (.iload_n 3, 1) := by decide +kernel
theorem dX9_way_20 : decode cX9_way 20 = .ok (.ifCond .ge 7, 3) := by decide +kernel
theorem dX9_way_23 : decode cX9_way 23 = .ok (.iload_n 3, 1) := by decide +kernel
theorem dX9_way_24 : decode cX9_way 24 = .ok (.goto 12, 3) := by decide +kernel
theorem dX9_way_27 : decode cX9_way 27 = .ok (.aload_n 0, 1) := by decide +kernel
theorem dX9_way_28 : decode cX9_way 28 = .ok (.getfield 53, 3) := by decide +kernel
theorem dX9_way_31 : decode cX9_way 31 = .ok (.iload_n 2, 1) := by decide +kernel
theorem dX9_way_32 : decode cX9_way 32 = .ok (.iload_n 3, 1) := by decide +kernel
theorem dX9_way_33 : decode cX9_way 33 = .ok (.invokevirtual 217, 3) := by decide +kernel
theorem dX9_way_36 : decode cX9_way 36 = .ok (.ireturn, 1) := by decide +kernel
theorem dX9_ways_0 : decode cX9_ways 0 = .ok (.iload_n 1, 1) := by decide +kernel
theorem dX9_ways_1 : decode cX9_ways 1 = .ok (.invokestatic 211, 3) := by decide +kernel
theorem dX9_ways_4 : decode cX9_ways 4 = .ok (.ifCond .ne 6, 3) := by decide +kernel
theorem dX9_ways_7 : decode cX9_ways 7 = .ok (.bipush (-2), 2) := by decide +kernel
theorem dX9_ways_9 : decode cX9_ways 9 = .ok (.ireturn, 1) := by decide +kernel
theorem dX9_ways_10 : decode cX9_ways 10 = .ok (.aload_n 0, 1) := by decide +kernel
theorem dX9_ways_11 : decode cX9_ways 11 = .ok (.getfield 53, 3) := by decide +kernel
theorem dX9_ways_14 : decode cX9_ways 14 = .ok (.iload_n 1, 1) := by decide +kernel
theorem dX9_ways_15 : decode cX9_ways 15 = .ok (.invokevirtual 214, 3) := by decide +kernel
theorem dX9_ways_18 : decode cX9_ways 18 = .ok (.istore_n 2, 1) := by decide +kernel
theorem dX9_ways_19 : decode cX9_ways 19 = .ok (.iload_n 2, 1) := by decide +kernel
theorem dX9_ways_20 : decode cX9_ways 20 = .ok (.ldc 220, 2) := by decide +kernel
theorem dX9_ways_22 : decode cX9_ways 22 = .ok (.if_icmp .ne 5, 3) := by decide +kernel
theorem dX9_ways_25 : decode cX9_ways 25 = .ok (.iconst 0, 1) := by decide +kernel
theorem dX9_ways_26 : decode cX9_ways 26 = .ok (.ireturn, 1) := by decide +kernel
theorem dX9_ways_27 : decode cX9_ways 27 = .ok (.iload_n 2, 1) := by decide +kernel
theorem dX9_ways_28 : decode cX9_ways 28 = .ok (.ifCond .ge 7, 3) := by decide +kernel
theorem dX9_ways_31 : decode cX9_ways 31 = .ok (.iload_n 2, 1) := by decide +kernel
theorem dX9_ways_32 : decode cX9_ways 32 = .ok (.goto 10, 3) := by decide +kernel
theorem dX9_ways_35 : decode cX9_ways 35 = .ok (.aload_n 0, 1) := by decide +kernel
theorem dX9_ways_36 : decode cX9_ways 36 = .ok (.getfield 53, 3) := by decide +kernel
theorem dX9_ways_39 : decode cX9_ways 39 = .ok (.getfield 221, 3) := by decide +kernel
theorem dX9_ways_42 : decode cX9_ways 42 = .ok (.ireturn, 1) := by decide +kernel
theorem dX9_count_0 : decode cX9_count 0 = .ok (.iload_n 1, 1) := by decide +kernel
theorem dX9_count_1 : decode cX9_count 1 = .ok (.tableswitch 75 0 4 #[35, 43, 51, 59, 67], 35) := by decide +kernel
theorem dX9_count_36 : decode cX9_count 36 = .ok (.aload_n 0, 1) := by decide +kernel
theorem dX9_count_37 : decode cX9_count 37 = .ok (.getfield 12, 3) := by decide +kernel
theorem dX9_count_40 : decode cX9_count 40 = .ok (.getfield 205, 3) := by decide +kernel
theorem dX9_count_43 : decode cX9_count 43 = .ok (.ireturn, 1) := by decide +kernel
theorem dX9_count_44 : decode cX9_count 44 = .ok (.aload_n 0, 1) := by decide +kernel
theorem dX9_count_45 : decode cX9_count 45 = .ok (.getfield 37, 3) := by decide +kernel
theorem dX9_count_48 : decode cX9_count 48 = .ok (.getfield 179, 3) := by decide +kernel
theorem dX9_count_51 : decode cX9_count 51 = .ok (.ireturn, 1) := by decide +kernel
theorem dX9_count_52 : decode cX9_count 52 = .ok (.aload_n 0, 1) := by decide +kernel
theorem dX9_count_53 : decode cX9_count 53 = .ok (.getfield 44, 3) := by decide +kernel
theorem dX9_count_56 : decode cX9_count 56 = .ok (.getfield 203, 3) := by decide +kernel
theorem dX9_count_59 : decode cX9_count 59 = .ok (.ireturn, 1) := by decide +kernel
theorem dX9_count_60 : decode cX9_count 60 = .ok (.aload_n 0, 1) := by decide +kernel
theorem dX9_count_61 : decode cX9_count 61 = .ok (.getfield 21, 3) := by decide +kernel
theorem dX9_count_64 : decode cX9_count 64 = .ok (.invokevirtual 224, 3) := by decide +kernel
theorem dX9_count_67 : decode cX9_count 67 = .ok (.ireturn, 1) := by decide +kernel
theorem dX9_count_68 : decode cX9_count 68 = .ok (.aload_n 0, 1) := by decide +kernel
theorem dX9_count_69 : decode cX9_count 69 = .ok (.getfield 12, 3) := by decide +kernel
theorem dX9_count_72 : decode cX9_count 72 = .ok (.getfield 65, 3) := by decide +kernel
theorem dX9_count_75 : decode cX9_count 75 = .ok (.ireturn, 1) := by decide +kernel
theorem dX9_count_76 : decode cX9_count 76 = .ok (.bipush (-2), 2) := by decide +kernel
theorem dX9_count_78 : decode cX9_count 78 = .ok (.ireturn, 1) := by decide +kernel
theorem dX9_begin_0 : decode cX9_begin 0 = .ok (.aload_n 0, 1) := by decide +kernel
theorem dX9_begin_1 : decode cX9_begin 1 = .ok (.getfield 12, 3) := by decide +kernel
theorem dX9_begin_4 : decode cX9_begin 4 = .ok (.iload_n 1, 1) := by decide +kernel
theorem dX9_begin_5 : decode cX9_begin 5 = .ok (.invokevirtual 227, 3) := by decide +kernel
theorem dX9_begin_8 : decode cX9_begin 8 = .ok (.aload_n 0, 1) := by decide +kernel
theorem dX9_begin_9 : decode cX9_begin 9 = .ok (.getfield 21, 3) := by decide +kernel
theorem dX9_begin_12 : decode cX9_begin 12 = .ok (.invokevirtual 230, 3) := by decide +kernel
theorem dX9_begin_15 : decode cX9_begin 15 = .ok (.aload_n 0, 1) := by decide +kernel
theorem dX9_begin_16 : decode cX9_begin 16 = .ok (.getfield 37, 3) := by decide +kernel
theorem dX9_begin_19 : decode cX9_begin 19 = .ok (.invokevirtual 233, 3) := by decide +kernel
theorem dX9_begin_22 : decode cX9_begin 22 = .ok (.aload_n 0, 1) := by decide +kernel
theorem dX9_begin_23 : decode cX9_begin 23 = .ok (.getfield 44, 3) := by decide +kernel
theorem dX9_begin_26 : decode cX9_begin 26 = .ok (.invokevirtual 236, 3) := by decide +kernel
theorem dX9_begin_29 : decode cX9_begin 29 = .ok (.aload_n 0, 1) := by decide +kernel
theorem dX9_begin_30 : decode cX9_begin 30 = .ok (.getfield 53, 3) := by decide +kernel
theorem dX9_begin_33 : decode cX9_begin 33 = .ok (.invokevirtual 239, 3) := by decide +kernel
theorem dX9_begin_36 : decode cX9_begin 36 = .ok (.return_, 1) := by decide +kernel
theorem dX9_draw_0 : decode cX9_draw 0 = .ok (.aload_n 0, 1) := by decide +kernel
theorem dX9_draw_1 : decode cX9_draw 1 = .ok (.getfield 44, 3) := by decide +kernel
theorem dX9_draw_4 : decode cX9_draw 4 = .ok (.iload_n 1, 1) := by decide +kernel
theorem dX9_draw_5 : decode cX9_draw 5 = .ok (.invokevirtual 127, 3) := by decide +kernel
theorem dX9_draw_8 : decode cX9_draw 8 = .ok (.iload_n 2, 1) := by decide +kernel
theorem dX9_draw_9 : decode cX9_draw 9 = .ok (.if_icmp .eq 19, 3) := by decide +kernel
theorem dX9_draw_12 : decode cX9_draw 12 = .ok (.aload_n 0, 1) := by decide +kernel
theorem dX9_draw_13 : decode cX9_draw 13 = .ok (.getfield 44, 3) := by decide +kernel
theorem dX9_draw_16 : decode cX9_draw 16 = .ok (.iload_n 1, 1) := by decide +kernel
theorem dX9_draw_17 : decode cX9_draw 17 = .ok (.iload_n 2, 1) := by decide +kernel
theorem dX9_draw_18 : decode cX9_draw 18 = .ok (.invokevirtual 242, 3) := by decide +kernel
theorem dX9_draw_21 : decode cX9_draw 21 = .ok (.aload_n 0, 1) := by decide +kernel
theorem dX9_draw_22 : decode cX9_draw 22 = .ok (.getfield 53, 3) := by decide +kernel
theorem dX9_draw_25 : decode cX9_draw 25 = .ok (.invokevirtual 239, 3) := by decide +kernel
theorem dX9_draw_28 : decode cX9_draw 28 = .ok (.return_, 1) := by decide +kernel
theorem dX9_yes_0 : decode cX9_yes 0 = .ok (.iload_n 0, 1) := by decide +kernel
theorem dX9_yes_1 : decode cX9_yes 1 = .ok (.ifCond .eq 7, 3) := by decide +kernel
theorem dX9_yes_4 : decode cX9_yes 4 = .ok (.iconst 1, 1) := by decide +kernel
theorem dX9_yes_5 : decode cX9_yes 5 = .ok (.goto 4, 3) := by decide +kernel
theorem dX9_yes_8 : decode cX9_yes 8 = .ok (.iconst 0, 1) := by decide +kernel
theorem dX9_yes_9 : decode cX9_yes 9 = .ok (.ireturn, 1) := by decide +kernel
theorem dX9_isEdge_0 : decode cX9_isEdge 0 = .ok (.iload_n 0, 1) := by decide +kernel
theorem dX9_isEdge_1 : decode cX9_isEdge 1 = .ok (.ifCond .lt 12, 3) := by decide +kernel
theorem dX9_isEdge_4 : decode cX9_isEdge 4 = .ok (.iload_n 0, 1) := by decide +kernel
theorem dX9_isEdge_5 : decode cX9_isEdge 5 = .ok (.iconst 2, 1) := by decide +kernel
theorem dX9_isEdge_6 : decode cX9_isEdge 6 = .ok (.if_icmp .gt 7, 3) := by decide +kernel
theorem dX9_isEdge_9 : decode cX9_isEdge 9 = .ok (.iconst 1, 1) := by decide +kernel
theorem dX9_isEdge_10 : decode cX9_isEdge 10 = .ok (.goto 4, 3) := by decide +kernel
theorem dX9_isEdge_13 : decode cX9_isEdge 13 = .ok (.iconst 0, 1) := by decide +kernel
theorem dX9_isEdge_14 : decode cX9_isEdge 14 = .ok (.ireturn, 1) := by decide +kernel
theorem dX9_isWayLength_0 : decode cX9_isWayLength 0 = .ok (.iload_n 0, 1) := by decide +kernel
theorem dX9_isWayLength_1 : decode cX9_isWayLength 1 = .ok (.ifCond .lt 12, 3) := by decide +kernel
theorem dX9_isWayLength_4 : decode cX9_isWayLength 4 = .ok (.iload_n 0, 1) := by decide +kernel
theorem dX9_isWayLength_5 : decode cX9_isWayLength 5 = .ok (.iconst 3, 1) := by decide +kernel
theorem dX9_isWayLength_6 : decode cX9_isWayLength 6 = .ok (.if_icmp .gt 7, 3) := by decide +kernel
theorem dX9_isWayLength_9 : decode cX9_isWayLength 9 = .ok (.iconst 1, 1) := by decide +kernel
theorem dX9_isWayLength_10 : decode cX9_isWayLength 10 = .ok (.goto 4, 3) := by decide +kernel
theorem dX9_isWayLength_13 : decode cX9_isWayLength 13 = .ok (.iconst 0, 1) := by decide +kernel
theorem dX9_isWayLength_14 : decode cX9_isWayLength 14 = .ok (.ireturn, 1) := by decide +kernel
theorem dX10_init_0 : decode cX10_init 0 = .ok (.aload_n 0, 1) := by decide +kernel
theorem dX10_init_1 : decode cX10_init 1 = .ok (.invokespecial 1, 3) := by decide +kernel
theorem dX10_init_4 : decode cX10_init 4 = .ok (.aload_n 0, 1) := by decide +kernel
theorem dX10_init_5 : decode cX10_init 5 = .ok (.iconst 4, 1) := by decide +kernel
theorem dX10_init_6 : decode cX10_init 6 = .ok (.putfield 7, 3) := by decide +kernel
theorem dX10_init_9 : decode cX10_init 9 = .ok (.aload_n 0, 1) := by decide +kernel
theorem dX10_init_10 : decode cX10_init 10 = .ok (.sipush 144, 3) := by decide +kernel
theorem dX10_init_13 : decode cX10_init 13 = .ok (.newarray .int, 2) := by decide +kernel
theorem dX10_init_15 : decode cX10_init 15 = .ok (.putfield 13, 3) := by decide +kernel
theorem dX10_init_18 : decode cX10_init 18 = .ok (.aload_n 0, 1) := by decide +kernel
theorem dX10_init_19 : decode cX10_init 19 = .ok (.sipush 144, 3) := by decide +kernel
theorem dX10_init_22 : decode cX10_init 22 = .ok (.newarray .int, 2) := by decide +kernel
theorem dX10_init_24 : decode cX10_init 24 = .ok (.putfield 17, 3) := by decide +kernel
theorem dX10_init_27 : decode cX10_init 27 = .ok (.aload_n 0, 1) := by decide +kernel
theorem dX10_init_28 : decode cX10_init 28 = .ok (.sipush 144, 3) := by decide +kernel
theorem dX10_init_31 : decode cX10_init 31 = .ok (.newarray .int, 2) := by decide +kernel
theorem dX10_init_33 : decode cX10_init 33 = .ok (.putfield 20, 3) := by decide +kernel
theorem dX10_init_36 : decode cX10_init 36 = .ok (.aload_n 0, 1) := by decide +kernel
theorem dX10_init_37 : decode cX10_init 37 = .ok (.sipush 144, 3) := by decide +kernel
theorem dX10_init_40 : decode cX10_init 40 = .ok (.newarray .int, 2) := by decide +kernel
theorem dX10_init_42 : decode cX10_init 42 = .ok (.putfield 23, 3) := by decide +kernel
theorem dX10_init_45 : decode cX10_init 45 = .ok (.aload_n 0, 1) := by decide +kernel
theorem dX10_init_46 : decode cX10_init 46 = .ok (.sipush 144, 3) := by decide +kernel
theorem dX10_init_49 : decode cX10_init 49 = .ok (.newarray .boolean, 2) := by decide +kernel
theorem dX10_init_51 : decode cX10_init 51 = .ok (.putfield 26, 3) := by decide +kernel
theorem dX10_init_54 : decode cX10_init 54 = .ok (.aload_n 0, 1) := by decide +kernel
theorem dX10_init_55 : decode cX10_init 55 = .ok (.sipush 432, 3) := by decide +kernel
theorem dX10_init_58 : decode cX10_init 58 = .ok (.newarray .int, 2) := by decide +kernel
theorem dX10_init_60 : decode cX10_init 60 = .ok (.putfield 30, 3) := by decide +kernel
theorem dX10_init_63 : decode cX10_init 63 = .ok (.aload_n 0, 1) := by decide +kernel
theorem dX10_init_64 : decode cX10_init 64 = .ok (.sipush 1152, 3) := by decide +kernel
theorem dX10_init_67 : decode cX10_init 67 = .ok (.newarray .int, 2) := by decide +kernel
theorem dX10_init_69 : decode cX10_init 69 = .ok (.putfield 33, 3) := by decide +kernel
theorem dX10_init_72 : decode cX10_init 72 = .ok (.aload_n 0, 1) := by decide +kernel
theorem dX10_init_73 : decode cX10_init 73 = .ok (.sipush 1152, 3) := by decide +kernel
theorem dX10_init_76 : decode cX10_init 76 = .ok (.newarray .int, 2) := by decide +kernel
theorem dX10_init_78 : decode cX10_init 78 = .ok (.putfield 36, 3) := by decide +kernel
theorem dX10_init_81 : decode cX10_init 81 = .ok (.aload_n 0, 1) := by decide +kernel
theorem dX10_init_82 : decode cX10_init 82 = .ok (.sipush 1152, 3) := by decide +kernel
theorem dX10_init_85 : decode cX10_init 85 = .ok (.newarray .int, 2) := by decide +kernel
theorem dX10_init_87 : decode cX10_init 87 = .ok (.putfield 39, 3) := by decide +kernel
theorem dX10_init_90 : decode cX10_init 90 = .ok (.aload_n 0, 1) := by decide +kernel
theorem dX10_init_91 : decode cX10_init 91 = .ok (.sipush 1152, 3) := by decide +kernel
theorem dX10_init_94 : decode cX10_init 94 = .ok (.newarray .int, 2) := by decide +kernel
theorem dX10_init_96 : decode cX10_init 96 = .ok (.putfield 42, 3) := by decide +kernel
theorem dX10_init_99 : decode cX10_init 99 = .ok (.aload_n 0, 1) := by decide +kernel
theorem dX10_init_100 : decode cX10_init 100 = .ok (.sipush 1152, 3) := by decide +kernel
theorem dX10_init_103 : decode cX10_init 103 = .ok (.newarray .boolean, 2) := by decide +kernel
theorem dX10_init_105 : decode cX10_init 105 = .ok (.putfield 45, 3) := by decide +kernel
theorem dX10_init_108 : decode cX10_init 108 = .ok (.aload_n 0, 1) := by decide +kernel
theorem dX10_init_109 : decode cX10_init 109 = .ok (.sipush 3456, 3) := by decide +kernel
theorem dX10_init_112 : decode cX10_init 112 = .ok (.newarray .int, 2) := by decide +kernel
theorem dX10_init_114 : decode cX10_init 114 = .ok (.putfield 48, 3) := by decide +kernel
theorem dX10_init_117 : decode cX10_init 117 = .ok (.aload_n 0, 1) := by decide +kernel
theorem dX10_init_118 : decode cX10_init 118 = .ok (.sipush 144, 3) := by decide +kernel
theorem dX10_init_121 : decode cX10_init 121 = .ok (.newarray .boolean, 2) := by decide +kernel
theorem dX10_init_123 : decode cX10_init 123 = .ok (.putfield 51, 3) := by decide +kernel
theorem dX10_init_126 : decode cX10_init 126 = .ok (.aload_n 0, 1) := by decide +kernel
theorem dX10_init_127 : decode cX10_init 127 = .ok (.sipush 144, 3) := by decide +kernel
theorem dX10_init_130 : decode cX10_init 130 = .ok (.putfield 54, 3) := by decide +kernel
theorem dX10_init_133 : decode cX10_init 133 = .ok (.aload_n 0, 1) := by decide +kernel
theorem dX10_init_134 : decode cX10_init 134 = .ok (.sipush 144, 3) := by decide +kernel
theorem dX10_init_137 : decode cX10_init 137 = .ok (.newarray .boolean, 2) := by decide +kernel
theorem dX10_init_139 : decode cX10_init 139 = .ok (.putfield 57, 3) := by decide +kernel
theorem dX10_init_142 : decode cX10_init 142 = .ok (.aload_n 0, 1) := by decide +kernel
theorem dX10_init_143 : decode cX10_init 143 = .ok (.sipush 144, 3) := by decide +kernel
theorem dX10_init_146 : decode cX10_init 146 = .ok (.newarray .boolean, 2) := by decide +kernel
theorem dX10_init_148 : decode cX10_init 148 = .ok (.putfield 60, 3) := by decide +kernel
theorem dX10_init_151 : decode cX10_init 151 = .ok (.aload_n 0, 1) := by decide +kernel
theorem dX10_init_152 : decode cX10_init 152 = .ok (.sipush 144, 3) := by decide +kernel
theorem dX10_init_155 : decode cX10_init 155 = .ok (.newarray .int, 2) := by decide +kernel
theorem dX10_init_157 : decode cX10_init 157 = .ok (.putfield 63, 3) := by decide +kernel
theorem dX10_init_160 : decode cX10_init 160 = .ok (.aload_n 0, 1) := by decide +kernel
theorem dX10_init_161 : decode cX10_init 161 = .ok (.sipush 576, 3) := by decide +kernel
theorem dX10_init_164 : decode cX10_init 164 = .ok (.newarray .int, 2) := by decide +kernel
theorem dX10_init_166 : decode cX10_init 166 = .ok (.putfield 66, 3) := by decide +kernel
theorem dX10_init_169 : decode cX10_init 169 = .ok (.aload_n 0, 1) := by decide +kernel
theorem dX10_init_170 : decode cX10_init 170 = .ok (.sipush 576, 3) := by decide +kernel
theorem dX10_init_173 : decode cX10_init 173 = .ok (.newarray .int, 2) := by decide +kernel
theorem dX10_init_175 : decode cX10_init 175 = .ok (.putfield 69, 3) := by decide +kernel
theorem dX10_init_178 : decode cX10_init 178 = .ok (.aload_n 0, 1) := by decide +kernel
theorem dX10_init_179 : decode cX10_init 179 = .ok (.sipush 576, 3) := by decide +kernel
theorem dX10_init_182 : decode cX10_init 182 = .ok (.newarray .int, 2) := by decide +kernel
theorem dX10_init_184 : decode cX10_init 184 = .ok (.putfield 72, 3) := by decide +kernel
theorem dX10_init_187 : decode cX10_init 187 = .ok (.aload_n 0, 1) := by decide +kernel
theorem dX10_init_188 : decode cX10_init 188 = .ok (.sipush 16384, 3) := by decide +kernel
theorem dX10_init_191 : decode cX10_init 191 = .ok (.newarray .int, 2) := by decide +kernel
theorem dX10_init_193 : decode cX10_init 193 = .ok (.putfield 75, 3) := by decide +kernel
theorem dX10_init_196 : decode cX10_init 196 = .ok (.aload_n 0, 1) := by decide +kernel
theorem dX10_init_197 : decode cX10_init 197 = .ok (.bipush 16, 2) := by decide +kernel
theorem dX10_init_199 : decode cX10_init 199 = .ok (.newarray .int, 2) := by decide +kernel
theorem dX10_init_201 : decode cX10_init 201 = .ok (.putfield 78, 3) := by decide +kernel
theorem dX10_init_204 : decode cX10_init 204 = .ok (.aload_n 0, 1) := by decide +kernel
theorem dX10_init_205 : decode cX10_init 205 = .ok (.bipush 16, 2) := by decide +kernel
theorem dX10_init_207 : decode cX10_init 207 = .ok (.newarray .int, 2) := by decide +kernel
theorem dX10_init_209 : decode cX10_init 209 = .ok (.putfield 81, 3) := by decide +kernel
theorem dX10_init_212 : decode cX10_init 212 = .ok (.aload_n 0, 1) := by decide +kernel
theorem dX10_init_213 : decode cX10_init 213 = .ok (.iconst 4, 1) := by decide +kernel
theorem dX10_init_214 : decode cX10_init 214 = .ok (.newarray .int, 2) := by decide +kernel
theorem dX10_init_216 : decode cX10_init 216 = .ok (.putfield 84, 3) := by decide +kernel
theorem dX10_init_219 : decode cX10_init 219 = .ok (.aload_n 0, 1) := by decide +kernel
theorem dX10_init_220 : decode cX10_init 220 = .ok (.iconst 4, 1) := by decide +kernel
theorem dX10_init_221 : decode cX10_init 221 = .ok (.newarray .int, 2) := by decide +kernel
theorem dX10_init_223 : decode cX10_init 223 = .ok (.putfield 87, 3) := by decide +kernel
theorem dX10_init_226 : decode cX10_init 226 = .ok (.aload_n 0, 1) := by decide +kernel
theorem dX10_init_227 : decode cX10_init 227 = .ok (.iconst 4, 1) := by decide +kernel
theorem dX10_init_228 : decode cX10_init 228 = .ok (.invokevirtual 90, 3) := by decide +kernel
theorem dX10_init_231 : decode cX10_init 231 = .ok (.return_, 1) := by decide +kernel
theorem dX10_in_0 : decode cX10_in 0 = .ok (.lload_n 0, 1) := by decide +kernel
theorem dX10_in_1 : decode cX10_in 1 = .ok (.lload_n 2, 1) := by decide +kernel
theorem dX10_in_2 : decode cX10_in 2 = .ok (.lcmp, 1) := by decide +kernel
theorem dX10_in_3 : decode cX10_in 3 = .ok (.ifCond .lt 14, 3) := by decide +kernel
theorem dX10_in_6 : decode cX10_in 6 = .ok (.lload_n 0, 1) := by decide +kernel
theorem dX10_in_7 : decode cX10_in 7 = .ok (.lload 4, 2) := by decide +kernel
theorem dX10_in_9 : decode cX10_in 9 = .ok (.lcmp, 1) := by decide +kernel
theorem dX10_in_10 : decode cX10_in 10 = .ok (.ifCond .gt 7, 3) := by decide +kernel
theorem dX10_in_13 : decode cX10_in 13 = .ok (.iconst 1, 1) := by decide +kernel
theorem dX10_in_14 : decode cX10_in 14 = .ok (.goto 4, 3) := by decide +kernel
theorem dX10_in_17 : decode cX10_in 17 = .ok (.iconst 0, 1) := by decide +kernel
theorem dX10_in_18 : decode cX10_in 18 = .ok (.ireturn, 1) := by decide +kernel
theorem dX10_facets_0 : decode cX10_facets 0 = .ok (.iconst 4, 1) := by decide +kernel
theorem dX10_facets_1 : decode cX10_facets 1 = .ok (.aload_n 0, 1) := by decide +kernel
theorem dX10_facets_2 : decode cX10_facets 2 = .ok (.getfield 7, 3) := by decide +kernel
theorem dX10_facets_5 : decode cX10_facets 5 = .ok (.imul, 1) := by decide +kernel
theorem dX10_facets_6 : decode cX10_facets 6 = .ok (.aload_n 0, 1) := by decide +kernel
theorem dX10_facets_7 : decode cX10_facets 7 = .ok (.getfield 7, 3) := by decide +kernel
theorem dX10_facets_10 : decode cX10_facets 10 = .ok (.imul, 1) := by decide +kernel
theorem dX10_facets_11 : decode cX10_facets 11 = .ok (.ireturn, 1) := by decide +kernel
theorem dX10_noFacet_0 : decode cX10_noFacet 0 = .ok (.iload_n 1, 1) := by decide +kernel
theorem dX10_noFacet_1 : decode cX10_noFacet 1 = .ok (.i2l, 1) := by decide +kernel
theorem dX10_noFacet_2 : decode cX10_noFacet 2 = .ok (.lconst 0, 1) := by decide +kernel
theorem dX10_noFacet_3 : decode cX10_noFacet 3 = .ok (.aload_n 0, 1) := by decide +kernel
theorem dX10_noFacet_4 : decode cX10_noFacet 4 = .ok (.invokevirtual 97, 3) := by decide +kernel
theorem dX10_noFacet_7 : decode cX10_noFacet 7 = .ok (.iconst 1, 1) := by decide +kernel
theorem dX10_noFacet_8 : decode cX10_noFacet 8 = .ok (.isub, 1) := by decide +kernel
theorem dX10_noFacet_9 : decode cX10_noFacet 9 = .ok (.i2l, 1) := by decide +kernel
theorem dX10_noFacet_10 : decode cX10_noFacet 10 = .ok (.invokestatic 101, 3) := by decide +kernel
theorem dX10_noFacet_13 : decode cX10_noFacet 13 = .ok (.ifCond .ne 7, 3) := by decide +kernel
theorem dX10_noFacet_16 : decode cX10_noFacet 16 = .ok (.iconst 1, 1) := by decide +kernel
theorem dX10_noFacet_17 : decode cX10_noFacet 17 = .ok (.goto 4, 3) := by decide +kernel
theorem dX10_noFacet_20 : decode cX10_noFacet 20 = .ok (.iconst 0, 1) := by decide +kernel
theorem dX10_noFacet_21 : decode cX10_noFacet 21 = .ok (.ireturn, 1) := by decide +kernel
theorem dX10_noLine_0 : decode cX10_noLine 0 = .ok (.iload_n 0, 1) := by decide +kernel
theorem dX10_noLine_1 : decode cX10_noLine 1 = .ok (.i2l, 1) := by decide +kernel
theorem dX10_noLine_2 : decode cX10_noLine 2 = .ok (.lconst 0, 1) := by decide +kernel
theorem dX10_noLine_3 : decode cX10_noLine 3 = .ok (.ldc2_w 105, 3) := by decide +kernel
theorem dX10_noLine_6 : decode cX10_noLine 6 = .ok (.invokestatic 101, 3) := by decide +kernel
theorem dX10_noLine_9 : decode cX10_noLine 9 = .ok (.ifCond .eq 17, 3) := by decide +kernel
theorem dX10_noLine_12 : decode cX10_noLine 12 = .ok (.iload_n 1, 1) := by decide +kernel
theorem dX10_noLine_13 : decode cX10_noLine 13 = .ok (.i2l, 1) := by decide +kernel
theorem dX10_noLine_14 : decode cX10_noLine 14 = .ok (.ldc2_w 107, 3) := by decide +kernel
theorem dX10_noLine_17 : decode cX10_noLine 17 = .ok (.ldc2_w 109, 3) := by decide +kernel
theorem dX10_noLine_20 : decode cX10_noLine 20 = .ok (.invokestatic 101, 3) := by decide +kernel
theorem dX10_noLine_23 : decode cX10_noLine 23 = .ok (.ifCond .ne 7, 3) := by decide +kernel
theorem dX10_noLine_26 : decode cX10_noLine 26 = .ok (.iconst 1, 1) := by decide +kernel
theorem dX10_noLine_27 : decode cX10_noLine 27 = .ok (.goto 4, 3) := by decide +kernel
theorem dX10_noLine_30 : decode cX10_noLine 30 = .ok (.iconst 0, 1) := by decide +kernel
theorem dX10_noLine_31 : decode cX10_noLine 31 = .ok (.ireturn, 1) := by decide +kernel
theorem dX10_begin_0 : decode cX10_begin 0 = .ok (.aload_n 0, 1) := by decide +kernel
theorem dX10_begin_1 : decode cX10_begin 1 = .ok (.iload_n 1, 1) := by decide +kernel
theorem dX10_begin_2 : decode cX10_begin 2 = .ok (.putfield 7, 3) := by decide +kernel
theorem dX10_begin_5 : decode cX10_begin 5 = .ok (.iconst 0, 1) := by decide +kernel
theorem dX10_begin_6 : decode cX10_begin 6 = .ok (.istore_n 2, 1) := by decide +kernel
theorem dX10_begin_7 : decode cX10_begin 7 = .ok (.iload_n 2, 1) := by decide +kernel
theorem dX10_begin_8 : decode cX10_begin 8 = .ok (.aload_n 0, 1) := by decide +kernel
theorem dX10_begin_9 : decode cX10_begin 9 = .ok (.invokevirtual 97, 3) := by decide +kernel
theorem dX10_begin_12 : decode cX10_begin 12 = .ok (.if_icmp .ge 98, 3) := by decide +kernel
theorem dX10_begin_15 : decode cX10_begin 15 = .ok (.aload_n 0, 1) := by decide +kernel
theorem dX10_begin_16 : decode cX10_begin 16 = .ok (.getfield 13, 3) := by decide +kernel
theorem dX10_begin_19 : decode cX10_begin 19 = .ok (.iload_n 2, 1) := by decide +kernel
theorem dX10_begin_20 : decode cX10_begin 20 = .ok (.iload_n 2, 1) := by decide +kernel
theorem dX10_begin_21 : decode cX10_begin 21 = .ok (.iconst 4, 1) := by decide +kernel
theorem dX10_begin_22 : decode cX10_begin 22 = .ok (.idiv, 1) := by decide +kernel
theorem dX10_begin_23 : decode cX10_begin 23 = .ok (.aload_n 0, 1) := by decide +kernel
theorem dX10_begin_24 : decode cX10_begin 24 = .ok (.getfield 7, 3) := by decide +kernel
theorem dX10_begin_27 : decode cX10_begin 27 = .ok (.irem, 1) := by decide +kernel
theorem dX10_begin_28 : decode cX10_begin 28 = .ok (.iastore, 1) := by decide +kernel
theorem dX10_begin_29 : decode cX10_begin 29 = .ok (.aload_n 0, 1) := by decide +kernel
theorem dX10_begin_30 : decode cX10_begin 30 = .ok (.getfield 17, 3) := by decide +kernel
theorem dX10_begin_33 : decode cX10_begin 33 = .ok (.iload_n 2, 1) := by decide +kernel
theorem dX10_begin_34 : decode cX10_begin 34 = .ok (.iload_n 2, 1) := by decide +kernel
theorem dX10_begin_35 : decode cX10_begin 35 = .ok (.iconst 4, 1) := by decide +kernel
theorem dX10_begin_36 : decode cX10_begin 36 = .ok (.idiv, 1) := by decide +kernel
theorem dX10_begin_37 : decode cX10_begin 37 = .ok (.aload_n 0, 1) := by decide +kernel
theorem dX10_begin_38 : decode cX10_begin 38 = .ok (.getfield 7, 3) := by decide +kernel
theorem dX10_begin_41 : decode cX10_begin 41 = .ok (.idiv, 1) := by decide +kernel
theorem dX10_begin_42 : decode cX10_begin 42 = .ok (.iastore, 1) := by decide +kernel
theorem dX10_begin_43 : decode cX10_begin 43 = .ok (.aload_n 0, 1) := by decide +kernel
theorem dX10_begin_44 : decode cX10_begin 44 = .ok (.getfield 20, 3) := by decide +kernel
theorem dX10_begin_47 : decode cX10_begin 47 = .ok (.iload_n 2, 1) := by decide +kernel
theorem dX10_begin_48 : decode cX10_begin 48 = .ok (.iload_n 2, 1) := by decide +kernel
theorem dX10_begin_49 : decode cX10_begin 49 = .ok (.iconst 4, 1) := by decide +kernel
theorem dX10_begin_50 : decode cX10_begin 50 = .ok (.irem, 1) := by decide +kernel
theorem dX10_begin_51 : decode cX10_begin 51 = .ok (.iastore, 1) := by decide +kernel
theorem dX10_begin_52 : decode cX10_begin 52 = .ok (.aload_n 0, 1) := by decide +kernel
theorem dX10_begin_53 : decode cX10_begin 53 = .ok (.getfield 23, 3) := by decide +kernel
theorem dX10_begin_56 : decode cX10_begin 56 = .ok (.iload_n 2, 1) := by decide +kernel
theorem dX10_begin_57 : decode cX10_begin 57 = .ok (.iconst 0, 1) := by decide +kernel
theorem dX10_begin_58 : decode cX10_begin 58 = .ok (.iastore, 1) := by decide +kernel
theorem dX10_begin_59 : decode cX10_begin 59 = .ok (.aload_n 0, 1) := by decide +kernel
theorem dX10_begin_60 : decode cX10_begin 60 = .ok (.getfield 26, 3) := by decide +kernel
theorem dX10_begin_63 : decode cX10_begin 63 = .ok (.iload_n 2, 1) := by decide +kernel
theorem dX10_begin_64 : decode cX10_begin 64 = .ok (.iconst 1, 1) := by decide +kernel
theorem dX10_begin_65 : decode cX10_begin 65 = .ok (.bastore, 1) := by decide +kernel
theorem dX10_begin_66 : decode cX10_begin 66 = .ok (.aload_n 0, 1) := by decide +kernel
theorem dX10_begin_67 : decode cX10_begin 67 = .ok (.getfield 57, 3) := by decide +kernel
theorem dX10_begin_70 : decode cX10_begin 70 = .ok (.iload_n 2, 1) := by decide +kernel
theorem dX10_begin_71 : decode cX10_begin 71 = .ok (.iconst 0, 1) := by decide +kernel
theorem dX10_begin_72 : decode cX10_begin 72 = .ok (.bastore, 1) := by decide +kernel
theorem dX10_begin_73 : decode cX10_begin 73 = .ok (.aload_n 0, 1) := by decide +kernel
theorem dX10_begin_74 : decode cX10_begin 74 = .ok (.getfield 60, 3) := by decide +kernel
theorem dX10_begin_77 : decode cX10_begin 77 = .ok (.iload_n 2, 1) := by decide +kernel
theorem dX10_begin_78 : decode cX10_begin 78 = .ok (.iconst 0, 1) := by decide +kernel
theorem dX10_begin_79 : decode cX10_begin 79 = .ok (.bastore, 1) := by decide +kernel
theorem dX10_begin_80 : decode cX10_begin 80 = .ok (.iconst 0, 1) := by decide +kernel
theorem dX10_begin_81 : decode cX10_begin 81 = .ok (.istore_n 3, 1) := by decide +kernel
theorem dX10_begin_82 : decode cX10_begin 82 = .ok (.iload_n 3, 1) := by decide +kernel
theorem dX10_begin_83 : decode cX10_begin 83 = .ok (.iconst 3, 1) := by decide +kernel
theorem dX10_begin_84 : decode cX10_begin 84 = .ok (.if_icmp .ge 20, 3) := by decide +kernel
theorem dX10_begin_87 : decode cX10_begin 87 = .ok (.aload_n 0, 1) := by decide +kernel
theorem dX10_begin_88 : decode cX10_begin 88 = .ok (.getfield 30, 3) := by decide +kernel
theorem dX10_begin_91 : decode cX10_begin 91 = .ok (.iconst 3, 1) := by decide +kernel
theorem dX10_begin_92 : decode cX10_begin 92 = .ok (.iload_n 2, 1) := by decide +kernel
theorem dX10_begin_93 : decode cX10_begin 93 = .ok (.imul, 1) := by decide +kernel
theorem dX10_begin_94 : decode cX10_begin 94 = .ok (.iload_n 3, 1) := by decide +kernel
theorem dX10_begin_95 : decode cX10_begin 95 = .ok (.iadd, 1) := by decide +kernel
theorem dX10_begin_96 : decode cX10_begin 96 = .ok (.iconst 0, 1) := by decide +kernel
theorem dX10_begin_97 : decode cX10_begin 97 = .ok (.iastore, 1) := by decide +kernel
theorem dX10_begin_98 : decode cX10_begin 98 = .ok (.iinc 3 1, 3) := by decide +kernel
theorem dX10_begin_101 : decode cX10_begin 101 = .ok (.goto (-19), 3) := by decide +kernel
theorem dX10_begin_104 : decode cX10_begin 104 = .ok (.iinc 2 1, 3) := by decide +kernel
theorem dX10_begin_107 : decode cX10_begin 107 = .ok (.goto (-100), 3) := by decide +kernel
theorem dX10_begin_110 : decode cX10_begin 110 = .ok (.aload_n 0, 1) := by decide +kernel
theorem dX10_begin_111 : decode cX10_begin 111 = .ok (.iconst 0, 1) := by decide +kernel
theorem dX10_begin_112 : decode cX10_begin 112 = .ok (.putfield 111, 3) := by decide +kernel
theorem dX10_begin_115 : decode cX10_begin 115 = .ok (.aload_n 0, 1) := by decide +kernel
theorem dX10_begin_116 : decode cX10_begin 116 = .ok (.iconst 0, 1) := by decide +kernel
theorem dX10_begin_117 : decode cX10_begin 117 = .ok (.putfield 114, 3) := by decide +kernel
theorem dX10_begin_120 : decode cX10_begin 120 = .ok (.return_, 1) := by decide +kernel
theorem dX10_along_0 : decode cX10_along 0 = .ok (.iload_n 3, 1) := by decide +kernel
theorem dX10_along_1 : decode cX10_along 1 = .ok (.iconst 1, 1) := by decide +kernel
theorem dX10_along_2 : decode cX10_along 2 = .ok (.if_icmp .ne 7, 3) := by decide +kernel
theorem dX10_along_5 : decode cX10_along 5 = .ok (.iconst 2, 1) := by decide +kernel
theorem dX10_along_6 : decode cX10_along 6 = .ok (.goto 14, 3) := by decide +kernel
theorem dX10_along_9 : decode cX10_along 9 = .ok (.iload_n 3, 1) := by decide +kernel
theorem dX10_along_10 : decode cX10_along 10 = .ok (.iconst 3, 1) := by decide +kernel
theorem dX10_along_11 : decode cX10_along 11 = .ok (.if_icmp .ne 8, 3) := by decide +kernel
theorem dX10_along_14 : decode cX10_along 14 = .ok (.bipush (-2), 2) := by decide +kernel
theorem dX10_along_16 : decode cX10_along 16 = .ok (.goto 4, 3) := by decide +kernel
theorem dX10_along_19 : decode cX10_along 19 = .ok (.iconst 0, 1) := by decide +kernel
theorem dX10_along_20 : decode cX10_along 20 = .ok (.istore 4, 2) := by decide +kernel
theorem dX10_along_22 : decode cX10_along 22 = .ok (.iload_n 3, 1) := by decide +kernel
theorem dX10_along_23 : decode cX10_along 23 = .ok (.ifCond .ne 8, 3) := by decide +kernel
theorem dX10_along_26 : decode cX10_along 26 = .ok (.bipush (-2), 2) := by decide +kernel
theorem dX10_along_28 : decode cX10_along 28 = .ok (.goto 13, 3) := by decide +kernel
theorem dX10_along_31 : decode cX10_along 31 = .ok (.iload_n 3, 1) := by decide +kernel
theorem dX10_along_32 : decode cX10_along 32 = .ok (.iconst 2, 1) := by decide +kernel
theorem dX10_along_33 : decode cX10_along 33 = .ok (.if_icmp .ne 7, 3) := by decide +kernel
theorem dX10_along_36 : decode cX10_along 36 = .ok (.iconst 2, 1) := by decide +kernel
theorem dX10_along_37 : decode cX10_along 37 = .ok (.goto 4, 3) := by decide +kernel
theorem dX10_along_40 : decode cX10_along 40 = .ok (.iconst 0, 1) := by decide +kernel
theorem dX10_along_41 : decode cX10_along 41 = .ok (.istore 5, 2) := by decide +kernel
theorem dX10_along_43 : decode cX10_along 43 = .ok (.bipush 6, 2) := by decide +kernel
theorem dX10_along_45 : decode cX10_along 45 = .ok (.iload_n 1, 1) := by decide +kernel
theorem dX10_along_46 : decode cX10_along 46 = .ok (.imul, 1) := by decide +kernel
theorem dX10_along_47 : decode cX10_along 47 = .ok (.iconst 3, 1) := by decide +kernel
theorem dX10_along_48 : decode cX10_along 48 = .ok (.iadd, 1) := by decide +kernel
theorem dX10_along_49 : decode cX10_along 49 = .ok (.iload 4, 2) := by decide +kernel
theorem dX10_along_51 : decode cX10_along 51 = .ok (.iadd, 1) := by decide +kernel
theorem dX10_along_52 : decode cX10_along 52 = .ok (.istore 6, 2) := by decide +kernel
theorem dX10_along_54 : decode cX10_along 54 = .ok (.bipush 6, 2) := by decide +kernel
theorem dX10_along_56 : decode cX10_along 56 = .ok (.iload_n 2, 1) := by decide +kernel
theorem dX10_along_57 : decode cX10_along 57 = .ok (.imul, 1) := by decide +kernel
theorem dX10_along_58 : decode cX10_along 58 = .ok (.iconst 3, 1) := by decide +kernel
theorem dX10_along_59 : decode cX10_along 59 = .ok (.iadd, 1) := by decide +kernel
theorem dX10_along_60 : decode cX10_along 60 = .ok (.iload 5, 2) := by decide +kernel
theorem dX10_along_62 : decode cX10_along 62 = .ok (.iadd, 1) := by decide +kernel
theorem dX10_along_63 : decode cX10_along 63 = .ok (.istore 7, 2) := by decide +kernel
theorem dX10_along_65 : decode cX10_along 65 = .ok (.iload_n 0, 1) := by decide +kernel
theorem dX10_along_66 : decode cX10_along 66 = .ok (.ifCond .ne 8, 3) := by decide +kernel
theorem dX10_along_69 : decode cX10_along 69 = .ok (.iload 6, 2) := by decide +kernel
theorem dX10_along_71 : decode cX10_along 71 = .ok (.goto 31, 3) := by decide +kernel
theorem dX10_along_74 : decode cX10_along 74 = .ok (.iload_n 0, 1) := by decide +kernel
theorem dX10_along_75 : decode cX10_along 75 = .ok (.iconst 1, 1) := by decide +kernel
theorem dX10_along_76 : decode cX10_along 76 = .ok (.if_icmp .ne 8, 3) := by decide +kernel
theorem dX10_along_79 : decode cX10_along 79 = .ok (.iload 7, 2) := by decide +kernel
theorem dX10_along_81 : decode cX10_along 81 = .ok (.goto 21, 3) := by decide +kernel
theorem dX10_along_84 : decode cX10_along 84 = .ok (.iload_n 0, 1) := by decide +kernel
theorem dX10_along_85 : decode cX10_along 85 = .ok (.iconst 2, 1) := by decide +kernel
theorem dX10_along_86 : decode cX10_along 86 = .ok (.if_icmp .ne 11, 3) := by decide +kernel
theorem dX10_along_89 : decode cX10_along 89 = .ok (.iload 6, 2) := by decide +kernel
theorem dX10_along_91 : decode cX10_along 91 = .ok (.iload 7, 2) := by decide +kernel
theorem dX10_along_93 : decode cX10_along 93 = .ok (.isub, 1) := by decide +kernel
theorem dX10_along_94 : decode cX10_along 94 = .ok (.goto 8, 3) := by decide +kernel
theorem dX10_along_97 : decode cX10_along 97 = .ok (.iload 6, 2) := by decide +kernel
theorem dX10_along_99 : decode cX10_along 99 = .ok (.iload 7, 2) := by decide +kernel
theorem dX10_along_101 : decode cX10_along 101 = .ok (.iadd, 1) := by decide +kernel
theorem dX10_along_102 : decode cX10_along 102 = .ok (.ireturn, 1) := by decide +kernel
theorem dX10_sideOf_0 : decode cX10_sideOf 0 = .ok (.iload_n 0, 1) := by decide +kernel
theorem dX10_sideOf_1 : decode cX10_sideOf 1 = .ok (.iload_n 2, 1) := by decide +kernel
theorem dX10_sideOf_2 : decode cX10_sideOf 2 = .ok (.iload_n 3, 1) := by decide +kernel
theorem dX10_sideOf_3 : decode cX10_sideOf 3 = .ok (.iload 4, 2) := by decide +kernel
theorem dX10_sideOf_5 : decode cX10_sideOf 5 = .ok (.invokestatic 118, 3) := by decide +kernel
theorem dX10_sideOf_8 : decode cX10_sideOf 8 = .ok (.bipush 6, 2) := by decide +kernel
theorem dX10_sideOf_10 : decode cX10_sideOf 10 = .ok (.iload_n 1, 1) := by decide +kernel
theorem dX10_sideOf_11 : decode cX10_sideOf 11 = .ok (.imul, 1) := by decide +kernel
theorem dX10_sideOf_12 : decode cX10_sideOf 12 = .ok (.if_icmp .le 7, 3) := by decide +kernel
theorem dX10_sideOf_15 : decode cX10_sideOf 15 = .ok (.iconst 1, 1) := by decide +kernel
theorem dX10_sideOf_16 : decode cX10_sideOf 16 = .ok (.goto 4, 3) := by decide +kernel
theorem dX10_sideOf_19 : decode cX10_sideOf 19 = .ok (.iconst 0, 1) := by decide +kernel
theorem dX10_sideOf_20 : decode cX10_sideOf 20 = .ok (.ireturn, 1) := by decide +kernel
theorem dX10_turn_0 : decode cX10_turn 0 = .ok (.iload_n 1, 1) := by decide +kernel
theorem dX10_turn_1 : decode cX10_turn 1 = .ok (.ifCond .ne 49, 3) := by decide +kernel
theorem dX10_turn_4 : decode cX10_turn 4 = .ok (.aload_n 0, 1) := by decide +kernel
theorem dX10_turn_5 : decode cX10_turn 5 = .ok (.iconst 2, 1) := by decide +kernel
theorem dX10_turn_6 : decode cX10_turn 6 = .ok (.iload_n 2, 1) := by decide +kernel
theorem dX10_turn_7 : decode cX10_turn 7 = .ok (.imul, 1) := by decide +kernel
theorem dX10_turn_8 : decode cX10_turn 8 = .ok (.iconst 1, 1) := by decide +kernel
theorem dX10_turn_9 : decode cX10_turn 9 = .ok (.isub, 1) := by decide +kernel
theorem dX10_turn_10 : decode cX10_turn 10 = .ok (.iload_n 3, 1) := by decide +kernel
theorem dX10_turn_11 : decode cX10_turn 11 = .ok (.isub, 1) := by decide +kernel
theorem dX10_turn_12 : decode cX10_turn 12 = .ok (.putfield 122, 3) := by decide +kernel
theorem dX10_turn_15 : decode cX10_turn 15 = .ok (.aload_n 0, 1) := by decide +kernel
theorem dX10_turn_16 : decode cX10_turn 16 = .ok (.iload 4, 2) := by decide +kernel
theorem dX10_turn_18 : decode cX10_turn 18 = .ok (.putfield 125, 3) := by decide +kernel
theorem dX10_turn_21 : decode cX10_turn 21 = .ok (.aload_n 0, 1) := by decide +kernel
theorem dX10_turn_22 : decode cX10_turn 22 = .ok (.iload 5, 2) := by decide +kernel
theorem dX10_turn_24 : decode cX10_turn 24 = .ok (.iconst 1, 1) := by decide +kernel
theorem dX10_turn_25 : decode cX10_turn 25 = .ok (.if_icmp .ne 7, 3) := by decide +kernel
theorem dX10_turn_28 : decode cX10_turn 28 = .ok (.iconst 3, 1) := by decide +kernel
theorem dX10_turn_29 : decode cX10_turn 29 = .ok (.goto 15, 3) := by decide +kernel
end
section
theorem dX10_turn_32 : decode cX10_turn 32 = .ok (.iload 5, 2) := by decide +kernel
theorem dX10_turn_34 : decode cX10_turn 34 = .ok (.iconst 3, 1) := by decide +kernel
theorem dX10_turn_35 : decode cX10_turn 35 = .ok (.if_icmp .ne 7, 3) := by decide +kernel
theorem dX10_turn_38 : decode cX10_turn 38 = .ok (.iconst 1, 1) := by decide +kernel
theorem dX10_turn_39 : decode cX10_turn 39 = .ok (.goto 5, 3) := by decide +kernel
theorem dX10_turn_42 : decode cX10_turn 42 = .ok (.iload 5, 2) := by decide +kernel
theorem dX10_turn_44 : decode cX10_turn 44 = .ok (.putfield 128, 3) := by decide +kernel
theorem dX10_turn_47 : decode cX10_turn 47 = .ok (.goto 137, 3) := by decide +kernel
theorem dX10_turn_50 : decode cX10_turn 50 = .ok (.iload_n 1, 1) := by decide +kernel
theorem dX10_turn_51 : decode cX10_turn 51 = .ok (.iconst 1, 1) := by decide +kernel
theorem dX10_turn_52 : decode cX10_turn 52 = .ok (.if_icmp .ne 48, 3) := by decide +kernel
theorem dX10_turn_55 : decode cX10_turn 55 = .ok (.aload_n 0, 1) := by decide +kernel
theorem dX10_turn_56 : decode cX10_turn 56 = .ok (.iload_n 3, 1) := by decide +kernel
theorem dX10_turn_57 : decode cX10_turn 57 = .ok (.putfield 122, 3) := by decide +kernel
theorem dX10_turn_60 : decode cX10_turn 60 = .ok (.aload_n 0, 1) := by decide +kernel
theorem dX10_turn_61 : decode cX10_turn 61 = .ok (.iconst 2, 1) := by decide +kernel
theorem dX10_turn_62 : decode cX10_turn 62 = .ok (.iload_n 2, 1) := by decide +kernel
theorem dX10_turn_63 : decode cX10_turn 63 = .ok (.imul, 1) := by decide +kernel
theorem dX10_turn_64 : decode cX10_turn 64 = .ok (.iconst 1, 1) := by decide +kernel
theorem dX10_turn_65 : decode cX10_turn 65 = .ok (.isub, 1) := by decide +kernel
theorem dX10_turn_66 : decode cX10_turn 66 = .ok (.iload 4, 2) := by decide +kernel
theorem dX10_turn_68 : decode cX10_turn 68 = .ok (.isub, 1) := by decide +kernel
theorem dX10_turn_69 : decode cX10_turn 69 = .ok (.putfield 125, 3) := by decide +kernel
theorem dX10_turn_72 : decode cX10_turn 72 = .ok (.aload_n 0, 1) := by decide +kernel
theorem dX10_turn_73 : decode cX10_turn 73 = .ok (.iload 5, 2) := by decide +kernel
theorem dX10_turn_75 : decode cX10_turn 75 = .ok (.ifCond .ne 7, 3) := by decide +kernel
theorem dX10_turn_78 : decode cX10_turn 78 = .ok (.iconst 2, 1) := by decide +kernel
theorem dX10_turn_79 : decode cX10_turn 79 = .ok (.goto 15, 3) := by decide +kernel
theorem dX10_turn_82 : decode cX10_turn 82 = .ok (.iload 5, 2) := by decide +kernel
theorem dX10_turn_84 : decode cX10_turn 84 = .ok (.iconst 2, 1) := by decide +kernel
theorem dX10_turn_85 : decode cX10_turn 85 = .ok (.if_icmp .ne 7, 3) := by decide +kernel
theorem dX10_turn_88 : decode cX10_turn 88 = .ok (.iconst 0, 1) := by decide +kernel
theorem dX10_turn_89 : decode cX10_turn 89 = .ok (.goto 5, 3) := by decide +kernel
theorem dX10_turn_92 : decode cX10_turn 92 = .ok (.iload 5, 2) := by decide +kernel
theorem dX10_turn_94 : decode cX10_turn 94 = .ok (.putfield 128, 3) := by decide +kernel
theorem dX10_turn_97 : decode cX10_turn 97 = .ok (.goto 87, 3) := by decide +kernel
theorem dX10_turn_100 : decode cX10_turn 100 = .ok (.iload_n 1, 1) := by decide +kernel
theorem dX10_turn_101 : decode cX10_turn 101 = .ok (.iconst 2, 1) := by decide +kernel
theorem dX10_turn_102 : decode cX10_turn 102 = .ok (.if_icmp .ne 29, 3) := by decide +kernel
theorem dX10_turn_105 : decode cX10_turn 105 = .ok (.aload_n 0, 1) := by decide +kernel
theorem dX10_turn_106 : decode cX10_turn 106 = .ok (.iload 4, 2) := by decide +kernel
theorem dX10_turn_108 : decode cX10_turn 108 = .ok (.iload_n 2, 1) := by decide +kernel
theorem dX10_turn_109 : decode cX10_turn 109 = .ok (.iadd, 1) := by decide +kernel
theorem dX10_turn_110 : decode cX10_turn 110 = .ok (.putfield 122, 3) := by decide +kernel
theorem dX10_turn_113 : decode cX10_turn 113 = .ok (.aload_n 0, 1) := by decide +kernel
theorem dX10_turn_114 : decode cX10_turn 114 = .ok (.iload_n 3, 1) := by decide +kernel
theorem dX10_turn_115 : decode cX10_turn 115 = .ok (.iload_n 2, 1) := by decide +kernel
theorem dX10_turn_116 : decode cX10_turn 116 = .ok (.isub, 1) := by decide +kernel
theorem dX10_turn_117 : decode cX10_turn 117 = .ok (.putfield 125, 3) := by decide +kernel
theorem dX10_turn_120 : decode cX10_turn 120 = .ok (.aload_n 0, 1) := by decide +kernel
theorem dX10_turn_121 : decode cX10_turn 121 = .ok (.iconst 3, 1) := by decide +kernel
theorem dX10_turn_122 : decode cX10_turn 122 = .ok (.iload 5, 2) := by decide +kernel
theorem dX10_turn_124 : decode cX10_turn 124 = .ok (.isub, 1) := by decide +kernel
theorem dX10_turn_125 : decode cX10_turn 125 = .ok (.putfield 128, 3) := by decide +kernel
theorem dX10_turn_128 : decode cX10_turn 128 = .ok (.goto 56, 3) := by decide +kernel
theorem dX10_turn_131 : decode cX10_turn 131 = .ok (.aload_n 0, 1) := by decide +kernel
theorem dX10_turn_132 : decode cX10_turn 132 = .ok (.iload_n 2, 1) := by decide +kernel
theorem dX10_turn_133 : decode cX10_turn 133 = .ok (.iconst 1, 1) := by decide +kernel
theorem dX10_turn_134 : decode cX10_turn 134 = .ok (.isub, 1) := by decide +kernel
theorem dX10_turn_135 : decode cX10_turn 135 = .ok (.iload 4, 2) := by decide +kernel
theorem dX10_turn_137 : decode cX10_turn 137 = .ok (.isub, 1) := by decide +kernel
theorem dX10_turn_138 : decode cX10_turn 138 = .ok (.putfield 122, 3) := by decide +kernel
theorem dX10_turn_141 : decode cX10_turn 141 = .ok (.aload_n 0, 1) := by decide +kernel
theorem dX10_turn_142 : decode cX10_turn 142 = .ok (.iload_n 2, 1) := by decide +kernel
theorem dX10_turn_143 : decode cX10_turn 143 = .ok (.iconst 1, 1) := by decide +kernel
theorem dX10_turn_144 : decode cX10_turn 144 = .ok (.isub, 1) := by decide +kernel
theorem dX10_turn_145 : decode cX10_turn 145 = .ok (.iload_n 3, 1) := by decide +kernel
theorem dX10_turn_146 : decode cX10_turn 146 = .ok (.isub, 1) := by decide +kernel
theorem dX10_turn_147 : decode cX10_turn 147 = .ok (.putfield 125, 3) := by decide +kernel
theorem dX10_turn_150 : decode cX10_turn 150 = .ok (.aload_n 0, 1) := by decide +kernel
theorem dX10_turn_151 : decode cX10_turn 151 = .ok (.iload 5, 2) := by decide +kernel
theorem dX10_turn_153 : decode cX10_turn 153 = .ok (.ifCond .ne 7, 3) := by decide +kernel
theorem dX10_turn_156 : decode cX10_turn 156 = .ok (.iconst 1, 1) := by decide +kernel
theorem dX10_turn_157 : decode cX10_turn 157 = .ok (.goto 24, 3) := by decide +kernel
theorem dX10_turn_160 : decode cX10_turn 160 = .ok (.iload 5, 2) := by decide +kernel
theorem dX10_turn_162 : decode cX10_turn 162 = .ok (.iconst 1, 1) := by decide +kernel
theorem dX10_turn_163 : decode cX10_turn 163 = .ok (.if_icmp .ne 7, 3) := by decide +kernel
theorem dX10_turn_166 : decode cX10_turn 166 = .ok (.iconst 0, 1) := by decide +kernel
theorem dX10_turn_167 : decode cX10_turn 167 = .ok (.goto 14, 3) := by decide +kernel
theorem dX10_turn_170 : decode cX10_turn 170 = .ok (.iload 5, 2) := by decide +kernel
theorem dX10_turn_172 : decode cX10_turn 172 = .ok (.iconst 2, 1) := by decide +kernel
theorem dX10_turn_173 : decode cX10_turn 173 = .ok (.if_icmp .ne 7, 3) := by decide +kernel
theorem dX10_turn_176 : decode cX10_turn 176 = .ok (.iconst 3, 1) := by decide +kernel
theorem dX10_turn_177 : decode cX10_turn 177 = .ok (.goto 4, 3) := by decide +kernel
theorem dX10_turn_180 : decode cX10_turn 180 = .ok (.iconst 2, 1) := by decide +kernel
theorem dX10_turn_181 : decode cX10_turn 181 = .ok (.putfield 128, 3) := by decide +kernel
theorem dX10_turn_184 : decode cX10_turn 184 = .ok (.return_, 1) := by decide +kernel
theorem dX10_isThere_0 : decode cX10_isThere 0 = .ok (.aload_n 0, 1) := by decide +kernel
theorem dX10_isThere_1 : decode cX10_isThere 1 = .ok (.getfield 13, 3) := by decide +kernel
theorem dX10_isThere_4 : decode cX10_isThere 4 = .ok (.iload_n 1, 1) := by decide +kernel
theorem dX10_isThere_5 : decode cX10_isThere 5 = .ok (.iaload, 1) := by decide +kernel
theorem dX10_isThere_6 : decode cX10_isThere 6 = .ok (.iload_n 2, 1) := by decide +kernel
theorem dX10_isThere_7 : decode cX10_isThere 7 = .ok (.if_icmp .ne 28, 3) := by decide +kernel
theorem dX10_isThere_10 : decode cX10_isThere 10 = .ok (.aload_n 0, 1) := by decide +kernel
theorem dX10_isThere_11 : decode cX10_isThere 11 = .ok (.getfield 17, 3) := by decide +kernel
theorem dX10_isThere_14 : decode cX10_isThere 14 = .ok (.iload_n 1, 1) := by decide +kernel
theorem dX10_isThere_15 : decode cX10_isThere 15 = .ok (.iaload, 1) := by decide +kernel
theorem dX10_isThere_16 : decode cX10_isThere 16 = .ok (.iload_n 3, 1) := by decide +kernel
theorem dX10_isThere_17 : decode cX10_isThere 17 = .ok (.if_icmp .ne 18, 3) := by decide +kernel
theorem dX10_isThere_20 : decode cX10_isThere 20 = .ok (.aload_n 0, 1) := by decide +kernel
theorem dX10_isThere_21 : decode cX10_isThere 21 = .ok (.getfield 20, 3) := by decide +kernel
theorem dX10_isThere_24 : decode cX10_isThere 24 = .ok (.iload_n 1, 1) := by decide +kernel
theorem dX10_isThere_25 : decode cX10_isThere 25 = .ok (.iaload, 1) := by decide +kernel
theorem dX10_isThere_26 : decode cX10_isThere 26 = .ok (.iload 4, 2) := by decide +kernel
theorem dX10_isThere_28 : decode cX10_isThere 28 = .ok (.if_icmp .ne 7, 3) := by decide +kernel
theorem dX10_isThere_31 : decode cX10_isThere 31 = .ok (.iconst 1, 1) := by decide +kernel
theorem dX10_isThere_32 : decode cX10_isThere 32 = .ok (.goto 4, 3) := by decide +kernel
theorem dX10_isThere_35 : decode cX10_isThere 35 = .ok (.iconst 0, 1) := by decide +kernel
theorem dX10_isThere_36 : decode cX10_isThere 36 = .ok (.ireturn, 1) := by decide +kernel
theorem dX10_deepOf_0 : decode cX10_deepOf 0 = .ok (.iconst 0, 1) := by decide +kernel
theorem dX10_deepOf_1 : decode cX10_deepOf 1 = .ok (.istore 4, 2) := by decide +kernel
theorem dX10_deepOf_3 : decode cX10_deepOf 3 = .ok (.iconst 0, 1) := by decide +kernel
theorem dX10_deepOf_4 : decode cX10_deepOf 4 = .ok (.istore 5, 2) := by decide +kernel
theorem dX10_deepOf_6 : decode cX10_deepOf 6 = .ok (.iload 5, 2) := by decide +kernel
theorem dX10_deepOf_8 : decode cX10_deepOf 8 = .ok (.aload_n 0, 1) := by decide +kernel
theorem dX10_deepOf_9 : decode cX10_deepOf 9 = .ok (.invokevirtual 97, 3) := by decide +kernel
theorem dX10_deepOf_12 : decode cX10_deepOf 12 = .ok (.if_icmp .ge 31, 3) := by decide +kernel
theorem dX10_deepOf_15 : decode cX10_deepOf 15 = .ok (.iload 4, 2) := by decide +kernel
theorem dX10_deepOf_17 : decode cX10_deepOf 17 = .ok (.aload_n 0, 1) := by decide +kernel
theorem dX10_deepOf_18 : decode cX10_deepOf 18 = .ok (.iload 5, 2) := by decide +kernel
theorem dX10_deepOf_20 : decode cX10_deepOf 20 = .ok (.iload_n 1, 1) := by decide +kernel
theorem dX10_deepOf_21 : decode cX10_deepOf 21 = .ok (.iload_n 2, 1) := by decide +kernel
theorem dX10_deepOf_22 : decode cX10_deepOf 22 = .ok (.iload_n 3, 1) := by decide +kernel
theorem dX10_deepOf_23 : decode cX10_deepOf 23 = .ok (.invokevirtual 131, 3) := by decide +kernel
theorem dX10_deepOf_26 : decode cX10_deepOf 26 = .ok (.ifCond .eq 7, 3) := by decide +kernel
theorem dX10_deepOf_29 : decode cX10_deepOf 29 = .ok (.iconst 1, 1) := by decide +kernel
theorem dX10_deepOf_30 : decode cX10_deepOf 30 = .ok (.goto 4, 3) := by decide +kernel
theorem dX10_deepOf_33 : decode cX10_deepOf 33 = .ok (.iconst 0, 1) := by decide +kernel
theorem dX10_deepOf_34 : decode cX10_deepOf 34 = .ok (.iadd, 1) := by decide +kernel
theorem dX10_deepOf_35 : decode cX10_deepOf 35 = .ok (.istore 4, 2) := by decide +kernel
theorem dX10_deepOf_37 : decode cX10_deepOf 37 = .ok (.iinc 5 1, 3) := by decide +kernel
theorem dX10_deepOf_40 : decode cX10_deepOf 40 = .ok (.goto (-34), 3) := by decide +kernel
theorem dX10_deepOf_43 : decode cX10_deepOf 43 = .ok (.iload 4, 2) := by decide +kernel
theorem dX10_deepOf_45 : decode cX10_deepOf 45 = .ok (.ireturn, 1) := by decide +kernel
theorem dX10_placesOf_0 : decode cX10_placesOf 0 = .ok (.iconst 0, 1) := by decide +kernel
theorem dX10_placesOf_1 : decode cX10_placesOf 1 = .ok (.istore_n 1, 1) := by decide +kernel
theorem dX10_placesOf_2 : decode cX10_placesOf 2 = .ok (.iconst 0, 1) := by decide +kernel
theorem dX10_placesOf_3 : decode cX10_placesOf 3 = .ok (.istore_n 2, 1) := by decide +kernel
theorem dX10_placesOf_4 : decode cX10_placesOf 4 = .ok (.iload_n 2, 1) := by decide +kernel
theorem dX10_placesOf_5 : decode cX10_placesOf 5 = .ok (.aload_n 0, 1) := by decide +kernel
theorem dX10_placesOf_6 : decode cX10_placesOf 6 = .ok (.invokevirtual 97, 3) := by decide +kernel
theorem dX10_placesOf_9 : decode cX10_placesOf 9 = .ok (.if_icmp .ge 26, 3) := by decide +kernel
theorem dX10_placesOf_12 : decode cX10_placesOf 12 = .ok (.iload_n 1, 1) := by decide +kernel
theorem dX10_placesOf_13 : decode cX10_placesOf 13 = .ok (.aload_n 0, 1) := by decide +kernel
theorem dX10_placesOf_14 : decode cX10_placesOf 14 = .ok (.getfield 23, 3) := by decide +kernel
theorem dX10_placesOf_17 : decode cX10_placesOf 17 = .ok (.iload_n 2, 1) := by decide +kernel
theorem dX10_placesOf_18 : decode cX10_placesOf 18 = .ok (.iaload, 1) := by decide +kernel
theorem dX10_placesOf_19 : decode cX10_placesOf 19 = .ok (.ifCond .ne 7, 3) := by decide +kernel
theorem dX10_placesOf_22 : decode cX10_placesOf 22 = .ok (.iconst 1, 1) := by decide +kernel
theorem dX10_placesOf_23 : decode cX10_placesOf 23 = .ok (.goto 4, 3) := by decide +kernel
theorem dX10_placesOf_26 : decode cX10_placesOf 26 = .ok (.iconst 0, 1) := by decide +kernel
theorem dX10_placesOf_27 : decode cX10_placesOf 27 = .ok (.iadd, 1) := by decide +kernel
theorem dX10_placesOf_28 : decode cX10_placesOf 28 = .ok (.istore_n 1, 1) := by decide +kernel
theorem dX10_placesOf_29 : decode cX10_placesOf 29 = .ok (.iinc 2 1, 3) := by decide +kernel
theorem dX10_placesOf_32 : decode cX10_placesOf 32 = .ok (.goto (-28), 3) := by decide +kernel
theorem dX10_placesOf_35 : decode cX10_placesOf 35 = .ok (.iload_n 1, 1) := by decide +kernel
theorem dX10_placesOf_36 : decode cX10_placesOf 36 = .ok (.ireturn, 1) := by decide +kernel
theorem dX10_nextTo_0 : decode cX10_nextTo 0 = .ok (.iload_n 1, 1) := by decide +kernel
theorem dX10_nextTo_1 : decode cX10_nextTo 1 = .ok (.iconst 4, 1) := by decide +kernel
theorem dX10_nextTo_2 : decode cX10_nextTo 2 = .ok (.irem, 1) := by decide +kernel
theorem dX10_nextTo_3 : decode cX10_nextTo 3 = .ok (.istore_n 3, 1) := by decide +kernel
theorem dX10_nextTo_4 : decode cX10_nextTo 4 = .ok (.iload_n 2, 1) := by decide +kernel
theorem dX10_nextTo_5 : decode cX10_nextTo 5 = .ok (.ifCond .le 24, 3) := by decide +kernel
theorem dX10_nextTo_8 : decode cX10_nextTo 8 = .ok (.iload_n 1, 1) := by decide +kernel
theorem dX10_nextTo_9 : decode cX10_nextTo 9 = .ok (.iload_n 3, 1) := by decide +kernel
theorem dX10_nextTo_10 : decode cX10_nextTo 10 = .ok (.isub, 1) := by decide +kernel
theorem dX10_nextTo_11 : decode cX10_nextTo 11 = .ok (.iload_n 2, 1) := by decide +kernel
theorem dX10_nextTo_12 : decode cX10_nextTo 12 = .ok (.iconst 1, 1) := by decide +kernel
theorem dX10_nextTo_13 : decode cX10_nextTo 13 = .ok (.if_icmp .ne 9, 3) := by decide +kernel
theorem dX10_nextTo_16 : decode cX10_nextTo 16 = .ok (.iload_n 3, 1) := by decide +kernel
theorem dX10_nextTo_17 : decode cX10_nextTo 17 = .ok (.iconst 1, 1) := by decide +kernel
theorem dX10_nextTo_18 : decode cX10_nextTo 18 = .ok (.iadd, 1) := by decide +kernel
theorem dX10_nextTo_19 : decode cX10_nextTo 19 = .ok (.goto 6, 3) := by decide +kernel
theorem dX10_nextTo_22 : decode cX10_nextTo 22 = .ok (.iload_n 3, 1) := by decide +kernel
theorem dX10_nextTo_23 : decode cX10_nextTo 23 = .ok (.iconst 3, 1) := by decide +kernel
theorem dX10_nextTo_24 : decode cX10_nextTo 24 = .ok (.iadd, 1) := by decide +kernel
theorem dX10_nextTo_25 : decode cX10_nextTo 25 = .ok (.iconst 4, 1) := by decide +kernel
theorem dX10_nextTo_26 : decode cX10_nextTo 26 = .ok (.irem, 1) := by decide +kernel
theorem dX10_nextTo_27 : decode cX10_nextTo 27 = .ok (.iadd, 1) := by decide +kernel
theorem dX10_nextTo_28 : decode cX10_nextTo 28 = .ok (.ireturn, 1) := by decide +kernel
theorem dX10_nextTo_29 : decode cX10_nextTo 29 = .ok (.iload_n 1, 1) := by decide +kernel
theorem dX10_nextTo_30 : decode cX10_nextTo 30 = .ok (.iconst 4, 1) := by decide +kernel
theorem dX10_nextTo_31 : decode cX10_nextTo 31 = .ok (.idiv, 1) := by decide +kernel
theorem dX10_nextTo_32 : decode cX10_nextTo 32 = .ok (.aload_n 0, 1) := by decide +kernel
theorem dX10_nextTo_33 : decode cX10_nextTo 33 = .ok (.getfield 7, 3) := by decide +kernel
theorem dX10_nextTo_36 : decode cX10_nextTo 36 = .ok (.irem, 1) := by decide +kernel
theorem dX10_nextTo_37 : decode cX10_nextTo 37 = .ok (.iload_n 3, 1) := by decide +kernel
theorem dX10_nextTo_38 : decode cX10_nextTo 38 = .ok (.iconst 1, 1) := by decide +kernel
theorem dX10_nextTo_39 : decode cX10_nextTo 39 = .ok (.if_icmp .ne 7, 3) := by decide +kernel
theorem dX10_nextTo_42 : decode cX10_nextTo 42 = .ok (.iconst 1, 1) := by decide +kernel
theorem dX10_nextTo_43 : decode cX10_nextTo 43 = .ok (.goto 13, 3) := by decide +kernel
theorem dX10_nextTo_46 : decode cX10_nextTo 46 = .ok (.iload_n 3, 1) := by decide +kernel
theorem dX10_nextTo_47 : decode cX10_nextTo 47 = .ok (.iconst 3, 1) := by decide +kernel
theorem dX10_nextTo_48 : decode cX10_nextTo 48 = .ok (.if_icmp .ne 7, 3) := by decide +kernel
theorem dX10_nextTo_51 : decode cX10_nextTo 51 = .ok (.iconst (-1), 1) := by decide +kernel
theorem dX10_nextTo_52 : decode cX10_nextTo 52 = .ok (.goto 4, 3) := by decide +kernel
theorem dX10_nextTo_55 : decode cX10_nextTo 55 = .ok (.iconst 0, 1) := by decide +kernel
theorem dX10_nextTo_56 : decode cX10_nextTo 56 = .ok (.iadd, 1) := by decide +kernel
theorem dX10_nextTo_57 : decode cX10_nextTo 57 = .ok (.istore 4, 2) := by decide +kernel
theorem dX10_nextTo_59 : decode cX10_nextTo 59 = .ok (.iload_n 1, 1) := by decide +kernel
theorem dX10_nextTo_60 : decode cX10_nextTo 60 = .ok (.iconst 4, 1) := by decide +kernel
theorem dX10_nextTo_61 : decode cX10_nextTo 61 = .ok (.idiv, 1) := by decide +kernel
theorem dX10_nextTo_62 : decode cX10_nextTo 62 = .ok (.aload_n 0, 1) := by decide +kernel
theorem dX10_nextTo_63 : decode cX10_nextTo 63 = .ok (.getfield 7, 3) := by decide +kernel
theorem dX10_nextTo_66 : decode cX10_nextTo 66 = .ok (.idiv, 1) := by decide +kernel
theorem dX10_nextTo_67 : decode cX10_nextTo 67 = .ok (.iload_n 3, 1) := by decide +kernel
theorem dX10_nextTo_68 : decode cX10_nextTo 68 = .ok (.ifCond .ne 7, 3) := by decide +kernel
theorem dX10_nextTo_71 : decode cX10_nextTo 71 = .ok (.iconst (-1), 1) := by decide +kernel
theorem dX10_nextTo_72 : decode cX10_nextTo 72 = .ok (.goto 13, 3) := by decide +kernel
theorem dX10_nextTo_75 : decode cX10_nextTo 75 = .ok (.iload_n 3, 1) := by decide +kernel
theorem dX10_nextTo_76 : decode cX10_nextTo 76 = .ok (.iconst 2, 1) := by decide +kernel
theorem dX10_nextTo_77 : decode cX10_nextTo 77 = .ok (.if_icmp .ne 7, 3) := by decide +kernel
theorem dX10_nextTo_80 : decode cX10_nextTo 80 = .ok (.iconst 1, 1) := by decide +kernel
theorem dX10_nextTo_81 : decode cX10_nextTo 81 = .ok (.goto 4, 3) := by decide +kernel
theorem dX10_nextTo_84 : decode cX10_nextTo 84 = .ok (.iconst 0, 1) := by decide +kernel
theorem dX10_nextTo_85 : decode cX10_nextTo 85 = .ok (.iadd, 1) := by decide +kernel
theorem dX10_nextTo_86 : decode cX10_nextTo 86 = .ok (.istore 5, 2) := by decide +kernel
theorem dX10_nextTo_88 : decode cX10_nextTo 88 = .ok (.iload 4, 2) := by decide +kernel
theorem dX10_nextTo_90 : decode cX10_nextTo 90 = .ok (.i2l, 1) := by decide +kernel
theorem dX10_nextTo_91 : decode cX10_nextTo 91 = .ok (.lconst 0, 1) := by decide +kernel
theorem dX10_nextTo_92 : decode cX10_nextTo 92 = .ok (.aload_n 0, 1) := by decide +kernel
theorem dX10_nextTo_93 : decode cX10_nextTo 93 = .ok (.getfield 7, 3) := by decide +kernel
theorem dX10_nextTo_96 : decode cX10_nextTo 96 = .ok (.iconst 1, 1) := by decide +kernel
theorem dX10_nextTo_97 : decode cX10_nextTo 97 = .ok (.isub, 1) := by decide +kernel
theorem dX10_nextTo_98 : decode cX10_nextTo 98 = .ok (.i2l, 1) := by decide +kernel
theorem dX10_nextTo_99 : decode cX10_nextTo 99 = .ok (.invokestatic 101, 3) := by decide +kernel
theorem dX10_nextTo_102 : decode cX10_nextTo 102 = .ok (.ifCond .eq 41, 3) := by decide +kernel
theorem dX10_nextTo_105 : decode cX10_nextTo 105 = .ok (.iload 5, 2) := by decide +kernel
theorem dX10_nextTo_107 : decode cX10_nextTo 107 = .ok (.i2l, 1) := by decide +kernel
theorem dX10_nextTo_108 : decode cX10_nextTo 108 = .ok (.lconst 0, 1) := by decide +kernel
theorem dX10_nextTo_109 : decode cX10_nextTo 109 = .ok (.aload_n 0, 1) := by decide +kernel
theorem dX10_nextTo_110 : decode cX10_nextTo 110 = .ok (.getfield 7, 3) := by decide +kernel
theorem dX10_nextTo_113 : decode cX10_nextTo 113 = .ok (.iconst 1, 1) := by decide +kernel
theorem dX10_nextTo_114 : decode cX10_nextTo 114 = .ok (.isub, 1) := by decide +kernel
theorem dX10_nextTo_115 : decode cX10_nextTo 115 = .ok (.i2l, 1) := by decide +kernel
theorem dX10_nextTo_116 : decode cX10_nextTo 116 = .ok (.invokestatic 101, 3) := by decide +kernel
theorem dX10_nextTo_119 : decode cX10_nextTo 119 = .ok (.ifCond .eq 24, 3) := by decide +kernel
theorem dX10_nextTo_122 : decode cX10_nextTo 122 = .ok (.iconst 4, 1) := by decide +kernel
theorem dX10_nextTo_123 : decode cX10_nextTo 123 = .ok (.iload 5, 2) := by decide +kernel
theorem dX10_nextTo_125 : decode cX10_nextTo 125 = .ok (.aload_n 0, 1) := by decide +kernel
theorem dX10_nextTo_126 : decode cX10_nextTo 126 = .ok (.getfield 7, 3) := by decide +kernel
theorem dX10_nextTo_129 : decode cX10_nextTo 129 = .ok (.imul, 1) := by decide +kernel
theorem dX10_nextTo_130 : decode cX10_nextTo 130 = .ok (.iload 4, 2) := by decide +kernel
theorem dX10_nextTo_132 : decode cX10_nextTo 132 = .ok (.iadd, 1) := by decide +kernel
theorem dX10_nextTo_133 : decode cX10_nextTo 133 = .ok (.imul, 1) := by decide +kernel
theorem dX10_nextTo_134 : decode cX10_nextTo 134 = .ok (.iload_n 3, 1) := by decide +kernel
theorem dX10_nextTo_135 : decode cX10_nextTo 135 = .ok (.iconst 2, 1) := by decide +kernel
theorem dX10_nextTo_136 : decode cX10_nextTo 136 = .ok (.iadd, 1) := by decide +kernel
theorem dX10_nextTo_137 : decode cX10_nextTo 137 = .ok (.iconst 4, 1) := by decide +kernel
theorem dX10_nextTo_138 : decode cX10_nextTo 138 = .ok (.irem, 1) := by decide +kernel
theorem dX10_nextTo_139 : decode cX10_nextTo 139 = .ok (.iadd, 1) := by decide +kernel
theorem dX10_nextTo_140 : decode cX10_nextTo 140 = .ok (.goto 5, 3) := by decide +kernel
theorem dX10_nextTo_143 : decode cX10_nextTo 143 = .ok (.ldc 135, 2) := by decide +kernel
theorem dX10_nextTo_145 : decode cX10_nextTo 145 = .ok (.ireturn, 1) := by decide +kernel
theorem dX10_sheet_0 : decode cX10_sheet 0 = .ok (.aload_n 0, 1) := by decide +kernel
theorem dX10_sheet_1 : decode cX10_sheet 1 = .ok (.iconst 0, 1) := by decide +kernel
theorem dX10_sheet_2 : decode cX10_sheet 2 = .ok (.putfield 94, 3) := by decide +kernel
theorem dX10_sheet_5 : decode cX10_sheet 5 = .ok (.iload_n 1, 1) := by decide +kernel
theorem dX10_sheet_6 : decode cX10_sheet 6 = .ok (.i2l, 1) := by decide +kernel
theorem dX10_sheet_7 : decode cX10_sheet 7 = .ok (.lconst 1, 1) := by decide +kernel
theorem dX10_sheet_8 : decode cX10_sheet 8 = .ok (.ldc2_w 136, 3) := by decide +kernel
theorem dX10_sheet_11 : decode cX10_sheet 11 = .ok (.invokestatic 101, 3) := by decide +kernel
theorem dX10_sheet_14 : decode cX10_sheet 14 = .ok (.ifCond .ne 6, 3) := by decide +kernel
theorem dX10_sheet_17 : decode cX10_sheet 17 = .ok (.bipush (-2), 2) := by decide +kernel
theorem dX10_sheet_19 : decode cX10_sheet 19 = .ok (.ireturn, 1) := by decide +kernel
theorem dX10_sheet_20 : decode cX10_sheet 20 = .ok (.aload_n 0, 1) := by decide +kernel
theorem dX10_sheet_21 : decode cX10_sheet 21 = .ok (.getfield 7, 3) := by decide +kernel
theorem dX10_sheet_24 : decode cX10_sheet 24 = .ok (.istore_n 2, 1) := by decide +kernel
theorem dX10_sheet_25 : decode cX10_sheet 25 = .ok (.aload_n 0, 1) := by decide +kernel
theorem dX10_sheet_26 : decode cX10_sheet 26 = .ok (.iload_n 1, 1) := by decide +kernel
theorem dX10_sheet_27 : decode cX10_sheet 27 = .ok (.invokevirtual 90, 3) := by decide +kernel
theorem dX10_sheet_30 : decode cX10_sheet 30 = .ok (.iload_n 2, 1) := by decide +kernel
theorem dX10_sheet_31 : decode cX10_sheet 31 = .ok (.ireturn, 1) := by decide +kernel
theorem dX10_keep_0 : decode cX10_keep 0 = .ok (.iconst 0, 1) := by decide +kernel
theorem dX10_keep_1 : decode cX10_keep 1 = .ok (.istore_n 1, 1) := by decide +kernel
theorem dX10_keep_2 : decode cX10_keep 2 = .ok (.iload_n 1, 1) := by decide +kernel
theorem dX10_keep_3 : decode cX10_keep 3 = .ok (.aload_n 0, 1) := by decide +kernel
theorem dX10_keep_4 : decode cX10_keep 4 = .ok (.invokevirtual 97, 3) := by decide +kernel
theorem dX10_keep_7 : decode cX10_keep 7 = .ok (.if_icmp .ge 113, 3) := by decide +kernel
theorem dX10_keep_10 : decode cX10_keep 10 = .ok (.sipush 144, 3) := by decide +kernel
theorem dX10_keep_13 : decode cX10_keep 13 = .ok (.aload_n 0, 1) := by decide +kernel
theorem dX10_keep_14 : decode cX10_keep 14 = .ok (.getfield 111, 3) := by decide +kernel
theorem dX10_keep_17 : decode cX10_keep 17 = .ok (.imul, 1) := by decide +kernel
theorem dX10_keep_18 : decode cX10_keep 18 = .ok (.iload_n 1, 1) := by decide +kernel
theorem dX10_keep_19 : decode cX10_keep 19 = .ok (.iadd, 1) := by decide +kernel
theorem dX10_keep_20 : decode cX10_keep 20 = .ok (.istore_n 2, 1) := by decide +kernel
theorem dX10_keep_21 : decode cX10_keep 21 = .ok (.aload_n 0, 1) := by decide +kernel
theorem dX10_keep_22 : decode cX10_keep 22 = .ok (.getfield 33, 3) := by decide +kernel
theorem dX10_keep_25 : decode cX10_keep 25 = .ok (.iload_n 2, 1) := by decide +kernel
theorem dX10_keep_26 : decode cX10_keep 26 = .ok (.aload_n 0, 1) := by decide +kernel
theorem dX10_keep_27 : decode cX10_keep 27 = .ok (.getfield 13, 3) := by decide +kernel
theorem dX10_keep_30 : decode cX10_keep 30 = .ok (.iload_n 1, 1) := by decide +kernel
theorem dX10_keep_31 : decode cX10_keep 31 = .ok (.iaload, 1) := by decide +kernel
theorem dX10_keep_32 : decode cX10_keep 32 = .ok (.iastore, 1) := by decide +kernel
theorem dX10_keep_33 : decode cX10_keep 33 = .ok (.aload_n 0, 1) := by decide +kernel
theorem dX10_keep_34 : decode cX10_keep 34 = .ok (.getfield 36, 3) := by decide +kernel
theorem dX10_keep_37 : decode cX10_keep 37 = .ok (.iload_n 2, 1) := by decide +kernel
theorem dX10_keep_38 : decode cX10_keep 38 = .ok (.aload_n 0, 1) := by decide +kernel
theorem dX10_keep_39 : decode cX10_keep 39 = .ok (.getfield 17, 3) := by decide +kernel
theorem dX10_keep_42 : decode cX10_keep 42 = .ok (.iload_n 1, 1) := by decide +kernel
theorem dX10_keep_43 : decode cX10_keep 43 = .ok (.iaload, 1) := by decide +kernel
theorem dX10_keep_44 : decode cX10_keep 44 = .ok (.iastore, 1) := by decide +kernel
theorem dX10_keep_45 : decode cX10_keep 45 = .ok (.aload_n 0, 1) := by decide +kernel
theorem dX10_keep_46 : decode cX10_keep 46 = .ok (.getfield 39, 3) := by decide +kernel
theorem dX10_keep_49 : decode cX10_keep 49 = .ok (.iload_n 2, 1) := by decide +kernel
theorem dX10_keep_50 : decode cX10_keep 50 = .ok (.aload_n 0, 1) := by decide +kernel
theorem dX10_keep_51 : decode cX10_keep 51 = .ok (.getfield 20, 3) := by decide +kernel
theorem dX10_keep_54 : decode cX10_keep 54 = .ok (.iload_n 1, 1) := by decide +kernel
theorem dX10_keep_55 : decode cX10_keep 55 = .ok (.iaload, 1) := by decide +kernel
theorem dX10_keep_56 : decode cX10_keep 56 = .ok (.iastore, 1) := by decide +kernel
theorem dX10_keep_57 : decode cX10_keep 57 = .ok (.aload_n 0, 1) := by decide +kernel
theorem dX10_keep_58 : decode cX10_keep 58 = .ok (.getfield 42, 3) := by decide +kernel
theorem dX10_keep_61 : decode cX10_keep 61 = .ok (.iload_n 2, 1) := by decide +kernel
theorem dX10_keep_62 : decode cX10_keep 62 = .ok (.aload_n 0, 1) := by decide +kernel
theorem dX10_keep_63 : decode cX10_keep 63 = .ok (.getfield 23, 3) := by decide +kernel
theorem dX10_keep_66 : decode cX10_keep 66 = .ok (.iload_n 1, 1) := by decide +kernel
theorem dX10_keep_67 : decode cX10_keep 67 = .ok (.iaload, 1) := by decide +kernel
theorem dX10_keep_68 : decode cX10_keep 68 = .ok (.iastore, 1) := by decide +kernel
theorem dX10_keep_69 : decode cX10_keep 69 = .ok (.aload_n 0, 1) := by decide +kernel
theorem dX10_keep_70 : decode cX10_keep 70 = .ok (.getfield 45, 3) := by decide +kernel
theorem dX10_keep_73 : decode cX10_keep 73 = .ok (.iload_n 2, 1) := by decide +kernel
theorem dX10_keep_74 : decode cX10_keep 74 = .ok (.aload_n 0, 1) := by decide +kernel
theorem dX10_keep_75 : decode cX10_keep 75 = .ok (.getfield 26, 3) := by decide +kernel
theorem dX10_keep_78 : decode cX10_keep 78 = .ok (.iload_n 1, 1) := by decide +kernel
theorem dX10_keep_79 : decode cX10_keep 79 = .ok (.baload, 1) := by decide +kernel
theorem dX10_keep_80 : decode cX10_keep 80 = .ok (.bastore, 1) := by decide +kernel
theorem dX10_keep_81 : decode cX10_keep 81 = .ok (.iconst 0, 1) := by decide +kernel
theorem dX10_keep_82 : decode cX10_keep 82 = .ok (.istore_n 3, 1) := by decide +kernel
theorem dX10_keep_83 : decode cX10_keep 83 = .ok (.iload_n 3, 1) := by decide +kernel
theorem dX10_keep_84 : decode cX10_keep 84 = .ok (.iconst 3, 1) := by decide +kernel
theorem dX10_keep_85 : decode cX10_keep 85 = .ok (.if_icmp .ge 29, 3) := by decide +kernel
theorem dX10_keep_88 : decode cX10_keep 88 = .ok (.aload_n 0, 1) := by decide +kernel
theorem dX10_keep_89 : decode cX10_keep 89 = .ok (.getfield 48, 3) := by decide +kernel
theorem dX10_keep_92 : decode cX10_keep 92 = .ok (.iconst 3, 1) := by decide +kernel
theorem dX10_keep_93 : decode cX10_keep 93 = .ok (.iload_n 2, 1) := by decide +kernel
theorem dX10_keep_94 : decode cX10_keep 94 = .ok (.imul, 1) := by decide +kernel
theorem dX10_keep_95 : decode cX10_keep 95 = .ok (.iload_n 3, 1) := by decide +kernel
theorem dX10_keep_96 : decode cX10_keep 96 = .ok (.iadd, 1) := by decide +kernel
theorem dX10_keep_97 : decode cX10_keep 97 = .ok (.aload_n 0, 1) := by decide +kernel
theorem dX10_keep_98 : decode cX10_keep 98 = .ok (.getfield 30, 3) := by decide +kernel
theorem dX10_keep_101 : decode cX10_keep 101 = .ok (.iconst 3, 1) := by decide +kernel
theorem dX10_keep_102 : decode cX10_keep 102 = .ok (.iload_n 1, 1) := by decide +kernel
theorem dX10_keep_103 : decode cX10_keep 103 = .ok (.imul, 1) := by decide +kernel
theorem dX10_keep_104 : decode cX10_keep 104 = .ok (.iload_n 3, 1) := by decide +kernel
theorem dX10_keep_105 : decode cX10_keep 105 = .ok (.iadd, 1) := by decide +kernel
theorem dX10_keep_106 : decode cX10_keep 106 = .ok (.iaload, 1) := by decide +kernel
theorem dX10_keep_107 : decode cX10_keep 107 = .ok (.iastore, 1) := by decide +kernel
theorem dX10_keep_108 : decode cX10_keep 108 = .ok (.iinc 3 1, 3) := by decide +kernel
theorem dX10_keep_111 : decode cX10_keep 111 = .ok (.goto (-28), 3) := by decide +kernel
theorem dX10_keep_114 : decode cX10_keep 114 = .ok (.iinc 1 1, 3) := by decide +kernel
theorem dX10_keep_117 : decode cX10_keep 117 = .ok (.goto (-115), 3) := by decide +kernel
theorem dX10_keep_120 : decode cX10_keep 120 = .ok (.return_, 1) := by decide +kernel
theorem dX10_fold_0 : decode cX10_fold 0 = .ok (.aload_n 0, 1) := by decide +kernel
theorem dX10_fold_1 : decode cX10_fold 1 = .ok (.iconst 0, 1) := by decide +kernel
theorem dX10_fold_2 : decode cX10_fold 2 = .ok (.putfield 94, 3) := by decide +kernel
theorem dX10_fold_5 : decode cX10_fold 5 = .ok (.iload_n 1, 1) := by decide +kernel
theorem dX10_fold_6 : decode cX10_fold 6 = .ok (.iload_n 2, 1) := by decide +kernel
theorem dX10_fold_7 : decode cX10_fold 7 = .ok (.invokestatic 138, 3) := by decide +kernel
theorem dX10_fold_10 : decode cX10_fold 10 = .ok (.ifCond .ne 13, 3) := by decide +kernel
theorem dX10_fold_13 : decode cX10_fold 13 = .ok (.iload_n 3, 1) := by decide +kernel
theorem dX10_fold_14 : decode cX10_fold 14 = .ok (.i2l, 1) := by decide +kernel
theorem dX10_fold_15 : decode cX10_fold 15 = .ok (.lconst 0, 1) := by decide +kernel
theorem dX10_fold_16 : decode cX10_fold 16 = .ok (.lconst 1, 1) := by decide +kernel
theorem dX10_fold_17 : decode cX10_fold 17 = .ok (.invokestatic 101, 3) := by decide +kernel
theorem dX10_fold_20 : decode cX10_fold 20 = .ok (.ifCond .ne 6, 3) := by decide +kernel
theorem dX10_fold_23 : decode cX10_fold 23 = .ok (.bipush (-2), 2) := by decide +kernel
theorem dX10_fold_25 : decode cX10_fold 25 = .ok (.ireturn, 1) := by decide +kernel
theorem dX10_fold_26 : decode cX10_fold 26 = .ok (.iconst 0, 1) := by decide +kernel
theorem dX10_fold_27 : decode cX10_fold 27 = .ok (.istore 5, 2) := by decide +kernel
theorem dX10_fold_29 : decode cX10_fold 29 = .ok (.iconst 0, 1) := by decide +kernel
theorem dX10_fold_30 : decode cX10_fold 30 = .ok (.istore 6, 2) := by decide +kernel
theorem dX10_fold_32 : decode cX10_fold 32 = .ok (.iload 6, 2) := by decide +kernel
theorem dX10_fold_34 : decode cX10_fold 34 = .ok (.aload_n 0, 1) := by decide +kernel
theorem dX10_fold_35 : decode cX10_fold 35 = .ok (.invokevirtual 97, 3) := by decide +kernel
theorem dX10_fold_38 : decode cX10_fold 38 = .ok (.if_icmp .ge 71, 3) := by decide +kernel
theorem dX10_fold_41 : decode cX10_fold 41 = .ok (.aload_n 0, 1) := by decide +kernel
theorem dX10_fold_42 : decode cX10_fold 42 = .ok (.getfield 51, 3) := by decide +kernel
theorem dX10_fold_45 : decode cX10_fold 45 = .ok (.iload 6, 2) := by decide +kernel
theorem dX10_fold_47 : decode cX10_fold 47 = .ok (.iload_n 1, 1) := by decide +kernel
theorem dX10_fold_48 : decode cX10_fold 48 = .ok (.iload_n 2, 1) := by decide +kernel
theorem dX10_fold_49 : decode cX10_fold 49 = .ok (.aload_n 0, 1) := by decide +kernel
theorem dX10_fold_50 : decode cX10_fold 50 = .ok (.getfield 13, 3) := by decide +kernel
theorem dX10_fold_53 : decode cX10_fold 53 = .ok (.iload 6, 2) := by decide +kernel
theorem dX10_fold_55 : decode cX10_fold 55 = .ok (.iaload, 1) := by decide +kernel
theorem dX10_fold_56 : decode cX10_fold 56 = .ok (.aload_n 0, 1) := by decide +kernel
theorem dX10_fold_57 : decode cX10_fold 57 = .ok (.getfield 17, 3) := by decide +kernel
theorem dX10_fold_60 : decode cX10_fold 60 = .ok (.iload 6, 2) := by decide +kernel
theorem dX10_fold_62 : decode cX10_fold 62 = .ok (.iaload, 1) := by decide +kernel
theorem dX10_fold_63 : decode cX10_fold 63 = .ok (.aload_n 0, 1) := by decide +kernel
theorem dX10_fold_64 : decode cX10_fold 64 = .ok (.getfield 20, 3) := by decide +kernel
theorem dX10_fold_67 : decode cX10_fold 67 = .ok (.iload 6, 2) := by decide +kernel
theorem dX10_fold_69 : decode cX10_fold 69 = .ok (.iaload, 1) := by decide +kernel
theorem dX10_fold_70 : decode cX10_fold 70 = .ok (.invokestatic 142, 3) := by decide +kernel
theorem dX10_fold_73 : decode cX10_fold 73 = .ok (.iload_n 3, 1) := by decide +kernel
theorem dX10_fold_74 : decode cX10_fold 74 = .ok (.if_icmp .ne 7, 3) := by decide +kernel
theorem dX10_fold_77 : decode cX10_fold 77 = .ok (.iconst 1, 1) := by decide +kernel
theorem dX10_fold_78 : decode cX10_fold 78 = .ok (.goto 4, 3) := by decide +kernel
theorem dX10_fold_81 : decode cX10_fold 81 = .ok (.iconst 0, 1) := by decide +kernel
theorem dX10_fold_82 : decode cX10_fold 82 = .ok (.bastore, 1) := by decide +kernel
theorem dX10_fold_83 : decode cX10_fold 83 = .ok (.iload 5, 2) := by decide +kernel
theorem dX10_fold_85 : decode cX10_fold 85 = .ok (.aload_n 0, 1) := by decide +kernel
theorem dX10_fold_86 : decode cX10_fold 86 = .ok (.getfield 51, 3) := by decide +kernel
theorem dX10_fold_89 : decode cX10_fold 89 = .ok (.iload 6, 2) := by decide +kernel
theorem dX10_fold_91 : decode cX10_fold 91 = .ok (.baload, 1) := by decide +kernel
theorem dX10_fold_92 : decode cX10_fold 92 = .ok (.ifCond .eq 7, 3) := by decide +kernel
theorem dX10_fold_95 : decode cX10_fold 95 = .ok (.iconst 1, 1) := by decide +kernel
theorem dX10_fold_96 : decode cX10_fold 96 = .ok (.goto 4, 3) := by decide +kernel
theorem dX10_fold_99 : decode cX10_fold 99 = .ok (.iconst 0, 1) := by decide +kernel
theorem dX10_fold_100 : decode cX10_fold 100 = .ok (.iadd, 1) := by decide +kernel
theorem dX10_fold_101 : decode cX10_fold 101 = .ok (.istore 5, 2) := by decide +kernel
theorem dX10_fold_103 : decode cX10_fold 103 = .ok (.iinc 6 1, 3) := by decide +kernel
theorem dX10_fold_106 : decode cX10_fold 106 = .ok (.goto (-74), 3) := by decide +kernel
theorem dX10_fold_109 : decode cX10_fold 109 = .ok (.aload_n 0, 1) := by decide +kernel
theorem dX10_fold_110 : decode cX10_fold 110 = .ok (.getfield 114, 3) := by decide +kernel
theorem dX10_fold_113 : decode cX10_fold 113 = .ok (.ifCond .ne 17, 3) := by decide +kernel
theorem dX10_fold_116 : decode cX10_fold 116 = .ok (.iload 5, 2) := by decide +kernel
theorem dX10_fold_118 : decode cX10_fold 118 = .ok (.ifCond .eq 12, 3) := by decide +kernel
theorem dX10_fold_121 : decode cX10_fold 121 = .ok (.iload 5, 2) := by decide +kernel
theorem dX10_fold_123 : decode cX10_fold 123 = .ok (.aload_n 0, 1) := by decide +kernel
theorem dX10_fold_124 : decode cX10_fold 124 = .ok (.invokevirtual 97, 3) := by decide +kernel
theorem dX10_fold_127 : decode cX10_fold 127 = .ok (.if_icmp .ne 6, 3) := by decide +kernel
theorem dX10_fold_130 : decode cX10_fold 130 = .ok (.bipush (-3), 2) := by decide +kernel
theorem dX10_fold_132 : decode cX10_fold 132 = .ok (.ireturn, 1) := by decide +kernel
theorem dX10_fold_133 : decode cX10_fold 133 = .ok (.aload_n 0, 1) := by decide +kernel
theorem dX10_fold_134 : decode cX10_fold 134 = .ok (.getfield 111, 3) := by decide +kernel
theorem dX10_fold_137 : decode cX10_fold 137 = .ok (.bipush 8, 2) := by decide +kernel
theorem dX10_fold_139 : decode cX10_fold 139 = .ok (.if_icmp .ne 6, 3) := by decide +kernel
theorem dX10_fold_142 : decode cX10_fold 142 = .ok (.bipush (-4), 2) := by decide +kernel
theorem dX10_fold_144 : decode cX10_fold 144 = .ok (.ireturn, 1) := by decide +kernel
theorem dX10_fold_145 : decode cX10_fold 145 = .ok (.aload_n 0, 1) := by decide +kernel
theorem dX10_fold_146 : decode cX10_fold 146 = .ok (.invokevirtual 146, 3) := by decide +kernel
theorem dX10_fold_149 : decode cX10_fold 149 = .ok (.iconst 0, 1) := by decide +kernel
theorem dX10_fold_150 : decode cX10_fold 150 = .ok (.istore 6, 2) := by decide +kernel
theorem dX10_fold_152 : decode cX10_fold 152 = .ok (.iload 6, 2) := by decide +kernel
theorem dX10_fold_154 : decode cX10_fold 154 = .ok (.aload_n 0, 1) := by decide +kernel
theorem dX10_fold_155 : decode cX10_fold 155 = .ok (.invokevirtual 97, 3) := by decide +kernel
theorem dX10_fold_158 : decode cX10_fold 158 = .ok (.if_icmp .ge 87, 3) := by decide +kernel
theorem dX10_fold_161 : decode cX10_fold 161 = .ok (.iconst 0, 1) := by decide +kernel
theorem dX10_fold_162 : decode cX10_fold 162 = .ok (.istore 7, 2) := by decide +kernel
theorem dX10_fold_164 : decode cX10_fold 164 = .ok (.iload 7, 2) := by decide +kernel
theorem dX10_fold_166 : decode cX10_fold 166 = .ok (.iconst 3, 1) := by decide +kernel
theorem dX10_fold_167 : decode cX10_fold 167 = .ok (.if_icmp .ge 72, 3) := by decide +kernel
theorem dX10_fold_170 : decode cX10_fold 170 = .ok (.aload_n 0, 1) := by decide +kernel
theorem dX10_fold_171 : decode cX10_fold 171 = .ok (.iload 6, 2) := by decide +kernel
theorem dX10_fold_173 : decode cX10_fold 173 = .ok (.iload 7, 2) := by decide +kernel
theorem dX10_fold_175 : decode cX10_fold 175 = .ok (.invokevirtual 149, 3) := by decide +kernel
theorem dX10_fold_178 : decode cX10_fold 178 = .ok (.istore 8, 2) := by decide +kernel
theorem dX10_fold_180 : decode cX10_fold 180 = .ok (.iload 8, 2) := by decide +kernel
theorem dX10_fold_182 : decode cX10_fold 182 = .ok (.ldc 135, 2) := by decide +kernel
theorem dX10_fold_184 : decode cX10_fold 184 = .ok (.if_icmp .eq 49, 3) := by decide +kernel
theorem dX10_fold_187 : decode cX10_fold 187 = .ok (.aload_n 0, 1) := by decide +kernel
theorem dX10_fold_188 : decode cX10_fold 188 = .ok (.getfield 51, 3) := by decide +kernel
theorem dX10_fold_191 : decode cX10_fold 191 = .ok (.iload 6, 2) := by decide +kernel
theorem dX10_fold_193 : decode cX10_fold 193 = .ok (.baload, 1) := by decide +kernel
theorem dX10_fold_194 : decode cX10_fold 194 = .ok (.aload_n 0, 1) := by decide +kernel
theorem dX10_fold_195 : decode cX10_fold 195 = .ok (.getfield 51, 3) := by decide +kernel
theorem dX10_fold_198 : decode cX10_fold 198 = .ok (.iload 8, 2) := by decide +kernel
theorem dX10_fold_200 : decode cX10_fold 200 = .ok (.baload, 1) := by decide +kernel
theorem dX10_fold_201 : decode cX10_fold 201 = .ok (.if_icmp .eq 32, 3) := by decide +kernel
theorem dX10_fold_204 : decode cX10_fold 204 = .ok (.aload_n 0, 1) := by decide +kernel
theorem dX10_fold_205 : decode cX10_fold 205 = .ok (.getfield 30, 3) := by decide +kernel
theorem dX10_fold_208 : decode cX10_fold 208 = .ok (.iconst 3, 1) := by decide +kernel
theorem dX10_fold_209 : decode cX10_fold 209 = .ok (.iload 6, 2) := by decide +kernel
theorem dX10_fold_211 : decode cX10_fold 211 = .ok (.imul, 1) := by decide +kernel
theorem dX10_fold_212 : decode cX10_fold 212 = .ok (.iload 7, 2) := by decide +kernel
theorem dX10_fold_214 : decode cX10_fold 214 = .ok (.iadd, 1) := by decide +kernel
theorem dX10_fold_215 : decode cX10_fold 215 = .ok (.iload 4, 2) := by decide +kernel
theorem dX10_fold_217 : decode cX10_fold 217 = .ok (.aload_n 0, 1) := by decide +kernel
theorem dX10_fold_218 : decode cX10_fold 218 = .ok (.getfield 26, 3) := by decide +kernel
theorem dX10_fold_221 : decode cX10_fold 221 = .ok (.iload 6, 2) := by decide +kernel
theorem dX10_fold_223 : decode cX10_fold 223 = .ok (.baload, 1) := by decide +kernel
theorem dX10_fold_224 : decode cX10_fold 224 = .ok (.if_icmp .ne 7, 3) := by decide +kernel
theorem dX10_fold_227 : decode cX10_fold 227 = .ok (.iconst 1, 1) := by decide +kernel
theorem dX10_fold_228 : decode cX10_fold 228 = .ok (.goto 4, 3) := by decide +kernel
theorem dX10_fold_231 : decode cX10_fold 231 = .ok (.iconst 2, 1) := by decide +kernel
theorem dX10_fold_232 : decode cX10_fold 232 = .ok (.iastore, 1) := by decide +kernel
theorem dX10_fold_233 : decode cX10_fold 233 = .ok (.iinc 7 1, 3) := by decide +kernel
theorem dX10_fold_236 : decode cX10_fold 236 = .ok (.goto (-72), 3) := by decide +kernel
theorem dX10_fold_239 : decode cX10_fold 239 = .ok (.iinc 6 1, 3) := by decide +kernel
theorem dX10_fold_242 : decode cX10_fold 242 = .ok (.goto (-90), 3) := by decide +kernel
theorem dX10_fold_245 : decode cX10_fold 245 = .ok (.sipush 144, 3) := by decide +kernel
theorem dX10_fold_248 : decode cX10_fold 248 = .ok (.aload_n 0, 1) := by decide +kernel
theorem dX10_fold_249 : decode cX10_fold 249 = .ok (.getfield 111, 3) := by decide +kernel
theorem dX10_fold_252 : decode cX10_fold 252 = .ok (.imul, 1) := by decide +kernel
theorem dX10_fold_253 : decode cX10_fold 253 = .ok (.istore 6, 2) := by decide +kernel
theorem dX10_fold_255 : decode cX10_fold 255 = .ok (.aload_n 0, 1) := by decide +kernel
theorem dX10_fold_256 : decode cX10_fold 256 = .ok (.dup, 1) := by decide +kernel
theorem dX10_fold_257 : decode cX10_fold 257 = .ok (.getfield 111, 3) := by decide +kernel
theorem dX10_fold_260 : decode cX10_fold 260 = .ok (.iconst 1, 1) := by decide +kernel
theorem dX10_fold_261 : decode cX10_fold 261 = .ok (.iadd, 1) := by decide +kernel
theorem dX10_fold_262 : decode cX10_fold 262 = .ok (.putfield 111, 3) := by decide +kernel
theorem dX10_fold_265 : decode cX10_fold 265 = .ok (.iconst 0, 1) := by decide +kernel
theorem dX10_fold_266 : decode cX10_fold 266 = .ok (.istore 7, 2) := by decide +kernel
theorem dX10_fold_268 : decode cX10_fold 268 = .ok (.iload 7, 2) := by decide +kernel
theorem dX10_fold_270 : decode cX10_fold 270 = .ok (.aload_n 0, 1) := by decide +kernel
theorem dX10_fold_271 : decode cX10_fold 271 = .ok (.invokevirtual 97, 3) := by decide +kernel
theorem dX10_fold_274 : decode cX10_fold 274 = .ok (.if_icmp .ge 309, 3) := by decide +kernel
theorem dX10_fold_277 : decode cX10_fold 277 = .ok (.aload_n 0, 1) := by decide +kernel
theorem dX10_fold_278 : decode cX10_fold 278 = .ok (.getfield 51, 3) := by decide +kernel
theorem dX10_fold_281 : decode cX10_fold 281 = .ok (.iload 7, 2) := by decide +kernel
theorem dX10_fold_283 : decode cX10_fold 283 = .ok (.baload, 1) := by decide +kernel
theorem dX10_fold_284 : decode cX10_fold 284 = .ok (.ifCond .eq 293, 3) := by decide +kernel
theorem dX10_fold_287 : decode cX10_fold 287 = .ok (.iconst 0, 1) := by decide +kernel
theorem dX10_fold_288 : decode cX10_fold 288 = .ok (.istore 8, 2) := by decide +kernel
theorem dX10_fold_290 : decode cX10_fold 290 = .ok (.iconst 0, 1) := by decide +kernel
theorem dX10_fold_291 : decode cX10_fold 291 = .ok (.istore 9, 2) := by decide +kernel
theorem dX10_fold_293 : decode cX10_fold 293 = .ok (.iload 9, 2) := by decide +kernel
theorem dX10_fold_295 : decode cX10_fold 295 = .ok (.aload_n 0, 1) := by decide +kernel
theorem dX10_fold_296 : decode cX10_fold 296 = .ok (.invokevirtual 97, 3) := by decide +kernel
theorem dX10_fold_299 : decode cX10_fold 299 = .ok (.if_icmp .ge 88, 3) := by decide +kernel
theorem dX10_fold_302 : decode cX10_fold 302 = .ok (.iload 8, 2) := by decide +kernel
theorem dX10_fold_304 : decode cX10_fold 304 = .ok (.aload_n 0, 1) := by decide +kernel
theorem dX10_fold_305 : decode cX10_fold 305 = .ok (.getfield 33, 3) := by decide +kernel
theorem dX10_fold_308 : decode cX10_fold 308 = .ok (.iload 6, 2) := by decide +kernel
theorem dX10_fold_310 : decode cX10_fold 310 = .ok (.iload 9, 2) := by decide +kernel
theorem dX10_fold_312 : decode cX10_fold 312 = .ok (.iadd, 1) := by decide +kernel
theorem dX10_fold_313 : decode cX10_fold 313 = .ok (.iaload, 1) := by decide +kernel
theorem dX10_fold_314 : decode cX10_fold 314 = .ok (.aload_n 0, 1) := by decide +kernel
theorem dX10_fold_315 : decode cX10_fold 315 = .ok (.getfield 33, 3) := by decide +kernel
theorem dX10_fold_318 : decode cX10_fold 318 = .ok (.iload 6, 2) := by decide +kernel
theorem dX10_fold_320 : decode cX10_fold 320 = .ok (.iload 7, 2) := by decide +kernel
theorem dX10_fold_322 : decode cX10_fold 322 = .ok (.iadd, 1) := by decide +kernel
theorem dX10_fold_323 : decode cX10_fold 323 = .ok (.iaload, 1) := by decide +kernel
theorem dX10_fold_324 : decode cX10_fold 324 = .ok (.if_icmp .ne 53, 3) := by decide +kernel
theorem dX10_fold_327 : decode cX10_fold 327 = .ok (.aload_n 0, 1) := by decide +kernel
theorem dX10_fold_328 : decode cX10_fold 328 = .ok (.getfield 36, 3) := by decide +kernel
theorem dX10_fold_331 : decode cX10_fold 331 = .ok (.iload 6, 2) := by decide +kernel
theorem dX10_fold_333 : decode cX10_fold 333 = .ok (.iload 9, 2) := by decide +kernel
theorem dX10_fold_335 : decode cX10_fold 335 = .ok (.iadd, 1) := by decide +kernel
theorem dX10_fold_336 : decode cX10_fold 336 = .ok (.iaload, 1) := by decide +kernel
theorem dX10_fold_337 : decode cX10_fold 337 = .ok (.aload_n 0, 1) := by decide +kernel
theorem dX10_fold_338 : decode cX10_fold 338 = .ok (.getfield 36, 3) := by decide +kernel
theorem dX10_fold_341 : decode cX10_fold 341 = .ok (.iload 6, 2) := by decide +kernel
theorem dX10_fold_343 : decode cX10_fold 343 = .ok (.iload 7, 2) := by decide +kernel
theorem dX10_fold_345 : decode cX10_fold 345 = .ok (.iadd, 1) := by decide +kernel
theorem dX10_fold_346 : decode cX10_fold 346 = .ok (.iaload, 1) := by decide +kernel
theorem dX10_fold_347 : decode cX10_fold 347 = .ok (.if_icmp .ne 30, 3) := by decide +kernel
theorem dX10_fold_350 : decode cX10_fold 350 = .ok (.aload_n 0, 1) := by decide +kernel
theorem dX10_fold_351 : decode cX10_fold 351 = .ok (.getfield 39, 3) := by decide +kernel
theorem dX10_fold_354 : decode cX10_fold 354 = .ok (.iload 6, 2) := by decide +kernel
theorem dX10_fold_356 : decode cX10_fold 356 = .ok (.iload 9, 2) := by decide +kernel
theorem dX10_fold_358 : decode cX10_fold 358 = .ok (.iadd, 1) := by decide +kernel
theorem dX10_fold_359 : decode cX10_fold 359 = .ok (.iaload, 1) := by decide +kernel
theorem dX10_fold_360 : decode cX10_fold 360 = .ok (.aload_n 0, 1) := by decide +kernel
theorem dX10_fold_361 : decode cX10_fold 361 = .ok (.getfield 39, 3) := by decide +kernel
theorem dX10_fold_364 : decode cX10_fold 364 = .ok (.iload 6, 2) := by decide +kernel
theorem dX10_fold_366 : decode cX10_fold 366 = .ok (.iload 7, 2) := by decide +kernel
theorem dX10_fold_368 : decode cX10_fold 368 = .ok (.iadd, 1) := by decide +kernel
theorem dX10_fold_369 : decode cX10_fold 369 = .ok (.iaload, 1) := by decide +kernel
theorem dX10_fold_370 : decode cX10_fold 370 = .ok (.if_icmp .ne 7, 3) := by decide +kernel
theorem dX10_fold_373 : decode cX10_fold 373 = .ok (.iconst 1, 1) := by decide +kernel
theorem dX10_fold_374 : decode cX10_fold 374 = .ok (.goto 4, 3) := by decide +kernel
theorem dX10_fold_377 : decode cX10_fold 377 = .ok (.iconst 0, 1) := by decide +kernel
theorem dX10_fold_378 : decode cX10_fold 378 = .ok (.iadd, 1) := by decide +kernel
theorem dX10_fold_379 : decode cX10_fold 379 = .ok (.istore 8, 2) := by decide +kernel
theorem dX10_fold_381 : decode cX10_fold 381 = .ok (.iinc 9 1, 3) := by decide +kernel
theorem dX10_fold_384 : decode cX10_fold 384 = .ok (.goto (-91), 3) := by decide +kernel
theorem dX10_fold_387 : decode cX10_fold 387 = .ok (.aload_n 0, 1) := by decide +kernel
theorem dX10_fold_388 : decode cX10_fold 388 = .ok (.iload_n 1, 1) := by decide +kernel
theorem dX10_fold_389 : decode cX10_fold 389 = .ok (.iload_n 2, 1) := by decide +kernel
theorem dX10_fold_390 : decode cX10_fold 390 = .ok (.aload_n 0, 1) := by decide +kernel
theorem dX10_fold_391 : decode cX10_fold 391 = .ok (.getfield 13, 3) := by decide +kernel
theorem dX10_fold_394 : decode cX10_fold 394 = .ok (.iload 7, 2) := by decide +kernel
theorem dX10_fold_396 : decode cX10_fold 396 = .ok (.iaload, 1) := by decide +kernel
theorem dX10_fold_397 : decode cX10_fold 397 = .ok (.aload_n 0, 1) := by decide +kernel
theorem dX10_fold_398 : decode cX10_fold 398 = .ok (.getfield 17, 3) := by decide +kernel
theorem dX10_fold_401 : decode cX10_fold 401 = .ok (.iload 7, 2) := by decide +kernel
theorem dX10_fold_403 : decode cX10_fold 403 = .ok (.iaload, 1) := by decide +kernel
theorem dX10_fold_404 : decode cX10_fold 404 = .ok (.aload_n 0, 1) := by decide +kernel
theorem dX10_fold_405 : decode cX10_fold 405 = .ok (.getfield 20, 3) := by decide +kernel
theorem dX10_fold_408 : decode cX10_fold 408 = .ok (.iload 7, 2) := by decide +kernel
theorem dX10_fold_410 : decode cX10_fold 410 = .ok (.iaload, 1) := by decide +kernel
theorem dX10_fold_411 : decode cX10_fold 411 = .ok (.invokevirtual 153, 3) := by decide +kernel
theorem dX10_fold_414 : decode cX10_fold 414 = .ok (.iconst 0, 1) := by decide +kernel
theorem dX10_fold_415 : decode cX10_fold 415 = .ok (.istore 9, 2) := by decide +kernel
theorem dX10_fold_417 : decode cX10_fold 417 = .ok (.iconst 0, 1) := by decide +kernel
theorem dX10_fold_418 : decode cX10_fold 418 = .ok (.istore 10, 2) := by decide +kernel
theorem dX10_fold_420 : decode cX10_fold 420 = .ok (.iload 10, 2) := by decide +kernel
theorem dX10_fold_422 : decode cX10_fold 422 = .ok (.aload_n 0, 1) := by decide +kernel
theorem dX10_fold_423 : decode cX10_fold 423 = .ok (.invokevirtual 97, 3) := by decide +kernel
theorem dX10_fold_426 : decode cX10_fold 426 = .ok (.if_icmp .ge 62, 3) := by decide +kernel
theorem dX10_fold_429 : decode cX10_fold 429 = .ok (.aload_n 0, 1) := by decide +kernel
theorem dX10_fold_430 : decode cX10_fold 430 = .ok (.getfield 51, 3) := by decide +kernel
theorem dX10_fold_433 : decode cX10_fold 433 = .ok (.iload 10, 2) := by decide +kernel
theorem dX10_fold_435 : decode cX10_fold 435 = .ok (.baload, 1) := by decide +kernel
theorem dX10_fold_436 : decode cX10_fold 436 = .ok (.ifCond .ne 28, 3) := by decide +kernel
theorem dX10_fold_439 : decode cX10_fold 439 = .ok (.aload_n 0, 1) := by decide +kernel
theorem dX10_fold_440 : decode cX10_fold 440 = .ok (.iload 10, 2) := by decide +kernel
theorem dX10_fold_442 : decode cX10_fold 442 = .ok (.aload_n 0, 1) := by decide +kernel
theorem dX10_fold_443 : decode cX10_fold 443 = .ok (.getfield 122, 3) := by decide +kernel
theorem dX10_fold_446 : decode cX10_fold 446 = .ok (.aload_n 0, 1) := by decide +kernel
theorem dX10_fold_447 : decode cX10_fold 447 = .ok (.getfield 125, 3) := by decide +kernel
theorem dX10_fold_450 : decode cX10_fold 450 = .ok (.aload_n 0, 1) := by decide +kernel
theorem dX10_fold_451 : decode cX10_fold 451 = .ok (.getfield 128, 3) := by decide +kernel
theorem dX10_fold_454 : decode cX10_fold 454 = .ok (.invokevirtual 131, 3) := by decide +kernel
theorem dX10_fold_457 : decode cX10_fold 457 = .ok (.ifCond .eq 7, 3) := by decide +kernel
theorem dX10_fold_460 : decode cX10_fold 460 = .ok (.iconst 1, 1) := by decide +kernel
theorem dX10_fold_461 : decode cX10_fold 461 = .ok (.goto 4, 3) := by decide +kernel
theorem dX10_fold_464 : decode cX10_fold 464 = .ok (.iconst 0, 1) := by decide +kernel
theorem dX10_fold_465 : decode cX10_fold 465 = .ok (.istore 11, 2) := by decide +kernel
theorem dX10_fold_467 : decode cX10_fold 467 = .ok (.iload 9, 2) := by decide +kernel
theorem dX10_fold_469 : decode cX10_fold 469 = .ok (.iload 11, 2) := by decide +kernel
theorem dX10_fold_471 : decode cX10_fold 471 = .ok (.ifCond .eq 7, 3) := by decide +kernel
theorem dX10_fold_474 : decode cX10_fold 474 = .ok (.iconst 1, 1) := by decide +kernel
theorem dX10_fold_475 : decode cX10_fold 475 = .ok (.goto 4, 3) := by decide +kernel
theorem dX10_fold_478 : decode cX10_fold 478 = .ok (.iconst 0, 1) := by decide +kernel
theorem dX10_fold_479 : decode cX10_fold 479 = .ok (.iadd, 1) := by decide +kernel
theorem dX10_fold_480 : decode cX10_fold 480 = .ok (.istore 9, 2) := by decide +kernel
theorem dX10_fold_482 : decode cX10_fold 482 = .ok (.iinc 10 1, 3) := by decide +kernel
theorem dX10_fold_485 : decode cX10_fold 485 = .ok (.goto (-65), 3) := by decide +kernel
theorem dX10_fold_488 : decode cX10_fold 488 = .ok (.aload_n 0, 1) := by decide +kernel
theorem dX10_fold_489 : decode cX10_fold 489 = .ok (.getfield 13, 3) := by decide +kernel
theorem dX10_fold_492 : decode cX10_fold 492 = .ok (.iload 7, 2) := by decide +kernel
theorem dX10_fold_494 : decode cX10_fold 494 = .ok (.aload_n 0, 1) := by decide +kernel
theorem dX10_fold_495 : decode cX10_fold 495 = .ok (.getfield 122, 3) := by decide +kernel
theorem dX10_fold_498 : decode cX10_fold 498 = .ok (.iastore, 1) := by decide +kernel
theorem dX10_fold_499 : decode cX10_fold 499 = .ok (.aload_n 0, 1) := by decide +kernel
theorem dX10_fold_500 : decode cX10_fold 500 = .ok (.getfield 17, 3) := by decide +kernel
theorem dX10_fold_503 : decode cX10_fold 503 = .ok (.iload 7, 2) := by decide +kernel
theorem dX10_fold_505 : decode cX10_fold 505 = .ok (.aload_n 0, 1) := by decide +kernel
theorem dX10_fold_506 : decode cX10_fold 506 = .ok (.getfield 125, 3) := by decide +kernel
theorem dX10_fold_509 : decode cX10_fold 509 = .ok (.iastore, 1) := by decide +kernel
theorem dX10_fold_510 : decode cX10_fold 510 = .ok (.aload_n 0, 1) := by decide +kernel
theorem dX10_fold_511 : decode cX10_fold 511 = .ok (.getfield 20, 3) := by decide +kernel
theorem dX10_fold_514 : decode cX10_fold 514 = .ok (.iload 7, 2) := by decide +kernel
theorem dX10_fold_516 : decode cX10_fold 516 = .ok (.aload_n 0, 1) := by decide +kernel
theorem dX10_fold_517 : decode cX10_fold 517 = .ok (.getfield 128, 3) := by decide +kernel
theorem dX10_fold_520 : decode cX10_fold 520 = .ok (.iastore, 1) := by decide +kernel
theorem dX10_fold_521 : decode cX10_fold 521 = .ok (.aload_n 0, 1) := by decide +kernel
theorem dX10_fold_522 : decode cX10_fold 522 = .ok (.getfield 23, 3) := by decide +kernel
theorem dX10_fold_525 : decode cX10_fold 525 = .ok (.iload 7, 2) := by decide +kernel
theorem dX10_fold_527 : decode cX10_fold 527 = .ok (.iload 8, 2) := by decide +kernel
theorem dX10_fold_529 : decode cX10_fold 529 = .ok (.iconst 1, 1) := by decide +kernel
theorem dX10_fold_530 : decode cX10_fold 530 = .ok (.isub, 1) := by decide +kernel
theorem dX10_fold_531 : decode cX10_fold 531 = .ok (.aload_n 0, 1) := by decide +kernel
theorem dX10_fold_532 : decode cX10_fold 532 = .ok (.getfield 42, 3) := by decide +kernel
theorem dX10_fold_535 : decode cX10_fold 535 = .ok (.iload 6, 2) := by decide +kernel
theorem dX10_fold_537 : decode cX10_fold 537 = .ok (.iload 7, 2) := by decide +kernel
theorem dX10_fold_539 : decode cX10_fold 539 = .ok (.iadd, 1) := by decide +kernel
theorem dX10_fold_540 : decode cX10_fold 540 = .ok (.iaload, 1) := by decide +kernel
theorem dX10_fold_541 : decode cX10_fold 541 = .ok (.isub, 1) := by decide +kernel
theorem dX10_fold_542 : decode cX10_fold 542 = .ok (.iload 4, 2) := by decide +kernel
theorem dX10_fold_544 : decode cX10_fold 544 = .ok (.ifCond .eq 8, 3) := by decide +kernel
theorem dX10_fold_547 : decode cX10_fold 547 = .ok (.iload 9, 2) := by decide +kernel
theorem dX10_fold_549 : decode cX10_fold 549 = .ok (.goto 4, 3) := by decide +kernel
theorem dX10_fold_552 : decode cX10_fold 552 = .ok (.iconst 0, 1) := by decide +kernel
theorem dX10_fold_553 : decode cX10_fold 553 = .ok (.iadd, 1) := by decide +kernel
theorem dX10_fold_554 : decode cX10_fold 554 = .ok (.iastore, 1) := by decide +kernel
theorem dX10_fold_555 : decode cX10_fold 555 = .ok (.aload_n 0, 1) := by decide +kernel
theorem dX10_fold_556 : decode cX10_fold 556 = .ok (.getfield 26, 3) := by decide +kernel
theorem dX10_fold_559 : decode cX10_fold 559 = .ok (.iload 7, 2) := by decide +kernel
theorem dX10_fold_561 : decode cX10_fold 561 = .ok (.aload_n 0, 1) := by decide +kernel
theorem dX10_fold_562 : decode cX10_fold 562 = .ok (.getfield 26, 3) := by decide +kernel
theorem dX10_fold_565 : decode cX10_fold 565 = .ok (.iload 7, 2) := by decide +kernel
theorem dX10_fold_567 : decode cX10_fold 567 = .ok (.baload, 1) := by decide +kernel
theorem dX10_fold_568 : decode cX10_fold 568 = .ok (.ifCond .ne 7, 3) := by decide +kernel
theorem dX10_fold_571 : decode cX10_fold 571 = .ok (.iconst 1, 1) := by decide +kernel
theorem dX10_fold_572 : decode cX10_fold 572 = .ok (.goto 4, 3) := by decide +kernel
theorem dX10_fold_575 : decode cX10_fold 575 = .ok (.iconst 0, 1) := by decide +kernel
theorem dX10_fold_576 : decode cX10_fold 576 = .ok (.bastore, 1) := by decide +kernel
theorem dX10_fold_577 : decode cX10_fold 577 = .ok (.iinc 7 1, 3) := by decide +kernel
theorem dX10_fold_580 : decode cX10_fold 580 = .ok (.goto (-312), 3) := by decide +kernel
theorem dX10_fold_583 : decode cX10_fold 583 = .ok (.iconst 0, 1) := by decide +kernel
theorem dX10_fold_584 : decode cX10_fold 584 = .ok (.istore 7, 2) := by decide +kernel
theorem dX10_fold_586 : decode cX10_fold 586 = .ok (.iload 7, 2) := by decide +kernel
theorem dX10_fold_588 : decode cX10_fold 588 = .ok (.aload_n 0, 1) := by decide +kernel
theorem dX10_fold_589 : decode cX10_fold 589 = .ok (.invokevirtual 97, 3) := by decide +kernel
theorem dX10_fold_592 : decode cX10_fold 592 = .ok (.if_icmp .ge 107, 3) := by decide +kernel
theorem dX10_fold_595 : decode cX10_fold 595 = .ok (.aload_n 0, 1) := by decide +kernel
theorem dX10_fold_596 : decode cX10_fold 596 = .ok (.getfield 51, 3) := by decide +kernel
theorem dX10_fold_599 : decode cX10_fold 599 = .ok (.iload 7, 2) := by decide +kernel
theorem dX10_fold_601 : decode cX10_fold 601 = .ok (.baload, 1) := by decide +kernel
theorem dX10_fold_602 : decode cX10_fold 602 = .ok (.ifCond .ne 91, 3) := by decide +kernel
theorem dX10_fold_605 : decode cX10_fold 605 = .ok (.iload 4, 2) := by decide +kernel
theorem dX10_fold_607 : decode cX10_fold 607 = .ok (.ifCond .ne 86, 3) := by decide +kernel
theorem dX10_fold_610 : decode cX10_fold 610 = .ok (.iconst 0, 1) := by decide +kernel
theorem dX10_fold_611 : decode cX10_fold 611 = .ok (.istore 8, 2) := by decide +kernel
theorem dX10_fold_613 : decode cX10_fold 613 = .ok (.iconst 0, 1) := by decide +kernel
theorem dX10_fold_614 : decode cX10_fold 614 = .ok (.istore 9, 2) := by decide +kernel
theorem dX10_fold_616 : decode cX10_fold 616 = .ok (.iload 9, 2) := by decide +kernel
theorem dX10_fold_618 : decode cX10_fold 618 = .ok (.aload_n 0, 1) := by decide +kernel
theorem dX10_fold_619 : decode cX10_fold 619 = .ok (.invokevirtual 97, 3) := by decide +kernel
theorem dX10_fold_622 : decode cX10_fold 622 = .ok (.if_icmp .ge 59, 3) := by decide +kernel
theorem dX10_fold_625 : decode cX10_fold 625 = .ok (.iload 8, 2) := by decide +kernel
theorem dX10_fold_627 : decode cX10_fold 627 = .ok (.aload_n 0, 1) := by decide +kernel
theorem dX10_fold_628 : decode cX10_fold 628 = .ok (.getfield 51, 3) := by decide +kernel
theorem dX10_fold_631 : decode cX10_fold 631 = .ok (.iload 9, 2) := by decide +kernel
theorem dX10_fold_633 : decode cX10_fold 633 = .ok (.baload, 1) := by decide +kernel
theorem dX10_fold_634 : decode cX10_fold 634 = .ok (.ifCond .eq 37, 3) := by decide +kernel
theorem dX10_fold_637 : decode cX10_fold 637 = .ok (.aload_n 0, 1) := by decide +kernel
theorem dX10_fold_638 : decode cX10_fold 638 = .ok (.iload 9, 2) := by decide +kernel
theorem dX10_fold_640 : decode cX10_fold 640 = .ok (.aload_n 0, 1) := by decide +kernel
theorem dX10_fold_641 : decode cX10_fold 641 = .ok (.getfield 13, 3) := by decide +kernel
theorem dX10_fold_644 : decode cX10_fold 644 = .ok (.iload 7, 2) := by decide +kernel
theorem dX10_fold_646 : decode cX10_fold 646 = .ok (.iaload, 1) := by decide +kernel
theorem dX10_fold_647 : decode cX10_fold 647 = .ok (.aload_n 0, 1) := by decide +kernel
theorem dX10_fold_648 : decode cX10_fold 648 = .ok (.getfield 17, 3) := by decide +kernel
theorem dX10_fold_651 : decode cX10_fold 651 = .ok (.iload 7, 2) := by decide +kernel
theorem dX10_fold_653 : decode cX10_fold 653 = .ok (.iaload, 1) := by decide +kernel
theorem dX10_fold_654 : decode cX10_fold 654 = .ok (.aload_n 0, 1) := by decide +kernel
theorem dX10_fold_655 : decode cX10_fold 655 = .ok (.getfield 20, 3) := by decide +kernel
theorem dX10_fold_658 : decode cX10_fold 658 = .ok (.iload 7, 2) := by decide +kernel
theorem dX10_fold_660 : decode cX10_fold 660 = .ok (.iaload, 1) := by decide +kernel
theorem dX10_fold_661 : decode cX10_fold 661 = .ok (.invokevirtual 131, 3) := by decide +kernel
theorem dX10_fold_664 : decode cX10_fold 664 = .ok (.ifCond .eq 7, 3) := by decide +kernel
theorem dX10_fold_667 : decode cX10_fold 667 = .ok (.iconst 1, 1) := by decide +kernel
theorem dX10_fold_668 : decode cX10_fold 668 = .ok (.goto 4, 3) := by decide +kernel
theorem dX10_fold_671 : decode cX10_fold 671 = .ok (.iconst 0, 1) := by decide +kernel
theorem dX10_fold_672 : decode cX10_fold 672 = .ok (.iadd, 1) := by decide +kernel
theorem dX10_fold_673 : decode cX10_fold 673 = .ok (.istore 8, 2) := by decide +kernel
theorem dX10_fold_675 : decode cX10_fold 675 = .ok (.iinc 9 1, 3) := by decide +kernel
theorem dX10_fold_678 : decode cX10_fold 678 = .ok (.goto (-62), 3) := by decide +kernel
theorem dX10_fold_681 : decode cX10_fold 681 = .ok (.aload_n 0, 1) := by decide +kernel
theorem dX10_fold_682 : decode cX10_fold 682 = .ok (.getfield 23, 3) := by decide +kernel
theorem dX10_fold_685 : decode cX10_fold 685 = .ok (.iload 7, 2) := by decide +kernel
theorem dX10_fold_687 : decode cX10_fold 687 = .ok (.dup2, 1) := by decide +kernel
theorem dX10_fold_688 : decode cX10_fold 688 = .ok (.iaload, 1) := by decide +kernel
theorem dX10_fold_689 : decode cX10_fold 689 = .ok (.iload 8, 2) := by decide +kernel
theorem dX10_fold_691 : decode cX10_fold 691 = .ok (.iadd, 1) := by decide +kernel
theorem dX10_fold_692 : decode cX10_fold 692 = .ok (.iastore, 1) := by decide +kernel
theorem dX10_fold_693 : decode cX10_fold 693 = .ok (.iinc 7 1, 3) := by decide +kernel
theorem dX10_fold_696 : decode cX10_fold 696 = .ok (.goto (-110), 3) := by decide +kernel
theorem dX10_fold_699 : decode cX10_fold 699 = .ok (.aload_n 0, 1) := by decide +kernel
theorem dX10_fold_700 : decode cX10_fold 700 = .ok (.invokevirtual 157, 3) := by decide +kernel
theorem dX10_fold_703 : decode cX10_fold 703 = .ok (.ireturn, 1) := by decide +kernel
theorem dX10_unfold_0 : decode cX10_unfold 0 = .ok (.aload_n 0, 1) := by decide +kernel
theorem dX10_unfold_1 : decode cX10_unfold 1 = .ok (.iconst 0, 1) := by decide +kernel
theorem dX10_unfold_2 : decode cX10_unfold 2 = .ok (.putfield 94, 3) := by decide +kernel
theorem dX10_unfold_5 : decode cX10_unfold 5 = .ok (.aload_n 0, 1) := by decide +kernel
theorem dX10_unfold_6 : decode cX10_unfold 6 = .ok (.getfield 111, 3) := by decide +kernel
theorem dX10_unfold_9 : decode cX10_unfold 9 = .ok (.ifCond .ne 6, 3) := by decide +kernel
theorem dX10_unfold_12 : decode cX10_unfold 12 = .ok (.bipush (-3), 2) := by decide +kernel
theorem dX10_unfold_14 : decode cX10_unfold 14 = .ok (.ireturn, 1) := by decide +kernel
theorem dX10_unfold_15 : decode cX10_unfold 15 = .ok (.aload_n 0, 1) := by decide +kernel
theorem dX10_unfold_16 : decode cX10_unfold 16 = .ok (.dup, 1) := by decide +kernel
theorem dX10_unfold_17 : decode cX10_unfold 17 = .ok (.getfield 111, 3) := by decide +kernel
theorem dX10_unfold_20 : decode cX10_unfold 20 = .ok (.iconst 1, 1) := by decide +kernel
theorem dX10_unfold_21 : decode cX10_unfold 21 = .ok (.isub, 1) := by decide +kernel
theorem dX10_unfold_22 : decode cX10_unfold 22 = .ok (.putfield 111, 3) := by decide +kernel
theorem dX10_unfold_25 : decode cX10_unfold 25 = .ok (.iconst 0, 1) := by decide +kernel
theorem dX10_unfold_26 : decode cX10_unfold 26 = .ok (.istore_n 1, 1) := by decide +kernel
theorem dX10_unfold_27 : decode cX10_unfold 27 = .ok (.iload_n 1, 1) := by decide +kernel
theorem dX10_unfold_28 : decode cX10_unfold 28 = .ok (.aload_n 0, 1) := by decide +kernel
theorem dX10_unfold_29 : decode cX10_unfold 29 = .ok (.invokevirtual 97, 3) := by decide +kernel
theorem dX10_unfold_32 : decode cX10_unfold 32 = .ok (.if_icmp .ge 113, 3) := by decide +kernel
theorem dX10_unfold_35 : decode cX10_unfold 35 = .ok (.sipush 144, 3) := by decide +kernel
theorem dX10_unfold_38 : decode cX10_unfold 38 = .ok (.aload_n 0, 1) := by decide +kernel
theorem dX10_unfold_39 : decode cX10_unfold 39 = .ok (.getfield 111, 3) := by decide +kernel
theorem dX10_unfold_42 : decode cX10_unfold 42 = .ok (.imul, 1) := by decide +kernel
theorem dX10_unfold_43 : decode cX10_unfold 43 = .ok (.iload_n 1, 1) := by decide +kernel
theorem dX10_unfold_44 : decode cX10_unfold 44 = .ok (.iadd, 1) := by decide +kernel
theorem dX10_unfold_45 : decode cX10_unfold 45 = .ok (.istore_n 2, 1) := by decide +kernel
theorem dX10_unfold_46 : decode cX10_unfold 46 = .ok (.aload_n 0, 1) := by decide +kernel
theorem dX10_unfold_47 : decode cX10_unfold 47 = .ok (.getfield 13, 3) := by decide +kernel
theorem dX10_unfold_50 : decode cX10_unfold 50 = .ok (.iload_n 1, 1) := by decide +kernel
theorem dX10_unfold_51 : decode cX10_unfold 51 = .ok (.aload_n 0, 1) := by decide +kernel
theorem dX10_unfold_52 : decode cX10_unfold 52 = .ok (.getfield 33, 3) := by decide +kernel
theorem dX10_unfold_55 : decode cX10_unfold 55 = .ok (.iload_n 2, 1) := by decide +kernel
theorem dX10_unfold_56 : decode cX10_unfold 56 = .ok (.iaload, 1) := by decide +kernel
theorem dX10_unfold_57 : decode cX10_unfold 57 = .ok (.iastore, 1) := by decide +kernel
theorem dX10_unfold_58 : decode cX10_unfold 58 = .ok (.aload_n 0, 1) := by decide +kernel
theorem dX10_unfold_59 : decode cX10_unfold 59 = .ok (.getfield 17, 3) := by decide +kernel
theorem dX10_unfold_62 : decode cX10_unfold 62 = .ok (.iload_n 1, 1) := by decide +kernel
theorem dX10_unfold_63 : decode cX10_unfold 63 = .ok (.aload_n 0, 1) := by decide +kernel
theorem dX10_unfold_64 : decode cX10_unfold 64 = .ok (.getfield 36, 3) := by decide +kernel
theorem dX10_unfold_67 : decode cX10_unfold 67 = .ok (.iload_n 2, 1) := by decide +kernel
theorem dX10_unfold_68 : decode cX10_unfold 68 = .ok (.iaload, 1) := by decide +kernel
theorem dX10_unfold_69 : decode cX10_unfold 69 = .ok (.iastore, 1) := by decide +kernel
theorem dX10_unfold_70 : decode cX10_unfold 70 = .ok (.aload_n 0, 1) := by decide +kernel
theorem dX10_unfold_71 : decode cX10_unfold 71 = .ok (.getfield 20, 3) := by decide +kernel
theorem dX10_unfold_74 : decode cX10_unfold 74 = .ok (.iload_n 1, 1) := by decide +kernel
theorem dX10_unfold_75 : decode cX10_unfold 75 = .ok (.aload_n 0, 1) := by decide +kernel
theorem dX10_unfold_76 : decode cX10_unfold 76 = .ok (.getfield 39, 3) := by decide +kernel
theorem dX10_unfold_79 : decode cX10_unfold 79 = .ok (.iload_n 2, 1) := by decide +kernel
theorem dX10_unfold_80 : decode cX10_unfold 80 = .ok (.iaload, 1) := by decide +kernel
theorem dX10_unfold_81 : decode cX10_unfold 81 = .ok (.iastore, 1) := by decide +kernel
theorem dX10_unfold_82 : decode cX10_unfold 82 = .ok (.aload_n 0, 1) := by decide +kernel
theorem dX10_unfold_83 : decode cX10_unfold 83 = .ok (.getfield 23, 3) := by decide +kernel
theorem dX10_unfold_86 : decode cX10_unfold 86 = .ok (.iload_n 1, 1) := by decide +kernel
theorem dX10_unfold_87 : decode cX10_unfold 87 = .ok (.aload_n 0, 1) := by decide +kernel
theorem dX10_unfold_88 : decode cX10_unfold 88 = .ok (.getfield 42, 3) := by decide +kernel
theorem dX10_unfold_91 : decode cX10_unfold 91 = .ok (.iload_n 2, 1) := by decide +kernel
theorem dX10_unfold_92 : decode cX10_unfold 92 = .ok (.iaload, 1) := by decide +kernel
theorem dX10_unfold_93 : decode cX10_unfold 93 = .ok (.iastore, 1) := by decide +kernel
theorem dX10_unfold_94 : decode cX10_unfold 94 = .ok (.aload_n 0, 1) := by decide +kernel
theorem dX10_unfold_95 : decode cX10_unfold 95 = .ok (.getfield 26, 3) := by decide +kernel
theorem dX10_unfold_98 : decode cX10_unfold 98 = .ok (.iload_n 1, 1) := by decide +kernel
theorem dX10_unfold_99 : decode cX10_unfold 99 = .ok (.aload_n 0, 1) := by decide +kernel
theorem dX10_unfold_100 : decode cX10_unfold 100 = .ok (.getfield 45, 3) := by decide +kernel
theorem dX10_unfold_103 : decode cX10_unfold 103 = .ok (.iload_n 2, 1) := by decide +kernel
theorem dX10_unfold_104 : decode cX10_unfold 104 = .ok (.baload, 1) := by decide +kernel
theorem dX10_unfold_105 : decode cX10_unfold 105 = .ok (.bastore, 1) := by decide +kernel
theorem dX10_unfold_106 : decode cX10_unfold 106 = .ok (.iconst 0, 1) := by decide +kernel
theorem dX10_unfold_107 : decode cX10_unfold 107 = .ok (.istore_n 3, 1) := by decide +kernel
theorem dX10_unfold_108 : decode cX10_unfold 108 = .ok (.iload_n 3, 1) := by decide +kernel
theorem dX10_unfold_109 : decode cX10_unfold 109 = .ok (.iconst 3, 1) := by decide +kernel
theorem dX10_unfold_110 : decode cX10_unfold 110 = .ok (.if_icmp .ge 29, 3) := by decide +kernel
theorem dX10_unfold_113 : decode cX10_unfold 113 = .ok (.aload_n 0, 1) := by decide +kernel
theorem dX10_unfold_114 : decode cX10_unfold 114 = .ok (.getfield 30, 3) := by decide +kernel
theorem dX10_unfold_117 : decode cX10_unfold 117 = .ok (.iconst 3, 1) := by decide +kernel
theorem dX10_unfold_118 : decode cX10_unfold 118 = .ok (.iload_n 1, 1) := by decide +kernel
theorem dX10_unfold_119 : decode cX10_unfold 119 = .ok (.imul, 1) := by decide +kernel
theorem dX10_unfold_120 : decode cX10_unfold 120 = .ok (.iload_n 3, 1) := by decide +kernel
theorem dX10_unfold_121 : decode cX10_unfold 121 = .ok (.iadd, 1) := by decide +kernel
theorem dX10_unfold_122 : decode cX10_unfold 122 = .ok (.aload_n 0, 1) := by decide +kernel
theorem dX10_unfold_123 : decode cX10_unfold 123 = .ok (.getfield 48, 3) := by decide +kernel
theorem dX10_unfold_126 : decode cX10_unfold 126 = .ok (.iconst 3, 1) := by decide +kernel
theorem dX10_unfold_127 : decode cX10_unfold 127 = .ok (.iload_n 2, 1) := by decide +kernel
theorem dX10_unfold_128 : decode cX10_unfold 128 = .ok (.imul, 1) := by decide +kernel
theorem dX10_unfold_129 : decode cX10_unfold 129 = .ok (.iload_n 3, 1) := by decide +kernel
theorem dX10_unfold_130 : decode cX10_unfold 130 = .ok (.iadd, 1) := by decide +kernel
theorem dX10_unfold_131 : decode cX10_unfold 131 = .ok (.iaload, 1) := by decide +kernel
theorem dX10_unfold_132 : decode cX10_unfold 132 = .ok (.iastore, 1) := by decide +kernel
theorem dX10_unfold_133 : decode cX10_unfold 133 = .ok (.iinc 3 1, 3) := by decide +kernel
theorem dX10_unfold_136 : decode cX10_unfold 136 = .ok (.goto (-28), 3) := by decide +kernel
theorem dX10_unfold_139 : decode cX10_unfold 139 = .ok (.iinc 1 1, 3) := by decide +kernel
theorem dX10_unfold_142 : decode cX10_unfold 142 = .ok (.goto (-115), 3) := by decide +kernel
theorem dX10_unfold_145 : decode cX10_unfold 145 = .ok (.aload_n 0, 1) := by decide +kernel
theorem dX10_unfold_146 : decode cX10_unfold 146 = .ok (.getfield 111, 3) := by decide +kernel
theorem dX10_unfold_149 : decode cX10_unfold 149 = .ok (.ireturn, 1) := by decide +kernel
theorem dX10_facet_0 : decode cX10_facet 0 = .ok (.aload_n 0, 1) := by decide +kernel
theorem dX10_facet_1 : decode cX10_facet 1 = .ok (.iconst 0, 1) := by decide +kernel
theorem dX10_facet_2 : decode cX10_facet 2 = .ok (.putfield 94, 3) := by decide +kernel
theorem dX10_facet_5 : decode cX10_facet 5 = .ok (.aload_n 0, 1) := by decide +kernel
theorem dX10_facet_6 : decode cX10_facet 6 = .ok (.iload_n 1, 1) := by decide +kernel
theorem dX10_facet_7 : decode cX10_facet 7 = .ok (.invokevirtual 160, 3) := by decide +kernel
theorem dX10_facet_10 : decode cX10_facet 10 = .ok (.ifCond .eq 5, 3) := by decide +kernel
theorem dX10_facet_13 : decode cX10_facet 13 = .ok (.iconst (-1), 1) := by decide +kernel
theorem dX10_facet_14 : decode cX10_facet 14 = .ok (.ireturn, 1) := by decide +kernel
theorem dX10_facet_15 : decode cX10_facet 15 = .ok (.iload_n 2, 1) := by decide +kernel
theorem dX10_facet_16 : decode cX10_facet 16 = .ok (.tableswitch 144 0 7 #[48, 55, 62, 69, 76, 91, 114, 129], 48) := by decide +kernel
theorem dX10_facet_64 : decode cX10_facet 64 = .ok (.aload_n 0, 1) := by decide +kernel
theorem dX10_facet_65 : decode cX10_facet 65 = .ok (.getfield 13, 3) := by decide +kernel
theorem dX10_facet_68 : decode cX10_facet 68 = .ok (.iload_n 1, 1) := by decide +kernel
theorem dX10_facet_69 : decode cX10_facet 69 = .ok (.iaload, 1) := by decide +kernel
theorem dX10_facet_70 : decode cX10_facet 70 = .ok (.ireturn, 1) := by decide +kernel
theorem dX10_facet_71 : decode cX10_facet 71 = .ok (.aload_n 0, 1) := by decide +kernel
theorem dX10_facet_72 : decode cX10_facet 72 = .ok (.getfield 17, 3) := by decide +kernel
theorem dX10_facet_75 : decode cX10_facet 75 = .ok (.iload_n 1, 1) := by decide +kernel
theorem dX10_facet_76 : decode cX10_facet 76 = .ok (.iaload, 1) := by decide +kernel
theorem dX10_facet_77 : decode cX10_facet 77 = .ok (.ireturn, 1) := by decide +kernel
theorem dX10_facet_78 : decode cX10_facet 78 = .ok (.aload_n 0, 1) := by decide +kernel
theorem dX10_facet_79 : decode cX10_facet 79 = .ok (.getfield 20, 3) := by decide +kernel
theorem dX10_facet_82 : decode cX10_facet 82 = .ok (.iload_n 1, 1) := by decide +kernel
theorem dX10_facet_83 : decode cX10_facet 83 = .ok (.iaload, 1) := by decide +kernel
theorem dX10_facet_84 : decode cX10_facet 84 = .ok (.ireturn, 1) := by decide +kernel
theorem dX10_facet_85 : decode cX10_facet 85 = .ok (.aload_n 0, 1) := by decide +kernel
theorem dX10_facet_86 : decode cX10_facet 86 = .ok (.getfield 23, 3) := by decide +kernel
theorem dX10_facet_89 : decode cX10_facet 89 = .ok (.iload_n 1, 1) := by decide +kernel
theorem dX10_facet_90 : decode cX10_facet 90 = .ok (.iaload, 1) := by decide +kernel
theorem dX10_facet_91 : decode cX10_facet 91 = .ok (.ireturn, 1) := by decide +kernel
theorem dX10_facet_92 : decode cX10_facet 92 = .ok (.aload_n 0, 1) := by decide +kernel
theorem dX10_facet_93 : decode cX10_facet 93 = .ok (.getfield 26, 3) := by decide +kernel
theorem dX10_facet_96 : decode cX10_facet 96 = .ok (.iload_n 1, 1) := by decide +kernel
theorem dX10_facet_97 : decode cX10_facet 97 = .ok (.baload, 1) := by decide +kernel
theorem dX10_facet_98 : decode cX10_facet 98 = .ok (.ifCond .eq 7, 3) := by decide +kernel
theorem dX10_facet_101 : decode cX10_facet 101 = .ok (.iconst 1, 1) := by decide +kernel
theorem dX10_facet_102 : decode cX10_facet 102 = .ok (.goto 4, 3) := by decide +kernel
theorem dX10_facet_105 : decode cX10_facet 105 = .ok (.iconst 0, 1) := by decide +kernel
theorem dX10_facet_106 : decode cX10_facet 106 = .ok (.ireturn, 1) := by decide +kernel
theorem dX10_facet_107 : decode cX10_facet 107 = .ok (.aload_n 0, 1) := by decide +kernel
theorem dX10_facet_108 : decode cX10_facet 108 = .ok (.aload_n 0, 1) := by decide +kernel
theorem dX10_facet_109 : decode cX10_facet 109 = .ok (.getfield 13, 3) := by decide +kernel
theorem dX10_facet_112 : decode cX10_facet 112 = .ok (.iload_n 1, 1) := by decide +kernel
theorem dX10_facet_113 : decode cX10_facet 113 = .ok (.iaload, 1) := by decide +kernel
theorem dX10_facet_114 : decode cX10_facet 114 = .ok (.aload_n 0, 1) := by decide +kernel
theorem dX10_facet_115 : decode cX10_facet 115 = .ok (.getfield 17, 3) := by decide +kernel
theorem dX10_facet_118 : decode cX10_facet 118 = .ok (.iload_n 1, 1) := by decide +kernel
theorem dX10_facet_119 : decode cX10_facet 119 = .ok (.iaload, 1) := by decide +kernel
theorem dX10_facet_120 : decode cX10_facet 120 = .ok (.aload_n 0, 1) := by decide +kernel
theorem dX10_facet_121 : decode cX10_facet 121 = .ok (.getfield 20, 3) := by decide +kernel
theorem dX10_facet_124 : decode cX10_facet 124 = .ok (.iload_n 1, 1) := by decide +kernel
theorem dX10_facet_125 : decode cX10_facet 125 = .ok (.iaload, 1) := by decide +kernel
theorem dX10_facet_126 : decode cX10_facet 126 = .ok (.invokevirtual 164, 3) := by decide +kernel
theorem dX10_facet_129 : decode cX10_facet 129 = .ok (.ireturn, 1) := by decide +kernel
theorem dX10_facet_130 : decode cX10_facet 130 = .ok (.aload_n 0, 1) := by decide +kernel
theorem dX10_facet_131 : decode cX10_facet 131 = .ok (.getfield 57, 3) := by decide +kernel
theorem dX10_facet_134 : decode cX10_facet 134 = .ok (.iload_n 1, 1) := by decide +kernel
theorem dX10_facet_135 : decode cX10_facet 135 = .ok (.baload, 1) := by decide +kernel
theorem dX10_facet_136 : decode cX10_facet 136 = .ok (.ifCond .eq 7, 3) := by decide +kernel
theorem dX10_facet_139 : decode cX10_facet 139 = .ok (.iconst 1, 1) := by decide +kernel
theorem dX10_facet_140 : decode cX10_facet 140 = .ok (.goto 4, 3) := by decide +kernel
theorem dX10_facet_143 : decode cX10_facet 143 = .ok (.iconst 0, 1) := by decide +kernel
theorem dX10_facet_144 : decode cX10_facet 144 = .ok (.ireturn, 1) := by decide +kernel
theorem dX10_facet_145 : decode cX10_facet 145 = .ok (.aload_n 0, 1) := by decide +kernel
theorem dX10_facet_146 : decode cX10_facet 146 = .ok (.getfield 60, 3) := by decide +kernel
theorem dX10_facet_149 : decode cX10_facet 149 = .ok (.iload_n 1, 1) := by decide +kernel
theorem dX10_facet_150 : decode cX10_facet 150 = .ok (.baload, 1) := by decide +kernel
theorem dX10_facet_151 : decode cX10_facet 151 = .ok (.ifCond .eq 7, 3) := by decide +kernel
theorem dX10_facet_154 : decode cX10_facet 154 = .ok (.iconst 1, 1) := by decide +kernel
theorem dX10_facet_155 : decode cX10_facet 155 = .ok (.goto 4, 3) := by decide +kernel
theorem dX10_facet_158 : decode cX10_facet 158 = .ok (.iconst 0, 1) := by decide +kernel
theorem dX10_facet_159 : decode cX10_facet 159 = .ok (.ireturn, 1) := by decide +kernel
theorem dX10_facet_160 : decode cX10_facet 160 = .ok (.bipush (-2), 2) := by decide +kernel
theorem dX10_facet_162 : decode cX10_facet 162 = .ok (.ireturn, 1) := by decide +kernel
theorem dX10_at_0 : decode cX10_at 0 = .ok (.aload_n 0, 1) := by decide +kernel
theorem dX10_at_1 : decode cX10_at 1 = .ok (.iconst 0, 1) := by decide +kernel
theorem dX10_at_2 : decode cX10_at 2 = .ok (.putfield 94, 3) := by decide +kernel
theorem dX10_at_5 : decode cX10_at 5 = .ok (.iload_n 3, 1) := by decide +kernel
theorem dX10_at_6 : decode cX10_at 6 = .ok (.i2l, 1) := by decide +kernel
theorem dX10_at_7 : decode cX10_at 7 = .ok (.lconst 0, 1) := by decide +kernel
theorem dX10_at_8 : decode cX10_at 8 = .ok (.ldc2_w 105, 3) := by decide +kernel
theorem dX10_at_11 : decode cX10_at 11 = .ok (.invokestatic 101, 3) := by decide +kernel
theorem dX10_at_14 : decode cX10_at 14 = .ok (.ifCond .ne 6, 3) := by decide +kernel
theorem dX10_at_17 : decode cX10_at 17 = .ok (.bipush (-2), 2) := by decide +kernel
theorem dX10_at_19 : decode cX10_at 19 = .ok (.ireturn, 1) := by decide +kernel
theorem dX10_at_20 : decode cX10_at 20 = .ok (.iconst 0, 1) := by decide +kernel
theorem dX10_at_21 : decode cX10_at 21 = .ok (.istore 5, 2) := by decide +kernel
theorem dX10_at_23 : decode cX10_at 23 = .ok (.iload 5, 2) := by decide +kernel
theorem dX10_at_25 : decode cX10_at 25 = .ok (.aload_n 0, 1) := by decide +kernel
theorem dX10_at_26 : decode cX10_at 26 = .ok (.invokevirtual 97, 3) := by decide +kernel
theorem dX10_at_29 : decode cX10_at 29 = .ok (.if_icmp .ge 36, 3) := by decide +kernel
theorem dX10_at_32 : decode cX10_at 32 = .ok (.aload_n 0, 1) := by decide +kernel
theorem dX10_at_33 : decode cX10_at 33 = .ok (.iload 5, 2) := by decide +kernel
theorem dX10_at_35 : decode cX10_at 35 = .ok (.iload_n 1, 1) := by decide +kernel
theorem dX10_at_36 : decode cX10_at 36 = .ok (.iload_n 2, 1) := by decide +kernel
theorem dX10_at_37 : decode cX10_at 37 = .ok (.iload_n 3, 1) := by decide +kernel
theorem dX10_at_38 : decode cX10_at 38 = .ok (.invokevirtual 131, 3) := by decide +kernel
theorem dX10_at_41 : decode cX10_at 41 = .ok (.ifCond .eq 18, 3) := by decide +kernel
theorem dX10_at_44 : decode cX10_at 44 = .ok (.aload_n 0, 1) := by decide +kernel
theorem dX10_at_45 : decode cX10_at 45 = .ok (.getfield 23, 3) := by decide +kernel
theorem dX10_at_48 : decode cX10_at 48 = .ok (.iload 5, 2) := by decide +kernel
theorem dX10_at_50 : decode cX10_at 50 = .ok (.iaload, 1) := by decide +kernel
theorem dX10_at_51 : decode cX10_at 51 = .ok (.iload 4, 2) := by decide +kernel
theorem dX10_at_53 : decode cX10_at 53 = .ok (.if_icmp .ne 6, 3) := by decide +kernel
theorem dX10_at_56 : decode cX10_at 56 = .ok (.iload 5, 2) := by decide +kernel
theorem dX10_at_58 : decode cX10_at 58 = .ok (.ireturn, 1) := by decide +kernel
theorem dX10_at_59 : decode cX10_at 59 = .ok (.iinc 5 1, 3) := by decide +kernel
theorem dX10_at_62 : decode cX10_at 62 = .ok (.goto (-39), 3) := by decide +kernel
theorem dX10_at_65 : decode cX10_at 65 = .ok (.ldc 135, 2) := by decide +kernel
theorem dX10_at_67 : decode cX10_at 67 = .ok (.ireturn, 1) := by decide +kernel
theorem dX10_places_0 : decode cX10_places 0 = .ok (.aload_n 0, 1) := by decide +kernel
theorem dX10_places_1 : decode cX10_places 1 = .ok (.iconst 0, 1) := by decide +kernel
theorem dX10_places_2 : decode cX10_places 2 = .ok (.putfield 94, 3) := by decide +kernel
theorem dX10_places_5 : decode cX10_places 5 = .ok (.aload_n 0, 1) := by decide +kernel
theorem dX10_places_6 : decode cX10_places 6 = .ok (.invokevirtual 157, 3) := by decide +kernel
theorem dX10_places_9 : decode cX10_places 9 = .ok (.ireturn, 1) := by decide +kernel
theorem dX10_deepest_0 : decode cX10_deepest 0 = .ok (.aload_n 0, 1) := by decide +kernel
theorem dX10_deepest_1 : decode cX10_deepest 1 = .ok (.iconst 0, 1) := by decide +kernel
theorem dX10_deepest_2 : decode cX10_deepest 2 = .ok (.putfield 94, 3) := by decide +kernel
theorem dX10_deepest_5 : decode cX10_deepest 5 = .ok (.iconst 0, 1) := by decide +kernel
theorem dX10_deepest_6 : decode cX10_deepest 6 = .ok (.istore_n 1, 1) := by decide +kernel
theorem dX10_deepest_7 : decode cX10_deepest 7 = .ok (.iconst 0, 1) := by decide +kernel
theorem dX10_deepest_8 : decode cX10_deepest 8 = .ok (.istore_n 2, 1) := by decide +kernel
theorem dX10_deepest_9 : decode cX10_deepest 9 = .ok (.iload_n 2, 1) := by decide +kernel
theorem dX10_deepest_10 : decode cX10_deepest 10 = .ok (.aload_n 0, 1) := by decide +kernel
theorem dX10_deepest_11 : decode cX10_deepest 11 = .ok (.invokevirtual 97, 3) := by decide +kernel
theorem dX10_deepest_14 : decode cX10_deepest 14 = .ok (.if_icmp .ge 34, 3) := by decide +kernel
theorem dX10_deepest_17 : decode cX10_deepest 17 = .ok (.aload_n 0, 1) := by decide +kernel
theorem dX10_deepest_18 : decode cX10_deepest 18 = .ok (.getfield 23, 3) := by decide +kernel
theorem dX10_deepest_21 : decode cX10_deepest 21 = .ok (.iload_n 2, 1) := by decide +kernel
theorem dX10_deepest_22 : decode cX10_deepest 22 = .ok (.iaload, 1) := by decide +kernel
theorem dX10_deepest_23 : decode cX10_deepest 23 = .ok (.iconst 1, 1) := by decide +kernel
theorem dX10_deepest_24 : decode cX10_deepest 24 = .ok (.iadd, 1) := by decide +kernel
theorem dX10_deepest_25 : decode cX10_deepest 25 = .ok (.iload_n 1, 1) := by decide +kernel
theorem dX10_deepest_26 : decode cX10_deepest 26 = .ok (.if_icmp .le 14, 3) := by decide +kernel
theorem dX10_deepest_29 : decode cX10_deepest 29 = .ok (.aload_n 0, 1) := by decide +kernel
theorem dX10_deepest_30 : decode cX10_deepest 30 = .ok (.getfield 23, 3) := by decide +kernel
theorem dX10_deepest_33 : decode cX10_deepest 33 = .ok (.iload_n 2, 1) := by decide +kernel
theorem dX10_deepest_34 : decode cX10_deepest 34 = .ok (.iaload, 1) := by decide +kernel
theorem dX10_deepest_35 : decode cX10_deepest 35 = .ok (.iconst 1, 1) := by decide +kernel
theorem dX10_deepest_36 : decode cX10_deepest 36 = .ok (.iadd, 1) := by decide +kernel
theorem dX10_deepest_37 : decode cX10_deepest 37 = .ok (.goto 4, 3) := by decide +kernel
theorem dX10_deepest_40 : decode cX10_deepest 40 = .ok (.iload_n 1, 1) := by decide +kernel
theorem dX10_deepest_41 : decode cX10_deepest 41 = .ok (.istore_n 1, 1) := by decide +kernel
theorem dX10_deepest_42 : decode cX10_deepest 42 = .ok (.iinc 2 1, 3) := by decide +kernel
theorem dX10_deepest_45 : decode cX10_deepest 45 = .ok (.goto (-36), 3) := by decide +kernel
theorem dX10_deepest_48 : decode cX10_deepest 48 = .ok (.iload_n 1, 1) := by decide +kernel
theorem dX10_deepest_49 : decode cX10_deepest 49 = .ok (.ireturn, 1) := by decide +kernel
theorem dX10_reach_0 : decode cX10_reach 0 = .ok (.aload_n 0, 1) := by decide +kernel
theorem dX10_reach_1 : decode cX10_reach 1 = .ok (.iconst 0, 1) := by decide +kernel
theorem dX10_reach_2 : decode cX10_reach 2 = .ok (.putfield 94, 3) := by decide +kernel
theorem dX10_reach_5 : decode cX10_reach 5 = .ok (.iload_n 1, 1) := by decide +kernel
theorem dX10_reach_6 : decode cX10_reach 6 = .ok (.i2l, 1) := by decide +kernel
theorem dX10_reach_7 : decode cX10_reach 7 = .ok (.lconst 0, 1) := by decide +kernel
theorem dX10_reach_8 : decode cX10_reach 8 = .ok (.ldc2_w 105, 3) := by decide +kernel
theorem dX10_reach_11 : decode cX10_reach 11 = .ok (.invokestatic 101, 3) := by decide +kernel
theorem dX10_reach_14 : decode cX10_reach 14 = .ok (.ifCond .ne 6, 3) := by decide +kernel
theorem dX10_reach_17 : decode cX10_reach 17 = .ok (.bipush (-2), 2) := by decide +kernel
theorem dX10_reach_19 : decode cX10_reach 19 = .ok (.ireturn, 1) := by decide +kernel
theorem dX10_reach_20 : decode cX10_reach 20 = .ok (.iload_n 1, 1) := by decide +kernel
theorem dX10_reach_21 : decode cX10_reach 21 = .ok (.iconst 2, 1) := by decide +kernel
theorem dX10_reach_22 : decode cX10_reach 22 = .ok (.if_icmp .ge 12, 3) := by decide +kernel
theorem dX10_reach_25 : decode cX10_reach 25 = .ok (.aload_n 0, 1) := by decide +kernel
theorem dX10_reach_26 : decode cX10_reach 26 = .ok (.getfield 13, 3) := by decide +kernel
theorem dX10_reach_29 : decode cX10_reach 29 = .ok (.iconst 0, 1) := by decide +kernel
theorem dX10_reach_30 : decode cX10_reach 30 = .ok (.iaload, 1) := by decide +kernel
theorem dX10_reach_31 : decode cX10_reach 31 = .ok (.goto 9, 3) := by decide +kernel
theorem dX10_reach_34 : decode cX10_reach 34 = .ok (.aload_n 0, 1) := by decide +kernel
theorem dX10_reach_35 : decode cX10_reach 35 = .ok (.getfield 17, 3) := by decide +kernel
theorem dX10_reach_38 : decode cX10_reach 38 = .ok (.iconst 0, 1) := by decide +kernel
theorem dX10_reach_39 : decode cX10_reach 39 = .ok (.iaload, 1) := by decide +kernel
theorem dX10_reach_40 : decode cX10_reach 40 = .ok (.istore_n 2, 1) := by decide +kernel
theorem dX10_reach_41 : decode cX10_reach 41 = .ok (.iconst 0, 1) := by decide +kernel
theorem dX10_reach_42 : decode cX10_reach 42 = .ok (.istore_n 3, 1) := by decide +kernel
theorem dX10_reach_43 : decode cX10_reach 43 = .ok (.iload_n 3, 1) := by decide +kernel
theorem dX10_reach_44 : decode cX10_reach 44 = .ok (.aload_n 0, 1) := by decide +kernel
theorem dX10_reach_45 : decode cX10_reach 45 = .ok (.invokevirtual 97, 3) := by decide +kernel
theorem dX10_reach_48 : decode cX10_reach 48 = .ok (.if_icmp .ge 65, 3) := by decide +kernel
theorem dX10_reach_51 : decode cX10_reach 51 = .ok (.iload_n 1, 1) := by decide +kernel
theorem dX10_reach_52 : decode cX10_reach 52 = .ok (.iconst 2, 1) := by decide +kernel
theorem dX10_reach_53 : decode cX10_reach 53 = .ok (.if_icmp .ge 12, 3) := by decide +kernel
theorem dX10_reach_56 : decode cX10_reach 56 = .ok (.aload_n 0, 1) := by decide +kernel
theorem dX10_reach_57 : decode cX10_reach 57 = .ok (.getfield 13, 3) := by decide +kernel
theorem dX10_reach_60 : decode cX10_reach 60 = .ok (.iload_n 3, 1) := by decide +kernel
theorem dX10_reach_61 : decode cX10_reach 61 = .ok (.iaload, 1) := by decide +kernel
theorem dX10_reach_62 : decode cX10_reach 62 = .ok (.goto 9, 3) := by decide +kernel
theorem dX10_reach_65 : decode cX10_reach 65 = .ok (.aload_n 0, 1) := by decide +kernel
theorem dX10_reach_66 : decode cX10_reach 66 = .ok (.getfield 17, 3) := by decide +kernel
theorem dX10_reach_69 : decode cX10_reach 69 = .ok (.iload_n 3, 1) := by decide +kernel
theorem dX10_reach_70 : decode cX10_reach 70 = .ok (.iaload, 1) := by decide +kernel
theorem dX10_reach_71 : decode cX10_reach 71 = .ok (.istore 4, 2) := by decide +kernel
theorem dX10_reach_73 : decode cX10_reach 73 = .ok (.iload_n 1, 1) := by decide +kernel
theorem dX10_reach_74 : decode cX10_reach 74 = .ok (.iconst 2, 1) := by decide +kernel
theorem dX10_reach_75 : decode cX10_reach 75 = .ok (.irem, 1) := by decide +kernel
theorem dX10_reach_76 : decode cX10_reach 76 = .ok (.ifCond .ne 18, 3) := by decide +kernel
theorem dX10_reach_79 : decode cX10_reach 79 = .ok (.iload 4, 2) := by decide +kernel
theorem dX10_reach_81 : decode cX10_reach 81 = .ok (.iload_n 2, 1) := by decide +kernel
theorem dX10_reach_82 : decode cX10_reach 82 = .ok (.if_icmp .ge 8, 3) := by decide +kernel
theorem dX10_reach_85 : decode cX10_reach 85 = .ok (.iload 4, 2) := by decide +kernel
theorem dX10_reach_87 : decode cX10_reach 87 = .ok (.goto 19, 3) := by decide +kernel
theorem dX10_reach_90 : decode cX10_reach 90 = .ok (.iload_n 2, 1) := by decide +kernel
theorem dX10_reach_91 : decode cX10_reach 91 = .ok (.goto 15, 3) := by decide +kernel
theorem dX10_reach_94 : decode cX10_reach 94 = .ok (.iload 4, 2) := by decide +kernel
theorem dX10_reach_96 : decode cX10_reach 96 = .ok (.iload_n 2, 1) := by decide +kernel
theorem dX10_reach_97 : decode cX10_reach 97 = .ok (.if_icmp .le 8, 3) := by decide +kernel
theorem dX10_reach_100 : decode cX10_reach 100 = .ok (.iload 4, 2) := by decide +kernel
theorem dX10_reach_102 : decode cX10_reach 102 = .ok (.goto 4, 3) := by decide +kernel
theorem dX10_reach_105 : decode cX10_reach 105 = .ok (.iload_n 2, 1) := by decide +kernel
theorem dX10_reach_106 : decode cX10_reach 106 = .ok (.istore_n 2, 1) := by decide +kernel
theorem dX10_reach_107 : decode cX10_reach 107 = .ok (.iinc 3 1, 3) := by decide +kernel
theorem dX10_reach_110 : decode cX10_reach 110 = .ok (.goto (-67), 3) := by decide +kernel
theorem dX10_reach_113 : decode cX10_reach 113 = .ok (.iload_n 2, 1) := by decide +kernel
theorem dX10_reach_114 : decode cX10_reach 114 = .ok (.ireturn, 1) := by decide +kernel
theorem dX10_folds_0 : decode cX10_folds 0 = .ok (.aload_n 0, 1) := by decide +kernel
theorem dX10_folds_1 : decode cX10_folds 1 = .ok (.iconst 0, 1) := by decide +kernel
theorem dX10_folds_2 : decode cX10_folds 2 = .ok (.putfield 94, 3) := by decide +kernel
theorem dX10_folds_5 : decode cX10_folds 5 = .ok (.aload_n 0, 1) := by decide +kernel
theorem dX10_folds_6 : decode cX10_folds 6 = .ok (.getfield 111, 3) := by decide +kernel
theorem dX10_folds_9 : decode cX10_folds 9 = .ok (.ireturn, 1) := by decide +kernel
theorem dX10_crease_0 : decode cX10_crease 0 = .ok (.aload_n 0, 1) := by decide +kernel
theorem dX10_crease_1 : decode cX10_crease 1 = .ok (.iconst 0, 1) := by decide +kernel
theorem dX10_crease_2 : decode cX10_crease 2 = .ok (.putfield 94, 3) := by decide +kernel
theorem dX10_crease_5 : decode cX10_crease 5 = .ok (.aload_n 0, 1) := by decide +kernel
theorem dX10_crease_6 : decode cX10_crease 6 = .ok (.iload_n 1, 1) := by decide +kernel
theorem dX10_crease_7 : decode cX10_crease 7 = .ok (.invokevirtual 160, 3) := by decide +kernel
theorem dX10_crease_10 : decode cX10_crease 10 = .ok (.ifCond .eq 5, 3) := by decide +kernel
theorem dX10_crease_13 : decode cX10_crease 13 = .ok (.iconst (-1), 1) := by decide +kernel
theorem dX10_crease_14 : decode cX10_crease 14 = .ok (.ireturn, 1) := by decide +kernel
theorem dX10_crease_15 : decode cX10_crease 15 = .ok (.iload_n 2, 1) := by decide +kernel
theorem dX10_crease_16 : decode cX10_crease 16 = .ok (.i2l, 1) := by decide +kernel
theorem dX10_crease_17 : decode cX10_crease 17 = .ok (.lconst 0, 1) := by decide +kernel
theorem dX10_crease_18 : decode cX10_crease 18 = .ok (.ldc2_w 168, 3) := by decide +kernel
theorem dX10_crease_21 : decode cX10_crease 21 = .ok (.invokestatic 101, 3) := by decide +kernel
theorem dX10_crease_24 : decode cX10_crease 24 = .ok (.ifCond .ne 6, 3) := by decide +kernel
theorem dX10_crease_27 : decode cX10_crease 27 = .ok (.bipush (-2), 2) := by decide +kernel
theorem dX10_crease_29 : decode cX10_crease 29 = .ok (.ireturn, 1) := by decide +kernel
theorem dX10_crease_30 : decode cX10_crease 30 = .ok (.aload_n 0, 1) := by decide +kernel
theorem dX10_crease_31 : decode cX10_crease 31 = .ok (.iload_n 1, 1) := by decide +kernel
theorem dX10_crease_32 : decode cX10_crease 32 = .ok (.iload_n 2, 1) := by decide +kernel
theorem dX10_crease_33 : decode cX10_crease 33 = .ok (.invokevirtual 149, 3) := by decide +kernel
theorem dX10_crease_36 : decode cX10_crease 36 = .ok (.ldc 135, 2) := by decide +kernel
theorem dX10_crease_38 : decode cX10_crease 38 = .ok (.if_icmp .ne 8, 3) := by decide +kernel
theorem dX10_crease_41 : decode cX10_crease 41 = .ok (.ldc 135, 2) := by decide +kernel
theorem dX10_crease_43 : decode cX10_crease 43 = .ok (.goto 13, 3) := by decide +kernel
theorem dX10_crease_46 : decode cX10_crease 46 = .ok (.aload_n 0, 1) := by decide +kernel
theorem dX10_crease_47 : decode cX10_crease 47 = .ok (.getfield 30, 3) := by decide +kernel
theorem dX10_crease_50 : decode cX10_crease 50 = .ok (.iconst 3, 1) := by decide +kernel
theorem dX10_crease_51 : decode cX10_crease 51 = .ok (.iload_n 1, 1) := by decide +kernel
theorem dX10_crease_52 : decode cX10_crease 52 = .ok (.imul, 1) := by decide +kernel
theorem dX10_crease_53 : decode cX10_crease 53 = .ok (.iload_n 2, 1) := by decide +kernel
theorem dX10_crease_54 : decode cX10_crease 54 = .ok (.iadd, 1) := by decide +kernel
theorem dX10_crease_55 : decode cX10_crease 55 = .ok (.iaload, 1) := by decide +kernel
theorem dX10_crease_56 : decode cX10_crease 56 = .ok (.ireturn, 1) := by decide +kernel
theorem dX10_neighbour_0 : decode cX10_neighbour 0 = .ok (.aload_n 0, 1) := by decide +kernel
theorem dX10_neighbour_1 : decode cX10_neighbour 1 = .ok (.iconst 0, 1) := by decide +kernel
theorem dX10_neighbour_2 : decode cX10_neighbour 2 = .ok (.putfield 94, 3) := by decide +kernel
theorem dX10_neighbour_5 : decode cX10_neighbour 5 = .ok (.aload_n 0, 1) := by decide +kernel
theorem dX10_neighbour_6 : decode cX10_neighbour 6 = .ok (.iload_n 1, 1) := by decide +kernel
theorem dX10_neighbour_7 : decode cX10_neighbour 7 = .ok (.invokevirtual 160, 3) := by decide +kernel
theorem dX10_neighbour_10 : decode cX10_neighbour 10 = .ok (.ifCond .eq 5, 3) := by decide +kernel
theorem dX10_neighbour_13 : decode cX10_neighbour 13 = .ok (.iconst (-1), 1) := by decide +kernel
theorem dX10_neighbour_14 : decode cX10_neighbour 14 = .ok (.ireturn, 1) := by decide +kernel
theorem dX10_neighbour_15 : decode cX10_neighbour 15 = .ok (.iload_n 2, 1) := by decide +kernel
theorem dX10_neighbour_16 : decode cX10_neighbour 16 = .ok (.i2l, 1) := by decide +kernel
theorem dX10_neighbour_17 : decode cX10_neighbour 17 = .ok (.lconst 0, 1) := by decide +kernel
theorem dX10_neighbour_18 : decode cX10_neighbour 18 = .ok (.ldc2_w 168, 3) := by decide +kernel
theorem dX10_neighbour_21 : decode cX10_neighbour 21 = .ok (.invokestatic 101, 3) := by decide +kernel
theorem dX10_neighbour_24 : decode cX10_neighbour 24 = .ok (.ifCond .eq 12, 3) := by decide +kernel
theorem dX10_neighbour_27 : decode cX10_neighbour 27 = .ok (.aload_n 0, 1) := by decide +kernel
theorem dX10_neighbour_28 : decode cX10_neighbour 28 = .ok (.iload_n 1, 1) := by decide +kernel
theorem dX10_neighbour_29 : decode cX10_neighbour 29 = .ok (.iload_n 2, 1) := by decide +kernel
theorem dX10_neighbour_30 : decode cX10_neighbour 30 = .ok (.invokevirtual 149, 3) := by decide +kernel
theorem dX10_neighbour_33 : decode cX10_neighbour 33 = .ok (.goto 5, 3) := by decide +kernel
theorem dX10_neighbour_36 : decode cX10_neighbour 36 = .ok (.bipush (-2), 2) := by decide +kernel
theorem dX10_neighbour_38 : decode cX10_neighbour 38 = .ok (.ireturn, 1) := by decide +kernel
theorem dX10_creases_0 : decode cX10_creases 0 = .ok (.aload_n 0, 1) := by decide +kernel
theorem dX10_creases_1 : decode cX10_creases 1 = .ok (.iconst 0, 1) := by decide +kernel
theorem dX10_creases_2 : decode cX10_creases 2 = .ok (.putfield 94, 3) := by decide +kernel
theorem dX10_creases_5 : decode cX10_creases 5 = .ok (.iconst 0, 1) := by decide +kernel
theorem dX10_creases_6 : decode cX10_creases 6 = .ok (.istore_n 2, 1) := by decide +kernel
theorem dX10_creases_7 : decode cX10_creases 7 = .ok (.iconst 0, 1) := by decide +kernel
theorem dX10_creases_8 : decode cX10_creases 8 = .ok (.istore_n 3, 1) := by decide +kernel
theorem dX10_creases_9 : decode cX10_creases 9 = .ok (.iload_n 3, 1) := by decide +kernel
theorem dX10_creases_10 : decode cX10_creases 10 = .ok (.aload_n 0, 1) := by decide +kernel
theorem dX10_creases_11 : decode cX10_creases 11 = .ok (.invokevirtual 97, 3) := by decide +kernel
theorem dX10_creases_14 : decode cX10_creases 14 = .ok (.if_icmp .ge 77, 3) := by decide +kernel
theorem dX10_creases_17 : decode cX10_creases 17 = .ok (.iconst 0, 1) := by decide +kernel
theorem dX10_creases_18 : decode cX10_creases 18 = .ok (.istore 4, 2) := by decide +kernel
theorem dX10_creases_20 : decode cX10_creases 20 = .ok (.iload 4, 2) := by decide +kernel
theorem dX10_creases_22 : decode cX10_creases 22 = .ok (.iconst 3, 1) := by decide +kernel
theorem dX10_creases_23 : decode cX10_creases 23 = .ok (.if_icmp .ge 62, 3) := by decide +kernel
theorem dX10_creases_26 : decode cX10_creases 26 = .ok (.aload_n 0, 1) := by decide +kernel
theorem dX10_creases_27 : decode cX10_creases 27 = .ok (.iload_n 3, 1) := by decide +kernel
theorem dX10_creases_28 : decode cX10_creases 28 = .ok (.iload 4, 2) := by decide +kernel
theorem dX10_creases_30 : decode cX10_creases 30 = .ok (.invokevirtual 149, 3) := by decide +kernel
theorem dX10_creases_33 : decode cX10_creases 33 = .ok (.istore 5, 2) := by decide +kernel
theorem dX10_creases_35 : decode cX10_creases 35 = .ok (.iload_n 2, 1) := by decide +kernel
theorem dX10_creases_36 : decode cX10_creases 36 = .ok (.iload 5, 2) := by decide +kernel
theorem dX10_creases_38 : decode cX10_creases 38 = .ok (.ldc 135, 2) := by decide +kernel
theorem dX10_creases_40 : decode cX10_creases 40 = .ok (.if_icmp .eq 36, 3) := by decide +kernel
theorem dX10_creases_43 : decode cX10_creases 43 = .ok (.iload_n 3, 1) := by decide +kernel
theorem dX10_creases_44 : decode cX10_creases 44 = .ok (.iload 5, 2) := by decide +kernel
theorem dX10_creases_46 : decode cX10_creases 46 = .ok (.if_icmp .ge 30, 3) := by decide +kernel
theorem dX10_creases_49 : decode cX10_creases 49 = .ok (.aload_n 0, 1) := by decide +kernel
theorem dX10_creases_50 : decode cX10_creases 50 = .ok (.getfield 30, 3) := by decide +kernel
theorem dX10_creases_53 : decode cX10_creases 53 = .ok (.iconst 3, 1) := by decide +kernel
theorem dX10_creases_54 : decode cX10_creases 54 = .ok (.iload_n 3, 1) := by decide +kernel
theorem dX10_creases_55 : decode cX10_creases 55 = .ok (.imul, 1) := by decide +kernel
theorem dX10_creases_56 : decode cX10_creases 56 = .ok (.iload 4, 2) := by decide +kernel
theorem dX10_creases_58 : decode cX10_creases 58 = .ok (.iadd, 1) := by decide +kernel
theorem dX10_creases_59 : decode cX10_creases 59 = .ok (.iaload, 1) := by decide +kernel
theorem dX10_creases_60 : decode cX10_creases 60 = .ok (.iload_n 1, 1) := by decide +kernel
theorem dX10_creases_61 : decode cX10_creases 61 = .ok (.ifCond .eq 7, 3) := by decide +kernel
theorem dX10_creases_64 : decode cX10_creases 64 = .ok (.iconst 2, 1) := by decide +kernel
theorem dX10_creases_65 : decode cX10_creases 65 = .ok (.goto 4, 3) := by decide +kernel
theorem dX10_creases_68 : decode cX10_creases 68 = .ok (.iconst 1, 1) := by decide +kernel
theorem dX10_creases_69 : decode cX10_creases 69 = .ok (.if_icmp .ne 7, 3) := by decide +kernel
theorem dX10_creases_72 : decode cX10_creases 72 = .ok (.iconst 1, 1) := by decide +kernel
theorem dX10_creases_73 : decode cX10_creases 73 = .ok (.goto 4, 3) := by decide +kernel
theorem dX10_creases_76 : decode cX10_creases 76 = .ok (.iconst 0, 1) := by decide +kernel
theorem dX10_creases_77 : decode cX10_creases 77 = .ok (.iadd, 1) := by decide +kernel
theorem dX10_creases_78 : decode cX10_creases 78 = .ok (.istore_n 2, 1) := by decide +kernel
theorem dX10_creases_79 : decode cX10_creases 79 = .ok (.iinc 4 1, 3) := by decide +kernel
theorem dX10_creases_82 : decode cX10_creases 82 = .ok (.goto (-62), 3) := by decide +kernel
theorem dX10_creases_85 : decode cX10_creases 85 = .ok (.iinc 3 1, 3) := by decide +kernel
theorem dX10_creases_88 : decode cX10_creases 88 = .ok (.goto (-79), 3) := by decide +kernel
theorem dX10_creases_91 : decode cX10_creases 91 = .ok (.iload_n 2, 1) := by decide +kernel
theorem dX10_creases_92 : decode cX10_creases 92 = .ok (.ireturn, 1) := by decide +kernel
theorem dX10_slant_0 : decode cX10_slant 0 = .ok (.iload_n 1, 1) := by decide +kernel
theorem dX10_slant_1 : decode cX10_slant 1 = .ok (.i2l, 1) := by decide +kernel
theorem dX10_slant_2 : decode cX10_slant 2 = .ok (.lconst 0, 1) := by decide +kernel
theorem dX10_slant_3 : decode cX10_slant 3 = .ok (.aload_n 0, 1) := by decide +kernel
theorem dX10_slant_4 : decode cX10_slant 4 = .ok (.getfield 7, 3) := by decide +kernel
theorem dX10_slant_7 : decode cX10_slant 7 = .ok (.iconst 1, 1) := by decide +kernel
theorem dX10_slant_8 : decode cX10_slant 8 = .ok (.isub, 1) := by decide +kernel
theorem dX10_slant_9 : decode cX10_slant 9 = .ok (.i2l, 1) := by decide +kernel
theorem dX10_slant_10 : decode cX10_slant 10 = .ok (.invokestatic 101, 3) := by decide +kernel
theorem dX10_slant_13 : decode cX10_slant 13 = .ok (.ifCond .eq 43, 3) := by decide +kernel
theorem dX10_slant_16 : decode cX10_slant 16 = .ok (.iload_n 2, 1) := by decide +kernel
theorem dX10_slant_17 : decode cX10_slant 17 = .ok (.i2l, 1) := by decide +kernel
theorem dX10_slant_18 : decode cX10_slant 18 = .ok (.lconst 0, 1) := by decide +kernel
theorem dX10_slant_19 : decode cX10_slant 19 = .ok (.aload_n 0, 1) := by decide +kernel
theorem dX10_slant_20 : decode cX10_slant 20 = .ok (.getfield 7, 3) := by decide +kernel
theorem dX10_slant_23 : decode cX10_slant 23 = .ok (.iconst 1, 1) := by decide +kernel
theorem dX10_slant_24 : decode cX10_slant 24 = .ok (.isub, 1) := by decide +kernel
theorem dX10_slant_25 : decode cX10_slant 25 = .ok (.i2l, 1) := by decide +kernel
theorem dX10_slant_26 : decode cX10_slant 26 = .ok (.invokestatic 101, 3) := by decide +kernel
theorem dX10_slant_29 : decode cX10_slant 29 = .ok (.ifCond .eq 27, 3) := by decide +kernel
theorem dX10_slant_32 : decode cX10_slant 32 = .ok (.aload_n 0, 1) := by decide +kernel
theorem dX10_slant_33 : decode cX10_slant 33 = .ok (.getfield 30, 3) := by decide +kernel
theorem dX10_slant_36 : decode cX10_slant 36 = .ok (.iconst 3, 1) := by decide +kernel
theorem dX10_slant_37 : decode cX10_slant 37 = .ok (.iconst 4, 1) := by decide +kernel
theorem dX10_slant_38 : decode cX10_slant 38 = .ok (.iload_n 2, 1) := by decide +kernel
theorem dX10_slant_39 : decode cX10_slant 39 = .ok (.aload_n 0, 1) := by decide +kernel
theorem dX10_slant_40 : decode cX10_slant 40 = .ok (.getfield 7, 3) := by decide +kernel
theorem dX10_slant_43 : decode cX10_slant 43 = .ok (.imul, 1) := by decide +kernel
theorem dX10_slant_44 : decode cX10_slant 44 = .ok (.iload_n 1, 1) := by decide +kernel
theorem dX10_slant_45 : decode cX10_slant 45 = .ok (.iadd, 1) := by decide +kernel
theorem dX10_slant_46 : decode cX10_slant 46 = .ok (.imul, 1) := by decide +kernel
theorem dX10_slant_47 : decode cX10_slant 47 = .ok (.iload_n 3, 1) := by decide +kernel
theorem dX10_slant_48 : decode cX10_slant 48 = .ok (.iadd, 1) := by decide +kernel
theorem dX10_slant_49 : decode cX10_slant 49 = .ok (.imul, 1) := by decide +kernel
theorem dX10_slant_50 : decode cX10_slant 50 = .ok (.iconst 1, 1) := by decide +kernel
theorem dX10_slant_51 : decode cX10_slant 51 = .ok (.iadd, 1) := by decide +kernel
theorem dX10_slant_52 : decode cX10_slant 52 = .ok (.iaload, 1) := by decide +kernel
theorem dX10_slant_53 : decode cX10_slant 53 = .ok (.goto 4, 3) := by decide +kernel
theorem dX10_slant_56 : decode cX10_slant 56 = .ok (.iconst 0, 1) := by decide +kernel
theorem dX10_slant_57 : decode cX10_slant 57 = .ok (.ireturn, 1) := by decide +kernel
theorem dX10_outer_0 : decode cX10_outer 0 = .ok (.iload_n 1, 1) := by decide +kernel
theorem dX10_outer_1 : decode cX10_outer 1 = .ok (.i2l, 1) := by decide +kernel
theorem dX10_outer_2 : decode cX10_outer 2 = .ok (.lconst 0, 1) := by decide +kernel
theorem dX10_outer_3 : decode cX10_outer 3 = .ok (.aload_n 0, 1) := by decide +kernel
theorem dX10_outer_4 : decode cX10_outer 4 = .ok (.getfield 7, 3) := by decide +kernel
theorem dX10_outer_7 : decode cX10_outer 7 = .ok (.iconst 1, 1) := by decide +kernel
theorem dX10_outer_8 : decode cX10_outer 8 = .ok (.isub, 1) := by decide +kernel
theorem dX10_outer_9 : decode cX10_outer 9 = .ok (.i2l, 1) := by decide +kernel
theorem dX10_outer_10 : decode cX10_outer 10 = .ok (.invokestatic 101, 3) := by decide +kernel
theorem dX10_outer_13 : decode cX10_outer 13 = .ok (.ifCond .eq 63, 3) := by decide +kernel
theorem dX10_outer_16 : decode cX10_outer 16 = .ok (.iload_n 2, 1) := by decide +kernel
theorem dX10_outer_17 : decode cX10_outer 17 = .ok (.i2l, 1) := by decide +kernel
theorem dX10_outer_18 : decode cX10_outer 18 = .ok (.lconst 0, 1) := by decide +kernel
theorem dX10_outer_19 : decode cX10_outer 19 = .ok (.aload_n 0, 1) := by decide +kernel
theorem dX10_outer_20 : decode cX10_outer 20 = .ok (.getfield 7, 3) := by decide +kernel
theorem dX10_outer_23 : decode cX10_outer 23 = .ok (.iconst 1, 1) := by decide +kernel
theorem dX10_outer_24 : decode cX10_outer 24 = .ok (.isub, 1) := by decide +kernel
theorem dX10_outer_25 : decode cX10_outer 25 = .ok (.i2l, 1) := by decide +kernel
theorem dX10_outer_26 : decode cX10_outer 26 = .ok (.invokestatic 101, 3) := by decide +kernel
theorem dX10_outer_29 : decode cX10_outer 29 = .ok (.ifCond .eq 47, 3) := by decide +kernel
theorem dX10_outer_32 : decode cX10_outer 32 = .ok (.aload_n 0, 1) := by decide +kernel
theorem dX10_outer_33 : decode cX10_outer 33 = .ok (.iconst 4, 1) := by decide +kernel
theorem dX10_outer_34 : decode cX10_outer 34 = .ok (.iload_n 2, 1) := by decide +kernel
theorem dX10_outer_35 : decode cX10_outer 35 = .ok (.aload_n 0, 1) := by decide +kernel
theorem dX10_outer_36 : decode cX10_outer 36 = .ok (.getfield 7, 3) := by decide +kernel
theorem dX10_outer_39 : decode cX10_outer 39 = .ok (.imul, 1) := by decide +kernel
theorem dX10_outer_40 : decode cX10_outer 40 = .ok (.iload_n 1, 1) := by decide +kernel
theorem dX10_outer_41 : decode cX10_outer 41 = .ok (.iadd, 1) := by decide +kernel
theorem dX10_outer_42 : decode cX10_outer 42 = .ok (.imul, 1) := by decide +kernel
theorem dX10_outer_43 : decode cX10_outer 43 = .ok (.iload_n 3, 1) := by decide +kernel
theorem dX10_outer_44 : decode cX10_outer 44 = .ok (.iadd, 1) := by decide +kernel
theorem dX10_outer_45 : decode cX10_outer 45 = .ok (.iconst 0, 1) := by decide +kernel
theorem dX10_outer_46 : decode cX10_outer 46 = .ok (.invokevirtual 149, 3) := by decide +kernel
theorem dX10_outer_49 : decode cX10_outer 49 = .ok (.ldc 135, 2) := by decide +kernel
theorem dX10_outer_51 : decode cX10_outer 51 = .ok (.if_icmp .eq 25, 3) := by decide +kernel
theorem dX10_outer_54 : decode cX10_outer 54 = .ok (.aload_n 0, 1) := by decide +kernel
theorem dX10_outer_55 : decode cX10_outer 55 = .ok (.getfield 30, 3) := by decide +kernel
theorem dX10_outer_58 : decode cX10_outer 58 = .ok (.iconst 3, 1) := by decide +kernel
theorem dX10_outer_59 : decode cX10_outer 59 = .ok (.iconst 4, 1) := by decide +kernel
theorem dX10_outer_60 : decode cX10_outer 60 = .ok (.iload_n 2, 1) := by decide +kernel
theorem dX10_outer_61 : decode cX10_outer 61 = .ok (.aload_n 0, 1) := by decide +kernel
theorem dX10_outer_62 : decode cX10_outer 62 = .ok (.getfield 7, 3) := by decide +kernel
theorem dX10_outer_65 : decode cX10_outer 65 = .ok (.imul, 1) := by decide +kernel
theorem dX10_outer_66 : decode cX10_outer 66 = .ok (.iload_n 1, 1) := by decide +kernel
theorem dX10_outer_67 : decode cX10_outer 67 = .ok (.iadd, 1) := by decide +kernel
theorem dX10_outer_68 : decode cX10_outer 68 = .ok (.imul, 1) := by decide +kernel
theorem dX10_outer_69 : decode cX10_outer 69 = .ok (.iload_n 3, 1) := by decide +kernel
theorem dX10_outer_70 : decode cX10_outer 70 = .ok (.iadd, 1) := by decide +kernel
theorem dX10_outer_71 : decode cX10_outer 71 = .ok (.imul, 1) := by decide +kernel
theorem dX10_outer_72 : decode cX10_outer 72 = .ok (.iaload, 1) := by decide +kernel
theorem dX10_outer_73 : decode cX10_outer 73 = .ok (.goto 4, 3) := by decide +kernel
theorem dX10_outer_76 : decode cX10_outer 76 = .ok (.iconst 0, 1) := by decide +kernel
theorem dX10_outer_77 : decode cX10_outer 77 = .ok (.ireturn, 1) := by decide +kernel
theorem dX10_ends_0 : decode cX10_ends 0 = .ok (.iload_n 3, 1) := by decide +kernel
theorem dX10_ends_1 : decode cX10_ends 1 = .ok (.ifCond .eq 22, 3) := by decide +kernel
theorem dX10_ends_4 : decode cX10_ends 4 = .ok (.iload 4, 2) := by decide +kernel
theorem dX10_ends_6 : decode cX10_ends 6 = .ok (.iconst 4, 1) := by decide +kernel
theorem dX10_ends_7 : decode cX10_ends 7 = .ok (.if_icmp .ge 14, 3) := by decide +kernel
theorem dX10_ends_10 : decode cX10_ends 10 = .ok (.aload_n 0, 1) := by decide +kernel
theorem dX10_ends_11 : decode cX10_ends 11 = .ok (.iload_n 1, 1) := by decide +kernel
theorem dX10_ends_12 : decode cX10_ends 12 = .ok (.iload_n 2, 1) := by decide +kernel
theorem dX10_ends_13 : decode cX10_ends 13 = .ok (.iload 4, 2) := by decide +kernel
theorem dX10_ends_15 : decode cX10_ends 15 = .ok (.invokevirtual 170, 3) := by decide +kernel
theorem dX10_ends_18 : decode cX10_ends 18 = .ok (.goto 4, 3) := by decide +kernel
theorem dX10_ends_21 : decode cX10_ends 21 = .ok (.iconst 0, 1) := by decide +kernel
theorem dX10_ends_22 : decode cX10_ends 22 = .ok (.ireturn, 1) := by decide +kernel
theorem dX10_ends_23 : decode cX10_ends 23 = .ok (.iload 4, 2) := by decide +kernel
theorem dX10_ends_25 : decode cX10_ends 25 = .ok (.tableswitch 109 0 6 #[43, 51, 61, 73, 83, 91, 101], 43) := by decide +kernel
theorem dX10_ends_68 : decode cX10_ends 68 = .ok (.aload_n 0, 1) := by decide +kernel
theorem dX10_ends_69 : decode cX10_ends 69 = .ok (.iload_n 1, 1) := by decide +kernel
theorem dX10_ends_70 : decode cX10_ends 70 = .ok (.iload_n 2, 1) := by decide +kernel
theorem dX10_ends_71 : decode cX10_ends 71 = .ok (.iconst 3, 1) := by decide +kernel
theorem dX10_ends_72 : decode cX10_ends 72 = .ok (.invokevirtual 170, 3) := by decide +kernel
theorem dX10_ends_75 : decode cX10_ends 75 = .ok (.ireturn, 1) := by decide +kernel
theorem dX10_ends_76 : decode cX10_ends 76 = .ok (.aload_n 0, 1) := by decide +kernel
theorem dX10_ends_77 : decode cX10_ends 77 = .ok (.iload_n 1, 1) := by decide +kernel
theorem dX10_ends_78 : decode cX10_ends 78 = .ok (.iconst 1, 1) := by decide +kernel
theorem dX10_ends_79 : decode cX10_ends 79 = .ok (.isub, 1) := by decide +kernel
theorem dX10_ends_80 : decode cX10_ends 80 = .ok (.iload_n 2, 1) := by decide +kernel
theorem dX10_ends_81 : decode cX10_ends 81 = .ok (.iconst 0, 1) := by decide +kernel
theorem dX10_ends_82 : decode cX10_ends 82 = .ok (.invokevirtual 170, 3) := by decide +kernel
theorem dX10_ends_85 : decode cX10_ends 85 = .ok (.ireturn, 1) := by decide +kernel
theorem dX10_ends_86 : decode cX10_ends 86 = .ok (.aload_n 0, 1) := by decide +kernel
theorem dX10_ends_87 : decode cX10_ends 87 = .ok (.iload_n 1, 1) := by decide +kernel
theorem dX10_ends_88 : decode cX10_ends 88 = .ok (.iconst 1, 1) := by decide +kernel
theorem dX10_ends_89 : decode cX10_ends 89 = .ok (.isub, 1) := by decide +kernel
theorem dX10_ends_90 : decode cX10_ends 90 = .ok (.iload_n 2, 1) := by decide +kernel
theorem dX10_ends_91 : decode cX10_ends 91 = .ok (.iconst 1, 1) := by decide +kernel
theorem dX10_ends_92 : decode cX10_ends 92 = .ok (.isub, 1) := by decide +kernel
theorem dX10_ends_93 : decode cX10_ends 93 = .ok (.iconst 1, 1) := by decide +kernel
theorem dX10_ends_94 : decode cX10_ends 94 = .ok (.invokevirtual 170, 3) := by decide +kernel
theorem dX10_ends_97 : decode cX10_ends 97 = .ok (.ireturn, 1) := by decide +kernel
theorem dX10_ends_98 : decode cX10_ends 98 = .ok (.aload_n 0, 1) := by decide +kernel
theorem dX10_ends_99 : decode cX10_ends 99 = .ok (.iload_n 1, 1) := by decide +kernel
theorem dX10_ends_100 : decode cX10_ends 100 = .ok (.iload_n 2, 1) := by decide +kernel
theorem dX10_ends_101 : decode cX10_ends 101 = .ok (.iconst 1, 1) := by decide +kernel
theorem dX10_ends_102 : decode cX10_ends 102 = .ok (.isub, 1) := by decide +kernel
theorem dX10_ends_103 : decode cX10_ends 103 = .ok (.iconst 2, 1) := by decide +kernel
theorem dX10_ends_104 : decode cX10_ends 104 = .ok (.invokevirtual 170, 3) := by decide +kernel
theorem dX10_ends_107 : decode cX10_ends 107 = .ok (.ireturn, 1) := by decide +kernel
theorem dX10_ends_108 : decode cX10_ends 108 = .ok (.aload_n 0, 1) := by decide +kernel
theorem dX10_ends_109 : decode cX10_ends 109 = .ok (.iload_n 1, 1) := by decide +kernel
theorem dX10_ends_110 : decode cX10_ends 110 = .ok (.iload_n 2, 1) := by decide +kernel
theorem dX10_ends_111 : decode cX10_ends 111 = .ok (.iconst 0, 1) := by decide +kernel
theorem dX10_ends_112 : decode cX10_ends 112 = .ok (.invokevirtual 173, 3) := by decide +kernel
theorem dX10_ends_115 : decode cX10_ends 115 = .ok (.ireturn, 1) := by decide +kernel
theorem dX10_ends_116 : decode cX10_ends 116 = .ok (.aload_n 0, 1) := by decide +kernel
theorem dX10_ends_117 : decode cX10_ends 117 = .ok (.iload_n 1, 1) := by decide +kernel
theorem dX10_ends_118 : decode cX10_ends 118 = .ok (.iconst 1, 1) := by decide +kernel
theorem dX10_ends_119 : decode cX10_ends 119 = .ok (.isub, 1) := by decide +kernel
theorem dX10_ends_120 : decode cX10_ends 120 = .ok (.iload_n 2, 1) := by decide +kernel
theorem dX10_ends_121 : decode cX10_ends 121 = .ok (.iconst 0, 1) := by decide +kernel
theorem dX10_ends_122 : decode cX10_ends 122 = .ok (.invokevirtual 173, 3) := by decide +kernel
theorem dX10_ends_125 : decode cX10_ends 125 = .ok (.ireturn, 1) := by decide +kernel
theorem dX10_ends_126 : decode cX10_ends 126 = .ok (.aload_n 0, 1) := by decide +kernel
theorem dX10_ends_127 : decode cX10_ends 127 = .ok (.iload_n 1, 1) := by decide +kernel
theorem dX10_ends_128 : decode cX10_ends 128 = .ok (.iload_n 2, 1) := by decide +kernel
theorem dX10_ends_129 : decode cX10_ends 129 = .ok (.iconst 3, 1) := by decide +kernel
theorem dX10_ends_130 : decode cX10_ends 130 = .ok (.invokevirtual 173, 3) := by decide +kernel
theorem dX10_ends_133 : decode cX10_ends 133 = .ok (.ireturn, 1) := by decide +kernel
theorem dX10_ends_134 : decode cX10_ends 134 = .ok (.aload_n 0, 1) := by decide +kernel
theorem dX10_ends_135 : decode cX10_ends 135 = .ok (.iload_n 1, 1) := by decide +kernel
theorem dX10_ends_136 : decode cX10_ends 136 = .ok (.iload_n 2, 1) := by decide +kernel
theorem dX10_ends_137 : decode cX10_ends 137 = .ok (.iconst 1, 1) := by decide +kernel
theorem dX10_ends_138 : decode cX10_ends 138 = .ok (.isub, 1) := by decide +kernel
theorem dX10_ends_139 : decode cX10_ends 139 = .ok (.iconst 3, 1) := by decide +kernel
theorem dX10_ends_140 : decode cX10_ends 140 = .ok (.invokevirtual 173, 3) := by decide +kernel
theorem dX10_ends_143 : decode cX10_ends 143 = .ok (.ireturn, 1) := by decide +kernel
theorem dX10_noPoint_0 : decode cX10_noPoint 0 = .ok (.iload_n 3, 1) := by decide +kernel
theorem dX10_noPoint_1 : decode cX10_noPoint 1 = .ok (.ifCond .eq 12, 3) := by decide +kernel
theorem dX10_noPoint_4 : decode cX10_noPoint 4 = .ok (.aload_n 0, 1) := by decide +kernel
theorem dX10_noPoint_5 : decode cX10_noPoint 5 = .ok (.getfield 7, 3) := by decide +kernel
theorem dX10_noPoint_8 : decode cX10_noPoint 8 = .ok (.iconst 1, 1) := by decide +kernel
theorem dX10_noPoint_9 : decode cX10_noPoint 9 = .ok (.isub, 1) := by decide +kernel
theorem dX10_noPoint_10 : decode cX10_noPoint 10 = .ok (.goto 7, 3) := by decide +kernel
theorem dX10_noPoint_13 : decode cX10_noPoint 13 = .ok (.aload_n 0, 1) := by decide +kernel
theorem dX10_noPoint_14 : decode cX10_noPoint 14 = .ok (.getfield 7, 3) := by decide +kernel
theorem dX10_noPoint_17 : decode cX10_noPoint 17 = .ok (.istore 4, 2) := by decide +kernel
theorem dX10_noPoint_19 : decode cX10_noPoint 19 = .ok (.iload_n 1, 1) := by decide +kernel
theorem dX10_noPoint_20 : decode cX10_noPoint 20 = .ok (.i2l, 1) := by decide +kernel
theorem dX10_noPoint_21 : decode cX10_noPoint 21 = .ok (.lconst 0, 1) := by decide +kernel
theorem dX10_noPoint_22 : decode cX10_noPoint 22 = .ok (.iload 4, 2) := by decide +kernel
theorem dX10_noPoint_24 : decode cX10_noPoint 24 = .ok (.i2l, 1) := by decide +kernel
theorem dX10_noPoint_25 : decode cX10_noPoint 25 = .ok (.invokestatic 101, 3) := by decide +kernel
theorem dX10_noPoint_28 : decode cX10_noPoint 28 = .ok (.ifCond .eq 15, 3) := by decide +kernel
theorem dX10_noPoint_31 : decode cX10_noPoint 31 = .ok (.iload_n 2, 1) := by decide +kernel
theorem dX10_noPoint_32 : decode cX10_noPoint 32 = .ok (.i2l, 1) := by decide +kernel
theorem dX10_noPoint_33 : decode cX10_noPoint 33 = .ok (.lconst 0, 1) := by decide +kernel
theorem dX10_noPoint_34 : decode cX10_noPoint 34 = .ok (.iload 4, 2) := by decide +kernel
theorem dX10_noPoint_36 : decode cX10_noPoint 36 = .ok (.i2l, 1) := by decide +kernel
theorem dX10_noPoint_37 : decode cX10_noPoint 37 = .ok (.invokestatic 101, 3) := by decide +kernel
theorem dX10_noPoint_40 : decode cX10_noPoint 40 = .ok (.ifCond .ne 7, 3) := by decide +kernel
theorem dX10_noPoint_43 : decode cX10_noPoint 43 = .ok (.iconst 1, 1) := by decide +kernel
theorem dX10_noPoint_44 : decode cX10_noPoint 44 = .ok (.goto 4, 3) := by decide +kernel
theorem dX10_noPoint_47 : decode cX10_noPoint 47 = .ok (.iconst 0, 1) := by decide +kernel
theorem dX10_noPoint_48 : decode cX10_noPoint 48 = .ok (.ireturn, 1) := by decide +kernel
theorem dX10_balance_0 : decode cX10_balance 0 = .ok (.aload_n 0, 1) := by decide +kernel
theorem dX10_balance_1 : decode cX10_balance 1 = .ok (.iconst 0, 1) := by decide +kernel
theorem dX10_balance_2 : decode cX10_balance 2 = .ok (.putfield 94, 3) := by decide +kernel
theorem dX10_balance_5 : decode cX10_balance 5 = .ok (.aload_n 0, 1) := by decide +kernel
theorem dX10_balance_6 : decode cX10_balance 6 = .ok (.iload_n 1, 1) := by decide +kernel
theorem dX10_balance_7 : decode cX10_balance 7 = .ok (.iload_n 2, 1) := by decide +kernel
theorem dX10_balance_8 : decode cX10_balance 8 = .ok (.iload_n 3, 1) := by decide +kernel
theorem dX10_balance_9 : decode cX10_balance 9 = .ok (.invokevirtual 176, 3) := by decide +kernel
theorem dX10_balance_12 : decode cX10_balance 12 = .ok (.ifCond .eq 6, 3) := by decide +kernel
theorem dX10_balance_15 : decode cX10_balance 15 = .ok (.bipush (-2), 2) := by decide +kernel
theorem dX10_balance_17 : decode cX10_balance 17 = .ok (.ireturn, 1) := by decide +kernel
theorem dX10_balance_18 : decode cX10_balance 18 = .ok (.iconst 0, 1) := by decide +kernel
theorem dX10_balance_19 : decode cX10_balance 19 = .ok (.istore 4, 2) := by decide +kernel
theorem dX10_balance_21 : decode cX10_balance 21 = .ok (.iconst 0, 1) := by decide +kernel
theorem dX10_balance_22 : decode cX10_balance 22 = .ok (.istore 5, 2) := by decide +kernel
theorem dX10_balance_24 : decode cX10_balance 24 = .ok (.iload 5, 2) := by decide +kernel
theorem dX10_balance_26 : decode cX10_balance 26 = .ok (.bipush 8, 2) := by decide +kernel
theorem dX10_balance_28 : decode cX10_balance 28 = .ok (.if_icmp .ge 46, 3) := by decide +kernel
theorem dX10_balance_31 : decode cX10_balance 31 = .ok (.aload_n 0, 1) := by decide +kernel
theorem dX10_balance_32 : decode cX10_balance 32 = .ok (.iload_n 1, 1) := by decide +kernel
theorem dX10_balance_33 : decode cX10_balance 33 = .ok (.iload_n 2, 1) := by decide +kernel
theorem dX10_balance_34 : decode cX10_balance 34 = .ok (.iload_n 3, 1) := by decide +kernel
theorem dX10_balance_35 : decode cX10_balance 35 = .ok (.iload 5, 2) := by decide +kernel
theorem dX10_balance_37 : decode cX10_balance 37 = .ok (.invokevirtual 180, 3) := by decide +kernel
theorem dX10_balance_40 : decode cX10_balance 40 = .ok (.istore 6, 2) := by decide +kernel
theorem dX10_balance_42 : decode cX10_balance 42 = .ok (.iload 4, 2) := by decide +kernel
theorem dX10_balance_44 : decode cX10_balance 44 = .ok (.iload 6, 2) := by decide +kernel
theorem dX10_balance_46 : decode cX10_balance 46 = .ok (.iconst 2, 1) := by decide +kernel
theorem dX10_balance_47 : decode cX10_balance 47 = .ok (.if_icmp .ne 7, 3) := by decide +kernel
theorem dX10_balance_50 : decode cX10_balance 50 = .ok (.iconst 1, 1) := by decide +kernel
theorem dX10_balance_51 : decode cX10_balance 51 = .ok (.goto 14, 3) := by decide +kernel
theorem dX10_balance_54 : decode cX10_balance 54 = .ok (.iload 6, 2) := by decide +kernel
theorem dX10_balance_56 : decode cX10_balance 56 = .ok (.iconst 1, 1) := by decide +kernel
theorem dX10_balance_57 : decode cX10_balance 57 = .ok (.if_icmp .ne 7, 3) := by decide +kernel
theorem dX10_balance_60 : decode cX10_balance 60 = .ok (.iconst (-1), 1) := by decide +kernel
theorem dX10_balance_61 : decode cX10_balance 61 = .ok (.goto 4, 3) := by decide +kernel
theorem dX10_balance_64 : decode cX10_balance 64 = .ok (.iconst 0, 1) := by decide +kernel
theorem dX10_balance_65 : decode cX10_balance 65 = .ok (.iadd, 1) := by decide +kernel
theorem dX10_balance_66 : decode cX10_balance 66 = .ok (.istore 4, 2) := by decide +kernel
theorem dX10_balance_68 : decode cX10_balance 68 = .ok (.iinc 5 1, 3) := by decide +kernel
theorem dX10_balance_71 : decode cX10_balance 71 = .ok (.goto (-47), 3) := by decide +kernel
theorem dX10_balance_74 : decode cX10_balance 74 = .ok (.iload 4, 2) := by decide +kernel
theorem dX10_balance_76 : decode cX10_balance 76 = .ok (.ireturn, 1) := by decide +kernel
theorem dX10_degree_0 : decode cX10_degree 0 = .ok (.aload_n 0, 1) := by decide +kernel
theorem dX10_degree_1 : decode cX10_degree 1 = .ok (.iconst 0, 1) := by decide +kernel
theorem dX10_degree_2 : decode cX10_degree 2 = .ok (.putfield 94, 3) := by decide +kernel
theorem dX10_degree_5 : decode cX10_degree 5 = .ok (.aload_n 0, 1) := by decide +kernel
theorem dX10_degree_6 : decode cX10_degree 6 = .ok (.iload_n 1, 1) := by decide +kernel
theorem dX10_degree_7 : decode cX10_degree 7 = .ok (.iload_n 2, 1) := by decide +kernel
theorem dX10_degree_8 : decode cX10_degree 8 = .ok (.iload_n 3, 1) := by decide +kernel
theorem dX10_degree_9 : decode cX10_degree 9 = .ok (.invokevirtual 176, 3) := by decide +kernel
theorem dX10_degree_12 : decode cX10_degree 12 = .ok (.ifCond .eq 6, 3) := by decide +kernel
theorem dX10_degree_15 : decode cX10_degree 15 = .ok (.bipush (-2), 2) := by decide +kernel
theorem dX10_degree_17 : decode cX10_degree 17 = .ok (.ireturn, 1) := by decide +kernel
theorem dX10_degree_18 : decode cX10_degree 18 = .ok (.iconst 0, 1) := by decide +kernel
theorem dX10_degree_19 : decode cX10_degree 19 = .ok (.istore 4, 2) := by decide +kernel
theorem dX10_degree_21 : decode cX10_degree 21 = .ok (.iconst 0, 1) := by decide +kernel
theorem dX10_degree_22 : decode cX10_degree 22 = .ok (.istore 5, 2) := by decide +kernel
theorem dX10_degree_24 : decode cX10_degree 24 = .ok (.iload 5, 2) := by decide +kernel
theorem dX10_degree_26 : decode cX10_degree 26 = .ok (.bipush 8, 2) := by decide +kernel
theorem dX10_degree_28 : decode cX10_degree 28 = .ok (.if_icmp .ge 31, 3) := by decide +kernel
theorem dX10_degree_31 : decode cX10_degree 31 = .ok (.iload 4, 2) := by decide +kernel
theorem dX10_degree_33 : decode cX10_degree 33 = .ok (.aload_n 0, 1) := by decide +kernel
theorem dX10_degree_34 : decode cX10_degree 34 = .ok (.iload_n 1, 1) := by decide +kernel
theorem dX10_degree_35 : decode cX10_degree 35 = .ok (.iload_n 2, 1) := by decide +kernel
theorem dX10_degree_36 : decode cX10_degree 36 = .ok (.iload_n 3, 1) := by decide +kernel
theorem dX10_degree_37 : decode cX10_degree 37 = .ok (.iload 5, 2) := by decide +kernel
theorem dX10_degree_39 : decode cX10_degree 39 = .ok (.invokevirtual 180, 3) := by decide +kernel
theorem dX10_degree_42 : decode cX10_degree 42 = .ok (.ifCond .ne 7, 3) := by decide +kernel
theorem dX10_degree_45 : decode cX10_degree 45 = .ok (.iconst 0, 1) := by decide +kernel
theorem dX10_degree_46 : decode cX10_degree 46 = .ok (.goto 4, 3) := by decide +kernel
theorem dX10_degree_49 : decode cX10_degree 49 = .ok (.iconst 1, 1) := by decide +kernel
theorem dX10_degree_50 : decode cX10_degree 50 = .ok (.iadd, 1) := by decide +kernel
theorem dX10_degree_51 : decode cX10_degree 51 = .ok (.istore 4, 2) := by decide +kernel
theorem dX10_degree_53 : decode cX10_degree 53 = .ok (.iinc 5 1, 3) := by decide +kernel
theorem dX10_degree_56 : decode cX10_degree 56 = .ok (.goto (-32), 3) := by decide +kernel
theorem dX10_degree_59 : decode cX10_degree 59 = .ok (.iload 4, 2) := by decide +kernel
theorem dX10_degree_61 : decode cX10_degree 61 = .ok (.ireturn, 1) := by decide +kernel
theorem dX10_knife_0 : decode cX10_knife 0 = .ok (.aload_n 0, 1) := by decide +kernel
theorem dX10_knife_1 : decode cX10_knife 1 = .ok (.iconst 0, 1) := by decide +kernel
theorem dX10_knife_2 : decode cX10_knife 2 = .ok (.putfield 94, 3) := by decide +kernel
theorem dX10_knife_5 : decode cX10_knife 5 = .ok (.iload_n 1, 1) := by decide +kernel
theorem dX10_knife_6 : decode cX10_knife 6 = .ok (.i2l, 1) := by decide +kernel
theorem dX10_knife_7 : decode cX10_knife 7 = .ok (.lconst 1, 1) := by decide +kernel
theorem dX10_knife_8 : decode cX10_knife 8 = .ok (.ldc2_w 184, 3) := by decide +kernel
theorem dX10_knife_11 : decode cX10_knife 11 = .ok (.invokestatic 101, 3) := by decide +kernel
theorem dX10_knife_14 : decode cX10_knife 14 = .ok (.ifCond .ne 6, 3) := by decide +kernel
theorem dX10_knife_17 : decode cX10_knife 17 = .ok (.bipush (-2), 2) := by decide +kernel
theorem dX10_knife_19 : decode cX10_knife 19 = .ok (.ireturn, 1) := by decide +kernel
theorem dX10_knife_20 : decode cX10_knife 20 = .ok (.aload_n 0, 1) := by decide +kernel
theorem dX10_knife_21 : decode cX10_knife 21 = .ok (.getfield 54, 3) := by decide +kernel
theorem dX10_knife_24 : decode cX10_knife 24 = .ok (.istore_n 2, 1) := by decide +kernel
theorem dX10_knife_25 : decode cX10_knife 25 = .ok (.aload_n 0, 1) := by decide +kernel
theorem dX10_knife_26 : decode cX10_knife 26 = .ok (.iload_n 1, 1) := by decide +kernel
theorem dX10_knife_27 : decode cX10_knife 27 = .ok (.putfield 54, 3) := by decide +kernel
theorem dX10_knife_30 : decode cX10_knife 30 = .ok (.iload_n 2, 1) := by decide +kernel
theorem dX10_knife_31 : decode cX10_knife 31 = .ok (.ireturn, 1) := by decide +kernel
theorem dX10_touches_0 : decode cX10_touches 0 = .ok (.aload_n 0, 1) := by decide +kernel
theorem dX10_touches_1 : decode cX10_touches 1 = .ok (.getfield 20, 3) := by decide +kernel
theorem dX10_touches_4 : decode cX10_touches 4 = .ok (.iload_n 1, 1) := by decide +kernel
theorem dX10_touches_5 : decode cX10_touches 5 = .ok (.iaload, 1) := by decide +kernel
theorem dX10_touches_6 : decode cX10_touches 6 = .ok (.istore 4, 2) := by decide +kernel
theorem dX10_touches_8 : decode cX10_touches 8 = .ok (.iload_n 2, 1) := by decide +kernel
theorem dX10_touches_9 : decode cX10_touches 9 = .ok (.tableswitch 129 0 2 #[27, 67, 106], 27) := by decide +kernel
theorem dX10_touches_36 : decode cX10_touches 36 = .ok (.iload 4, 2) := by decide +kernel
theorem dX10_touches_38 : decode cX10_touches 38 = .ok (.iconst 1, 1) := by decide +kernel
theorem dX10_touches_39 : decode cX10_touches 39 = .ok (.if_icmp .ne 15, 3) := by decide +kernel
theorem dX10_touches_42 : decode cX10_touches 42 = .ok (.iload_n 3, 1) := by decide +kernel
theorem dX10_touches_43 : decode cX10_touches 43 = .ok (.aload_n 0, 1) := by decide +kernel
theorem dX10_touches_44 : decode cX10_touches 44 = .ok (.getfield 13, 3) := by decide +kernel
theorem dX10_touches_47 : decode cX10_touches 47 = .ok (.iload_n 1, 1) := by decide +kernel
theorem dX10_touches_48 : decode cX10_touches 48 = .ok (.iaload, 1) := by decide +kernel
theorem dX10_touches_49 : decode cX10_touches 49 = .ok (.iconst 1, 1) := by decide +kernel
theorem dX10_touches_50 : decode cX10_touches 50 = .ok (.iadd, 1) := by decide +kernel
theorem dX10_touches_51 : decode cX10_touches 51 = .ok (.if_icmp .eq 19, 3) := by decide +kernel
theorem dX10_touches_54 : decode cX10_touches 54 = .ok (.iload 4, 2) := by decide +kernel
theorem dX10_touches_56 : decode cX10_touches 56 = .ok (.iconst 3, 1) := by decide +kernel
theorem dX10_touches_57 : decode cX10_touches 57 = .ok (.if_icmp .ne 17, 3) := by decide +kernel
theorem dX10_touches_60 : decode cX10_touches 60 = .ok (.iload_n 3, 1) := by decide +kernel
theorem dX10_touches_61 : decode cX10_touches 61 = .ok (.aload_n 0, 1) := by decide +kernel
theorem dX10_touches_62 : decode cX10_touches 62 = .ok (.getfield 13, 3) := by decide +kernel
theorem dX10_touches_65 : decode cX10_touches 65 = .ok (.iload_n 1, 1) := by decide +kernel
theorem dX10_touches_66 : decode cX10_touches 66 = .ok (.iaload, 1) := by decide +kernel
theorem dX10_touches_67 : decode cX10_touches 67 = .ok (.if_icmp .ne 7, 3) := by decide +kernel
theorem dX10_touches_70 : decode cX10_touches 70 = .ok (.iconst 1, 1) := by decide +kernel
theorem dX10_touches_71 : decode cX10_touches 71 = .ok (.goto 4, 3) := by decide +kernel
theorem dX10_touches_74 : decode cX10_touches 74 = .ok (.iconst 0, 1) := by decide +kernel
theorem dX10_touches_75 : decode cX10_touches 75 = .ok (.ireturn, 1) := by decide +kernel
theorem dX10_touches_76 : decode cX10_touches 76 = .ok (.iload 4, 2) := by decide +kernel
theorem dX10_touches_78 : decode cX10_touches 78 = .ok (.ifCond .ne 13, 3) := by decide +kernel
theorem dX10_touches_81 : decode cX10_touches 81 = .ok (.iload_n 3, 1) := by decide +kernel
theorem dX10_touches_82 : decode cX10_touches 82 = .ok (.aload_n 0, 1) := by decide +kernel
theorem dX10_touches_83 : decode cX10_touches 83 = .ok (.getfield 17, 3) := by decide +kernel
theorem dX10_touches_86 : decode cX10_touches 86 = .ok (.iload_n 1, 1) := by decide +kernel
theorem dX10_touches_87 : decode cX10_touches 87 = .ok (.iaload, 1) := by decide +kernel
theorem dX10_touches_88 : decode cX10_touches 88 = .ok (.if_icmp .eq 21, 3) := by decide +kernel
theorem dX10_touches_91 : decode cX10_touches 91 = .ok (.iload 4, 2) := by decide +kernel
theorem dX10_touches_93 : decode cX10_touches 93 = .ok (.iconst 2, 1) := by decide +kernel
theorem dX10_touches_94 : decode cX10_touches 94 = .ok (.if_icmp .ne 19, 3) := by decide +kernel
theorem dX10_touches_97 : decode cX10_touches 97 = .ok (.iload_n 3, 1) := by decide +kernel
theorem dX10_touches_98 : decode cX10_touches 98 = .ok (.aload_n 0, 1) := by decide +kernel
theorem dX10_touches_99 : decode cX10_touches 99 = .ok (.getfield 17, 3) := by decide +kernel
theorem dX10_touches_102 : decode cX10_touches 102 = .ok (.iload_n 1, 1) := by decide +kernel
theorem dX10_touches_103 : decode cX10_touches 103 = .ok (.iaload, 1) := by decide +kernel
theorem dX10_touches_104 : decode cX10_touches 104 = .ok (.iconst 1, 1) := by decide +kernel
theorem dX10_touches_105 : decode cX10_touches 105 = .ok (.iadd, 1) := by decide +kernel
theorem dX10_touches_106 : decode cX10_touches 106 = .ok (.if_icmp .ne 7, 3) := by decide +kernel
theorem dX10_touches_109 : decode cX10_touches 109 = .ok (.iconst 1, 1) := by decide +kernel
theorem dX10_touches_110 : decode cX10_touches 110 = .ok (.goto 4, 3) := by decide +kernel
theorem dX10_touches_113 : decode cX10_touches 113 = .ok (.iconst 0, 1) := by decide +kernel
theorem dX10_touches_114 : decode cX10_touches 114 = .ok (.ireturn, 1) := by decide +kernel
theorem dX10_touches_115 : decode cX10_touches 115 = .ok (.iload_n 3, 1) := by decide +kernel
theorem dX10_touches_116 : decode cX10_touches 116 = .ok (.aload_n 0, 1) := by decide +kernel
theorem dX10_touches_117 : decode cX10_touches 117 = .ok (.getfield 13, 3) := by decide +kernel
theorem dX10_touches_120 : decode cX10_touches 120 = .ok (.iload_n 1, 1) := by decide +kernel
theorem dX10_touches_121 : decode cX10_touches 121 = .ok (.iaload, 1) := by decide +kernel
theorem dX10_touches_122 : decode cX10_touches 122 = .ok (.aload_n 0, 1) := by decide +kernel
theorem dX10_touches_123 : decode cX10_touches 123 = .ok (.getfield 17, 3) := by decide +kernel
theorem dX10_touches_126 : decode cX10_touches 126 = .ok (.iload_n 1, 1) := by decide +kernel
theorem dX10_touches_127 : decode cX10_touches 127 = .ok (.iaload, 1) := by decide +kernel
theorem dX10_touches_128 : decode cX10_touches 128 = .ok (.isub, 1) := by decide +kernel
theorem dX10_touches_129 : decode cX10_touches 129 = .ok (.if_icmp .ne 7, 3) := by decide +kernel
theorem dX10_touches_132 : decode cX10_touches 132 = .ok (.iconst 1, 1) := by decide +kernel
theorem dX10_touches_133 : decode cX10_touches 133 = .ok (.goto 4, 3) := by decide +kernel
theorem dX10_touches_136 : decode cX10_touches 136 = .ok (.iconst 0, 1) := by decide +kernel
theorem dX10_touches_137 : decode cX10_touches 137 = .ok (.ireturn, 1) := by decide +kernel
theorem dX10_touches_138 : decode cX10_touches 138 = .ok (.iload_n 3, 1) := by decide +kernel
theorem dX10_touches_139 : decode cX10_touches 139 = .ok (.aload_n 0, 1) := by decide +kernel
theorem dX10_touches_140 : decode cX10_touches 140 = .ok (.getfield 13, 3) := by decide +kernel
theorem dX10_touches_143 : decode cX10_touches 143 = .ok (.iload_n 1, 1) := by decide +kernel
theorem dX10_touches_144 : decode cX10_touches 144 = .ok (.iaload, 1) := by decide +kernel
theorem dX10_touches_145 : decode cX10_touches 145 = .ok (.aload_n 0, 1) := by decide +kernel
theorem dX10_touches_146 : decode cX10_touches 146 = .ok (.getfield 17, 3) := by decide +kernel
theorem dX10_touches_149 : decode cX10_touches 149 = .ok (.iload_n 1, 1) := by decide +kernel
theorem dX10_touches_150 : decode cX10_touches 150 = .ok (.iaload, 1) := by decide +kernel
theorem dX10_touches_151 : decode cX10_touches 151 = .ok (.iadd, 1) := by decide +kernel
theorem dX10_touches_152 : decode cX10_touches 152 = .ok (.iconst 1, 1) := by decide +kernel
theorem dX10_touches_153 : decode cX10_touches 153 = .ok (.iadd, 1) := by decide +kernel
theorem dX10_touches_154 : decode cX10_touches 154 = .ok (.if_icmp .ne 7, 3) := by decide +kernel
theorem dX10_touches_157 : decode cX10_touches 157 = .ok (.iconst 1, 1) := by decide +kernel
theorem dX10_touches_158 : decode cX10_touches 158 = .ok (.goto 4, 3) := by decide +kernel
theorem dX10_touches_161 : decode cX10_touches 161 = .ok (.iconst 0, 1) := by decide +kernel
theorem dX10_touches_162 : decode cX10_touches 162 = .ok (.ireturn, 1) := by decide +kernel
theorem dX10_thickOf_0 : decode cX10_thickOf 0 = .ok (.iconst 0, 1) := by decide +kernel
theorem dX10_thickOf_1 : decode cX10_thickOf 1 = .ok (.istore_n 3, 1) := by decide +kernel
theorem dX10_thickOf_2 : decode cX10_thickOf 2 = .ok (.iconst 0, 1) := by decide +kernel
theorem dX10_thickOf_3 : decode cX10_thickOf 3 = .ok (.istore 4, 2) := by decide +kernel
theorem dX10_thickOf_5 : decode cX10_thickOf 5 = .ok (.iload 4, 2) := by decide +kernel
theorem dX10_thickOf_7 : decode cX10_thickOf 7 = .ok (.aload_n 0, 1) := by decide +kernel
theorem dX10_thickOf_8 : decode cX10_thickOf 8 = .ok (.invokevirtual 97, 3) := by decide +kernel
theorem dX10_thickOf_11 : decode cX10_thickOf 11 = .ok (.if_icmp .ge 47, 3) := by decide +kernel
theorem dX10_thickOf_14 : decode cX10_thickOf 14 = .ok (.aload_n 0, 1) := by decide +kernel
theorem dX10_thickOf_15 : decode cX10_thickOf 15 = .ok (.iload 4, 2) := by decide +kernel
theorem dX10_thickOf_17 : decode cX10_thickOf 17 = .ok (.iload_n 1, 1) := by decide +kernel
theorem dX10_thickOf_18 : decode cX10_thickOf 18 = .ok (.iload_n 2, 1) := by decide +kernel
theorem dX10_thickOf_19 : decode cX10_thickOf 19 = .ok (.invokevirtual 186, 3) := by decide +kernel
theorem dX10_thickOf_22 : decode cX10_thickOf 22 = .ok (.ifCond .eq 28, 3) := by decide +kernel
theorem dX10_thickOf_25 : decode cX10_thickOf 25 = .ok (.aload_n 0, 1) := by decide +kernel
theorem dX10_thickOf_26 : decode cX10_thickOf 26 = .ok (.getfield 23, 3) := by decide +kernel
theorem dX10_thickOf_29 : decode cX10_thickOf 29 = .ok (.iload 4, 2) := by decide +kernel
theorem dX10_thickOf_31 : decode cX10_thickOf 31 = .ok (.iaload, 1) := by decide +kernel
theorem dX10_thickOf_32 : decode cX10_thickOf 32 = .ok (.iconst 1, 1) := by decide +kernel
theorem dX10_thickOf_33 : decode cX10_thickOf 33 = .ok (.iadd, 1) := by decide +kernel
theorem dX10_thickOf_34 : decode cX10_thickOf 34 = .ok (.iload_n 3, 1) := by decide +kernel
theorem dX10_thickOf_35 : decode cX10_thickOf 35 = .ok (.if_icmp .le 15, 3) := by decide +kernel
theorem dX10_thickOf_38 : decode cX10_thickOf 38 = .ok (.aload_n 0, 1) := by decide +kernel
theorem dX10_thickOf_39 : decode cX10_thickOf 39 = .ok (.getfield 23, 3) := by decide +kernel
theorem dX10_thickOf_42 : decode cX10_thickOf 42 = .ok (.iload 4, 2) := by decide +kernel
theorem dX10_thickOf_44 : decode cX10_thickOf 44 = .ok (.iaload, 1) := by decide +kernel
theorem dX10_thickOf_45 : decode cX10_thickOf 45 = .ok (.iconst 1, 1) := by decide +kernel
theorem dX10_thickOf_46 : decode cX10_thickOf 46 = .ok (.iadd, 1) := by decide +kernel
theorem dX10_thickOf_47 : decode cX10_thickOf 47 = .ok (.goto 4, 3) := by decide +kernel
theorem dX10_thickOf_50 : decode cX10_thickOf 50 = .ok (.iload_n 3, 1) := by decide +kernel
theorem dX10_thickOf_51 : decode cX10_thickOf 51 = .ok (.istore_n 3, 1) := by decide +kernel
theorem dX10_thickOf_52 : decode cX10_thickOf 52 = .ok (.iinc 4 1, 3) := by decide +kernel
theorem dX10_thickOf_55 : decode cX10_thickOf 55 = .ok (.goto (-50), 3) := by decide +kernel
theorem dX10_thickOf_58 : decode cX10_thickOf 58 = .ok (.iload_n 3, 1) := by decide +kernel
theorem dX10_thickOf_59 : decode cX10_thickOf 59 = .ok (.ireturn, 1) := by decide +kernel
theorem dX10_thickness_0 : decode cX10_thickness 0 = .ok (.aload_n 0, 1) := by decide +kernel
theorem dX10_thickness_1 : decode cX10_thickness 1 = .ok (.iconst 0, 1) := by decide +kernel
theorem dX10_thickness_2 : decode cX10_thickness 2 = .ok (.putfield 94, 3) := by decide +kernel
theorem dX10_thickness_5 : decode cX10_thickness 5 = .ok (.iload_n 1, 1) := by decide +kernel
theorem dX10_thickness_6 : decode cX10_thickness 6 = .ok (.iload_n 2, 1) := by decide +kernel
theorem dX10_thickness_7 : decode cX10_thickness 7 = .ok (.invokestatic 138, 3) := by decide +kernel
theorem dX10_thickness_10 : decode cX10_thickness 10 = .ok (.ifCond .eq 8, 3) := by decide +kernel
theorem dX10_thickness_13 : decode cX10_thickness 13 = .ok (.bipush (-2), 2) := by decide +kernel
theorem dX10_thickness_15 : decode cX10_thickness 15 = .ok (.goto 9, 3) := by decide +kernel
theorem dX10_thickness_18 : decode cX10_thickness 18 = .ok (.aload_n 0, 1) := by decide +kernel
theorem dX10_thickness_19 : decode cX10_thickness 19 = .ok (.iload_n 1, 1) := by decide +kernel
theorem dX10_thickness_20 : decode cX10_thickness 20 = .ok (.iload_n 2, 1) := by decide +kernel
theorem dX10_thickness_21 : decode cX10_thickness 21 = .ok (.invokevirtual 190, 3) := by decide +kernel
theorem dX10_thickness_24 : decode cX10_thickness 24 = .ok (.ireturn, 1) := by decide +kernel
theorem dX10_fallsOf_0 : decode cX10_fallsOf 0 = .ok (.iconst 0, 1) := by decide +kernel
theorem dX10_fallsOf_1 : decode cX10_fallsOf 1 = .ok (.istore 4, 2) := by decide +kernel
theorem dX10_fallsOf_3 : decode cX10_fallsOf 3 = .ok (.iconst 0, 1) := by decide +kernel
theorem dX10_fallsOf_4 : decode cX10_fallsOf 4 = .ok (.istore 5, 2) := by decide +kernel
theorem dX10_fallsOf_6 : decode cX10_fallsOf 6 = .ok (.iload 5, 2) := by decide +kernel
theorem dX10_fallsOf_8 : decode cX10_fallsOf 8 = .ok (.aload_n 0, 1) := by decide +kernel
theorem dX10_fallsOf_9 : decode cX10_fallsOf 9 = .ok (.invokevirtual 97, 3) := by decide +kernel
theorem dX10_fallsOf_12 : decode cX10_fallsOf 12 = .ok (.if_icmp .ge 49, 3) := by decide +kernel
theorem dX10_fallsOf_15 : decode cX10_fallsOf 15 = .ok (.iload 4, 2) := by decide +kernel
theorem dX10_fallsOf_17 : decode cX10_fallsOf 17 = .ok (.iload_n 1, 1) := by decide +kernel
theorem dX10_fallsOf_18 : decode cX10_fallsOf 18 = .ok (.iload_n 2, 1) := by decide +kernel
theorem dX10_fallsOf_19 : decode cX10_fallsOf 19 = .ok (.aload_n 0, 1) := by decide +kernel
theorem dX10_fallsOf_20 : decode cX10_fallsOf 20 = .ok (.getfield 13, 3) := by decide +kernel
theorem dX10_fallsOf_23 : decode cX10_fallsOf 23 = .ok (.iload 5, 2) := by decide +kernel
theorem dX10_fallsOf_25 : decode cX10_fallsOf 25 = .ok (.iaload, 1) := by decide +kernel
theorem dX10_fallsOf_26 : decode cX10_fallsOf 26 = .ok (.aload_n 0, 1) := by decide +kernel
theorem dX10_fallsOf_27 : decode cX10_fallsOf 27 = .ok (.getfield 17, 3) := by decide +kernel
theorem dX10_fallsOf_30 : decode cX10_fallsOf 30 = .ok (.iload 5, 2) := by decide +kernel
theorem dX10_fallsOf_32 : decode cX10_fallsOf 32 = .ok (.iaload, 1) := by decide +kernel
theorem dX10_fallsOf_33 : decode cX10_fallsOf 33 = .ok (.aload_n 0, 1) := by decide +kernel
theorem dX10_fallsOf_34 : decode cX10_fallsOf 34 = .ok (.getfield 20, 3) := by decide +kernel
theorem dX10_fallsOf_37 : decode cX10_fallsOf 37 = .ok (.iload 5, 2) := by decide +kernel
theorem dX10_fallsOf_39 : decode cX10_fallsOf 39 = .ok (.iaload, 1) := by decide +kernel
theorem dX10_fallsOf_40 : decode cX10_fallsOf 40 = .ok (.invokestatic 142, 3) := by decide +kernel
theorem dX10_fallsOf_43 : decode cX10_fallsOf 43 = .ok (.iload_n 3, 1) := by decide +kernel
theorem dX10_fallsOf_44 : decode cX10_fallsOf 44 = .ok (.if_icmp .ne 7, 3) := by decide +kernel
theorem dX10_fallsOf_47 : decode cX10_fallsOf 47 = .ok (.iconst 1, 1) := by decide +kernel
theorem dX10_fallsOf_48 : decode cX10_fallsOf 48 = .ok (.goto 4, 3) := by decide +kernel
theorem dX10_fallsOf_51 : decode cX10_fallsOf 51 = .ok (.iconst 0, 1) := by decide +kernel
theorem dX10_fallsOf_52 : decode cX10_fallsOf 52 = .ok (.iadd, 1) := by decide +kernel
theorem dX10_fallsOf_53 : decode cX10_fallsOf 53 = .ok (.istore 4, 2) := by decide +kernel
theorem dX10_fallsOf_55 : decode cX10_fallsOf 55 = .ok (.iinc 5 1, 3) := by decide +kernel
theorem dX10_fallsOf_58 : decode cX10_fallsOf 58 = .ok (.goto (-52), 3) := by decide +kernel
theorem dX10_fallsOf_61 : decode cX10_fallsOf 61 = .ok (.iload 4, 2) := by decide +kernel
theorem dX10_fallsOf_63 : decode cX10_fallsOf 63 = .ok (.ireturn, 1) := by decide +kernel
theorem dX10_would_0 : decode cX10_would 0 = .ok (.aload_n 0, 1) := by decide +kernel
theorem dX10_would_1 : decode cX10_would 1 = .ok (.iconst 0, 1) := by decide +kernel
theorem dX10_would_2 : decode cX10_would 2 = .ok (.putfield 94, 3) := by decide +kernel
theorem dX10_would_5 : decode cX10_would 5 = .ok (.iload_n 1, 1) := by decide +kernel
theorem dX10_would_6 : decode cX10_would 6 = .ok (.iload_n 2, 1) := by decide +kernel
theorem dX10_would_7 : decode cX10_would 7 = .ok (.invokestatic 138, 3) := by decide +kernel
theorem dX10_would_10 : decode cX10_would 10 = .ok (.ifCond .ne 13, 3) := by decide +kernel
theorem dX10_would_13 : decode cX10_would 13 = .ok (.iload_n 3, 1) := by decide +kernel
theorem dX10_would_14 : decode cX10_would 14 = .ok (.i2l, 1) := by decide +kernel
theorem dX10_would_15 : decode cX10_would 15 = .ok (.lconst 0, 1) := by decide +kernel
theorem dX10_would_16 : decode cX10_would 16 = .ok (.lconst 1, 1) := by decide +kernel
theorem dX10_would_17 : decode cX10_would 17 = .ok (.invokestatic 101, 3) := by decide +kernel
theorem dX10_would_20 : decode cX10_would 20 = .ok (.ifCond .ne 8, 3) := by decide +kernel
theorem dX10_would_23 : decode cX10_would 23 = .ok (.bipush (-2), 2) := by decide +kernel
theorem dX10_would_25 : decode cX10_would 25 = .ok (.goto 10, 3) := by decide +kernel
theorem dX10_would_28 : decode cX10_would 28 = .ok (.aload_n 0, 1) := by decide +kernel
theorem dX10_would_29 : decode cX10_would 29 = .ok (.iload_n 1, 1) := by decide +kernel
theorem dX10_would_30 : decode cX10_would 30 = .ok (.iload_n 2, 1) := by decide +kernel
theorem dX10_would_31 : decode cX10_would 31 = .ok (.iload_n 3, 1) := by decide +kernel
theorem dX10_would_32 : decode cX10_would 32 = .ok (.invokevirtual 193, 3) := by decide +kernel
theorem dX10_would_35 : decode cX10_would 35 = .ok (.ireturn, 1) := by decide +kernel
theorem dX10_cut_0 : decode cX10_cut 0 = .ok (.aload_n 0, 1) := by decide +kernel
theorem dX10_cut_1 : decode cX10_cut 1 = .ok (.iconst 0, 1) := by decide +kernel
theorem dX10_cut_2 : decode cX10_cut 2 = .ok (.putfield 94, 3) := by decide +kernel
theorem dX10_cut_5 : decode cX10_cut 5 = .ok (.iload_n 1, 1) := by decide +kernel
theorem dX10_cut_6 : decode cX10_cut 6 = .ok (.iload_n 2, 1) := by decide +kernel
theorem dX10_cut_7 : decode cX10_cut 7 = .ok (.invokestatic 138, 3) := by decide +kernel
theorem dX10_cut_10 : decode cX10_cut 10 = .ok (.ifCond .ne 13, 3) := by decide +kernel
theorem dX10_cut_13 : decode cX10_cut 13 = .ok (.iload_n 3, 1) := by decide +kernel
theorem dX10_cut_14 : decode cX10_cut 14 = .ok (.i2l, 1) := by decide +kernel
theorem dX10_cut_15 : decode cX10_cut 15 = .ok (.lconst 0, 1) := by decide +kernel
theorem dX10_cut_16 : decode cX10_cut 16 = .ok (.lconst 1, 1) := by decide +kernel
theorem dX10_cut_17 : decode cX10_cut 17 = .ok (.invokestatic 101, 3) := by decide +kernel
theorem dX10_cut_20 : decode cX10_cut 20 = .ok (.ifCond .ne 6, 3) := by decide +kernel
theorem dX10_cut_23 : decode cX10_cut 23 = .ok (.bipush (-2), 2) := by decide +kernel
theorem dX10_cut_25 : decode cX10_cut 25 = .ok (.ireturn, 1) := by decide +kernel
theorem dX10_cut_26 : decode cX10_cut 26 = .ok (.aload_n 0, 1) := by decide +kernel
theorem dX10_cut_27 : decode cX10_cut 27 = .ok (.getfield 114, 3) := by decide +kernel
theorem dX10_cut_30 : decode cX10_cut 30 = .ok (.ifCond .eq 6, 3) := by decide +kernel
theorem dX10_cut_33 : decode cX10_cut 33 = .ok (.bipush (-3), 2) := by decide +kernel
theorem dX10_cut_35 : decode cX10_cut 35 = .ok (.ireturn, 1) := by decide +kernel
theorem dX10_cut_36 : decode cX10_cut 36 = .ok (.aload_n 0, 1) := by decide +kernel
theorem dX10_cut_37 : decode cX10_cut 37 = .ok (.iload_n 1, 1) := by decide +kernel
theorem dX10_cut_38 : decode cX10_cut 38 = .ok (.iload_n 2, 1) := by decide +kernel
theorem dX10_cut_39 : decode cX10_cut 39 = .ok (.invokevirtual 190, 3) := by decide +kernel
theorem dX10_cut_42 : decode cX10_cut 42 = .ok (.aload_n 0, 1) := by decide +kernel
theorem dX10_cut_43 : decode cX10_cut 43 = .ok (.getfield 54, 3) := by decide +kernel
theorem dX10_cut_46 : decode cX10_cut 46 = .ok (.if_icmp .le 6, 3) := by decide +kernel
theorem dX10_cut_49 : decode cX10_cut 49 = .ok (.bipush (-4), 2) := by decide +kernel
theorem dX10_cut_51 : decode cX10_cut 51 = .ok (.ireturn, 1) := by decide +kernel
theorem dX10_cut_52 : decode cX10_cut 52 = .ok (.aload_n 0, 1) := by decide +kernel
theorem dX10_cut_53 : decode cX10_cut 53 = .ok (.iconst 1, 1) := by decide +kernel
theorem dX10_cut_54 : decode cX10_cut 54 = .ok (.putfield 114, 3) := by decide +kernel
theorem dX10_cut_57 : decode cX10_cut 57 = .ok (.iconst 0, 1) := by decide +kernel
theorem dX10_cut_58 : decode cX10_cut 58 = .ok (.istore 4, 2) := by decide +kernel
theorem dX10_cut_60 : decode cX10_cut 60 = .ok (.iload 4, 2) := by decide +kernel
theorem dX10_cut_62 : decode cX10_cut 62 = .ok (.aload_n 0, 1) := by decide +kernel
theorem dX10_cut_63 : decode cX10_cut 63 = .ok (.invokevirtual 97, 3) := by decide +kernel
theorem dX10_cut_66 : decode cX10_cut 66 = .ok (.if_icmp .ge 51, 3) := by decide +kernel
theorem dX10_cut_69 : decode cX10_cut 69 = .ok (.aload_n 0, 1) := by decide +kernel
theorem dX10_cut_70 : decode cX10_cut 70 = .ok (.getfield 57, 3) := by decide +kernel
theorem dX10_cut_73 : decode cX10_cut 73 = .ok (.iload 4, 2) := by decide +kernel
theorem dX10_cut_75 : decode cX10_cut 75 = .ok (.iload_n 1, 1) := by decide +kernel
theorem dX10_cut_76 : decode cX10_cut 76 = .ok (.iload_n 2, 1) := by decide +kernel
theorem dX10_cut_77 : decode cX10_cut 77 = .ok (.aload_n 0, 1) := by decide +kernel
theorem dX10_cut_78 : decode cX10_cut 78 = .ok (.getfield 13, 3) := by decide +kernel
theorem dX10_cut_81 : decode cX10_cut 81 = .ok (.iload 4, 2) := by decide +kernel
theorem dX10_cut_83 : decode cX10_cut 83 = .ok (.iaload, 1) := by decide +kernel
theorem dX10_cut_84 : decode cX10_cut 84 = .ok (.aload_n 0, 1) := by decide +kernel
theorem dX10_cut_85 : decode cX10_cut 85 = .ok (.getfield 17, 3) := by decide +kernel
theorem dX10_cut_88 : decode cX10_cut 88 = .ok (.iload 4, 2) := by decide +kernel
theorem dX10_cut_90 : decode cX10_cut 90 = .ok (.iaload, 1) := by decide +kernel
theorem dX10_cut_91 : decode cX10_cut 91 = .ok (.aload_n 0, 1) := by decide +kernel
theorem dX10_cut_92 : decode cX10_cut 92 = .ok (.getfield 20, 3) := by decide +kernel
theorem dX10_cut_95 : decode cX10_cut 95 = .ok (.iload 4, 2) := by decide +kernel
theorem dX10_cut_97 : decode cX10_cut 97 = .ok (.iaload, 1) := by decide +kernel
theorem dX10_cut_98 : decode cX10_cut 98 = .ok (.invokestatic 142, 3) := by decide +kernel
theorem dX10_cut_101 : decode cX10_cut 101 = .ok (.iload_n 3, 1) := by decide +kernel
theorem dX10_cut_102 : decode cX10_cut 102 = .ok (.if_icmp .ne 7, 3) := by decide +kernel
theorem dX10_cut_105 : decode cX10_cut 105 = .ok (.iconst 1, 1) := by decide +kernel
theorem dX10_cut_106 : decode cX10_cut 106 = .ok (.goto 4, 3) := by decide +kernel
theorem dX10_cut_109 : decode cX10_cut 109 = .ok (.iconst 0, 1) := by decide +kernel
theorem dX10_cut_110 : decode cX10_cut 110 = .ok (.bastore, 1) := by decide +kernel
theorem dX10_cut_111 : decode cX10_cut 111 = .ok (.iinc 4 1, 3) := by decide +kernel
theorem dX10_cut_114 : decode cX10_cut 114 = .ok (.goto (-54), 3) := by decide +kernel
theorem dX10_cut_117 : decode cX10_cut 117 = .ok (.aload_n 0, 1) := by decide +kernel
theorem dX10_cut_118 : decode cX10_cut 118 = .ok (.iload_n 1, 1) := by decide +kernel
theorem dX10_cut_119 : decode cX10_cut 119 = .ok (.iload_n 2, 1) := by decide +kernel
theorem dX10_cut_120 : decode cX10_cut 120 = .ok (.iload_n 3, 1) := by decide +kernel
theorem dX10_cut_121 : decode cX10_cut 121 = .ok (.invokevirtual 193, 3) := by decide +kernel
theorem dX10_cut_124 : decode cX10_cut 124 = .ok (.ireturn, 1) := by decide +kernel
theorem dX10_hang_0 : decode cX10_hang 0 = .ok (.iconst 0, 1) := by decide +kernel
theorem dX10_hang_1 : decode cX10_hang 1 = .ok (.istore_n 1, 1) := by decide +kernel
theorem dX10_hang_2 : decode cX10_hang 2 = .ok (.iload_n 1, 1) := by decide +kernel
theorem dX10_hang_3 : decode cX10_hang 3 = .ok (.aload_n 0, 1) := by decide +kernel
theorem dX10_hang_4 : decode cX10_hang 4 = .ok (.invokevirtual 97, 3) := by decide +kernel
theorem dX10_hang_7 : decode cX10_hang 7 = .ok (.if_icmp .ge 16, 3) := by decide +kernel
theorem dX10_hang_10 : decode cX10_hang 10 = .ok (.aload_n 0, 1) := by decide +kernel
theorem dX10_hang_11 : decode cX10_hang 11 = .ok (.getfield 63, 3) := by decide +kernel
theorem dX10_hang_14 : decode cX10_hang 14 = .ok (.iload_n 1, 1) := by decide +kernel
theorem dX10_hang_15 : decode cX10_hang 15 = .ok (.iload_n 1, 1) := by decide +kernel
theorem dX10_hang_16 : decode cX10_hang 16 = .ok (.iastore, 1) := by decide +kernel
theorem dX10_hang_17 : decode cX10_hang 17 = .ok (.iinc 1 1, 3) := by decide +kernel
theorem dX10_hang_20 : decode cX10_hang 20 = .ok (.goto (-18), 3) := by decide +kernel
theorem dX10_hang_23 : decode cX10_hang 23 = .ok (.iconst 1, 1) := by decide +kernel
theorem dX10_hang_24 : decode cX10_hang 24 = .ok (.istore_n 1, 1) := by decide +kernel
theorem dX10_hang_25 : decode cX10_hang 25 = .ok (.iload_n 1, 1) := by decide +kernel
theorem dX10_hang_26 : decode cX10_hang 26 = .ok (.ifCond .eq 99, 3) := by decide +kernel
theorem dX10_hang_29 : decode cX10_hang 29 = .ok (.iconst 0, 1) := by decide +kernel
theorem dX10_hang_30 : decode cX10_hang 30 = .ok (.istore_n 1, 1) := by decide +kernel
theorem dX10_hang_31 : decode cX10_hang 31 = .ok (.iconst 0, 1) := by decide +kernel
theorem dX10_hang_32 : decode cX10_hang 32 = .ok (.istore_n 2, 1) := by decide +kernel
theorem dX10_hang_33 : decode cX10_hang 33 = .ok (.iload_n 2, 1) := by decide +kernel
theorem dX10_hang_34 : decode cX10_hang 34 = .ok (.aload_n 0, 1) := by decide +kernel
theorem dX10_hang_35 : decode cX10_hang 35 = .ok (.invokevirtual 97, 3) := by decide +kernel
theorem dX10_hang_38 : decode cX10_hang 38 = .ok (.if_icmp .ge 84, 3) := by decide +kernel
theorem dX10_hang_41 : decode cX10_hang 41 = .ok (.iconst 0, 1) := by decide +kernel
theorem dX10_hang_42 : decode cX10_hang 42 = .ok (.istore_n 3, 1) := by decide +kernel
theorem dX10_hang_43 : decode cX10_hang 43 = .ok (.iload_n 3, 1) := by decide +kernel
theorem dX10_hang_44 : decode cX10_hang 44 = .ok (.iconst 3, 1) := by decide +kernel
theorem dX10_hang_45 : decode cX10_hang 45 = .ok (.if_icmp .ge 71, 3) := by decide +kernel
theorem dX10_hang_48 : decode cX10_hang 48 = .ok (.aload_n 0, 1) := by decide +kernel
theorem dX10_hang_49 : decode cX10_hang 49 = .ok (.iload_n 2, 1) := by decide +kernel
theorem dX10_hang_50 : decode cX10_hang 50 = .ok (.iload_n 3, 1) := by decide +kernel
theorem dX10_hang_51 : decode cX10_hang 51 = .ok (.invokevirtual 149, 3) := by decide +kernel
theorem dX10_hang_54 : decode cX10_hang 54 = .ok (.istore 4, 2) := by decide +kernel
theorem dX10_hang_56 : decode cX10_hang 56 = .ok (.iload 4, 2) := by decide +kernel
theorem dX10_hang_58 : decode cX10_hang 58 = .ok (.ldc 135, 2) := by decide +kernel
theorem dX10_hang_60 : decode cX10_hang 60 = .ok (.if_icmp .eq 50, 3) := by decide +kernel
theorem dX10_hang_63 : decode cX10_hang 63 = .ok (.aload_n 0, 1) := by decide +kernel
theorem dX10_hang_64 : decode cX10_hang 64 = .ok (.getfield 57, 3) := by decide +kernel
theorem dX10_hang_67 : decode cX10_hang 67 = .ok (.iload_n 2, 1) := by decide +kernel
theorem dX10_hang_68 : decode cX10_hang 68 = .ok (.baload, 1) := by decide +kernel
theorem dX10_hang_69 : decode cX10_hang 69 = .ok (.aload_n 0, 1) := by decide +kernel
theorem dX10_hang_70 : decode cX10_hang 70 = .ok (.getfield 57, 3) := by decide +kernel
theorem dX10_hang_73 : decode cX10_hang 73 = .ok (.iload 4, 2) := by decide +kernel
theorem dX10_hang_75 : decode cX10_hang 75 = .ok (.baload, 1) := by decide +kernel
theorem dX10_hang_76 : decode cX10_hang 76 = .ok (.if_icmp .ne 34, 3) := by decide +kernel
theorem dX10_hang_79 : decode cX10_hang 79 = .ok (.aload_n 0, 1) := by decide +kernel
theorem dX10_hang_80 : decode cX10_hang 80 = .ok (.getfield 63, 3) := by decide +kernel
theorem dX10_hang_83 : decode cX10_hang 83 = .ok (.iload 4, 2) := by decide +kernel
theorem dX10_hang_85 : decode cX10_hang 85 = .ok (.iaload, 1) := by decide +kernel
theorem dX10_hang_86 : decode cX10_hang 86 = .ok (.aload_n 0, 1) := by decide +kernel
theorem dX10_hang_87 : decode cX10_hang 87 = .ok (.getfield 63, 3) := by decide +kernel
theorem dX10_hang_90 : decode cX10_hang 90 = .ok (.iload_n 2, 1) := by decide +kernel
theorem dX10_hang_91 : decode cX10_hang 91 = .ok (.iaload, 1) := by decide +kernel
theorem dX10_hang_92 : decode cX10_hang 92 = .ok (.if_icmp .ge 18, 3) := by decide +kernel
theorem dX10_hang_95 : decode cX10_hang 95 = .ok (.aload_n 0, 1) := by decide +kernel
theorem dX10_hang_96 : decode cX10_hang 96 = .ok (.getfield 63, 3) := by decide +kernel
theorem dX10_hang_99 : decode cX10_hang 99 = .ok (.iload_n 2, 1) := by decide +kernel
theorem dX10_hang_100 : decode cX10_hang 100 = .ok (.aload_n 0, 1) := by decide +kernel
theorem dX10_hang_101 : decode cX10_hang 101 = .ok (.getfield 63, 3) := by decide +kernel
theorem dX10_hang_104 : decode cX10_hang 104 = .ok (.iload 4, 2) := by decide +kernel
theorem dX10_hang_106 : decode cX10_hang 106 = .ok (.iaload, 1) := by decide +kernel
theorem dX10_hang_107 : decode cX10_hang 107 = .ok (.iastore, 1) := by decide +kernel
theorem dX10_hang_108 : decode cX10_hang 108 = .ok (.iconst 1, 1) := by decide +kernel
theorem dX10_hang_109 : decode cX10_hang 109 = .ok (.istore_n 1, 1) := by decide +kernel
theorem dX10_hang_110 : decode cX10_hang 110 = .ok (.iinc 3 1, 3) := by decide +kernel
theorem dX10_hang_113 : decode cX10_hang 113 = .ok (.goto (-70), 3) := by decide +kernel
theorem dX10_hang_116 : decode cX10_hang 116 = .ok (.iinc 2 1, 3) := by decide +kernel
theorem dX10_hang_119 : decode cX10_hang 119 = .ok (.goto (-86), 3) := by decide +kernel
theorem dX10_hang_122 : decode cX10_hang 122 = .ok (.goto (-97), 3) := by decide +kernel
theorem dX10_hang_125 : decode cX10_hang 125 = .ok (.return_, 1) := by decide +kernel
theorem dX10_pieces_0 : decode cX10_pieces 0 = .ok (.aload_n 0, 1) := by decide +kernel
theorem dX10_pieces_1 : decode cX10_pieces 1 = .ok (.iconst 0, 1) := by decide +kernel
theorem dX10_pieces_2 : decode cX10_pieces 2 = .ok (.putfield 94, 3) := by decide +kernel
theorem dX10_pieces_5 : decode cX10_pieces 5 = .ok (.aload_n 0, 1) := by decide +kernel
theorem dX10_pieces_6 : decode cX10_pieces 6 = .ok (.invokevirtual 196, 3) := by decide +kernel
theorem dX10_pieces_9 : decode cX10_pieces 9 = .ok (.iconst 0, 1) := by decide +kernel
theorem dX10_pieces_10 : decode cX10_pieces 10 = .ok (.istore_n 2, 1) := by decide +kernel
theorem dX10_pieces_11 : decode cX10_pieces 11 = .ok (.iconst 0, 1) := by decide +kernel
theorem dX10_pieces_12 : decode cX10_pieces 12 = .ok (.istore_n 3, 1) := by decide +kernel
theorem dX10_pieces_13 : decode cX10_pieces 13 = .ok (.iload_n 3, 1) := by decide +kernel
theorem dX10_pieces_14 : decode cX10_pieces 14 = .ok (.aload_n 0, 1) := by decide +kernel
theorem dX10_pieces_15 : decode cX10_pieces 15 = .ok (.invokevirtual 97, 3) := by decide +kernel
theorem dX10_pieces_18 : decode cX10_pieces 18 = .ok (.if_icmp .ge 37, 3) := by decide +kernel
theorem dX10_pieces_21 : decode cX10_pieces 21 = .ok (.iload_n 2, 1) := by decide +kernel
theorem dX10_pieces_22 : decode cX10_pieces 22 = .ok (.aload_n 0, 1) := by decide +kernel
theorem dX10_pieces_23 : decode cX10_pieces 23 = .ok (.getfield 63, 3) := by decide +kernel
theorem dX10_pieces_26 : decode cX10_pieces 26 = .ok (.iload_n 3, 1) := by decide +kernel
theorem dX10_pieces_27 : decode cX10_pieces 27 = .ok (.iaload, 1) := by decide +kernel
theorem dX10_pieces_28 : decode cX10_pieces 28 = .ok (.iload_n 3, 1) := by decide +kernel
theorem dX10_pieces_29 : decode cX10_pieces 29 = .ok (.if_icmp .ne 17, 3) := by decide +kernel
theorem dX10_pieces_32 : decode cX10_pieces 32 = .ok (.aload_n 0, 1) := by decide +kernel
theorem dX10_pieces_33 : decode cX10_pieces 33 = .ok (.getfield 57, 3) := by decide +kernel
theorem dX10_pieces_36 : decode cX10_pieces 36 = .ok (.iload_n 3, 1) := by decide +kernel
theorem dX10_pieces_37 : decode cX10_pieces 37 = .ok (.baload, 1) := by decide +kernel
theorem dX10_pieces_38 : decode cX10_pieces 38 = .ok (.iload_n 1, 1) := by decide +kernel
theorem dX10_pieces_39 : decode cX10_pieces 39 = .ok (.if_icmp .eq 7, 3) := by decide +kernel
theorem dX10_pieces_42 : decode cX10_pieces 42 = .ok (.iconst 1, 1) := by decide +kernel
theorem dX10_pieces_43 : decode cX10_pieces 43 = .ok (.goto 4, 3) := by decide +kernel
theorem dX10_pieces_46 : decode cX10_pieces 46 = .ok (.iconst 0, 1) := by decide +kernel
theorem dX10_pieces_47 : decode cX10_pieces 47 = .ok (.iadd, 1) := by decide +kernel
theorem dX10_pieces_48 : decode cX10_pieces 48 = .ok (.istore_n 2, 1) := by decide +kernel
theorem dX10_pieces_49 : decode cX10_pieces 49 = .ok (.iinc 3 1, 3) := by decide +kernel
theorem dX10_pieces_52 : decode cX10_pieces 52 = .ok (.goto (-39), 3) := by decide +kernel
theorem dX10_pieces_55 : decode cX10_pieces 55 = .ok (.iload_n 2, 1) := by decide +kernel
theorem dX10_pieces_56 : decode cX10_pieces 56 = .ok (.ireturn, 1) := by decide +kernel
theorem dX10_holes_0 : decode cX10_holes 0 = .ok (.aload_n 0, 1) := by decide +kernel
theorem dX10_holes_1 : decode cX10_holes 1 = .ok (.iconst 0, 1) := by decide +kernel
theorem dX10_holes_2 : decode cX10_holes 2 = .ok (.putfield 94, 3) := by decide +kernel
theorem dX10_holes_5 : decode cX10_holes 5 = .ok (.aload_n 0, 1) := by decide +kernel
theorem dX10_holes_6 : decode cX10_holes 6 = .ok (.invokevirtual 196, 3) := by decide +kernel
theorem dX10_holes_9 : decode cX10_holes 9 = .ok (.iconst 0, 1) := by decide +kernel
theorem dX10_holes_10 : decode cX10_holes 10 = .ok (.istore_n 1, 1) := by decide +kernel
theorem dX10_holes_11 : decode cX10_holes 11 = .ok (.iconst 0, 1) := by decide +kernel
theorem dX10_holes_12 : decode cX10_holes 12 = .ok (.istore_n 2, 1) := by decide +kernel
theorem dX10_holes_13 : decode cX10_holes 13 = .ok (.iload_n 2, 1) := by decide +kernel
theorem dX10_holes_14 : decode cX10_holes 14 = .ok (.aload_n 0, 1) := by decide +kernel
theorem dX10_holes_15 : decode cX10_holes 15 = .ok (.invokevirtual 97, 3) := by decide +kernel
theorem dX10_holes_18 : decode cX10_holes 18 = .ok (.if_icmp .ge 97, 3) := by decide +kernel
theorem dX10_holes_21 : decode cX10_holes 21 = .ok (.aload_n 0, 1) := by decide +kernel
theorem dX10_holes_22 : decode cX10_holes 22 = .ok (.getfield 63, 3) := by decide +kernel
theorem dX10_holes_25 : decode cX10_holes 25 = .ok (.iload_n 2, 1) := by decide +kernel
theorem dX10_holes_26 : decode cX10_holes 26 = .ok (.iaload, 1) := by decide +kernel
theorem dX10_holes_27 : decode cX10_holes 27 = .ok (.iload_n 2, 1) := by decide +kernel
theorem dX10_holes_28 : decode cX10_holes 28 = .ok (.if_icmp .ne 16, 3) := by decide +kernel
theorem dX10_holes_31 : decode cX10_holes 31 = .ok (.aload_n 0, 1) := by decide +kernel
theorem dX10_holes_32 : decode cX10_holes 32 = .ok (.getfield 57, 3) := by decide +kernel
theorem dX10_holes_35 : decode cX10_holes 35 = .ok (.iload_n 2, 1) := by decide +kernel
theorem dX10_holes_36 : decode cX10_holes 36 = .ok (.baload, 1) := by decide +kernel
theorem dX10_holes_37 : decode cX10_holes 37 = .ok (.ifCond .eq 7, 3) := by decide +kernel
theorem dX10_holes_40 : decode cX10_holes 40 = .ok (.iconst 1, 1) := by decide +kernel
theorem dX10_holes_41 : decode cX10_holes 41 = .ok (.goto 4, 3) := by decide +kernel
theorem dX10_holes_44 : decode cX10_holes 44 = .ok (.iconst 0, 1) := by decide +kernel
theorem dX10_holes_45 : decode cX10_holes 45 = .ok (.istore_n 3, 1) := by decide +kernel
theorem dX10_holes_46 : decode cX10_holes 46 = .ok (.iconst 0, 1) := by decide +kernel
theorem dX10_holes_47 : decode cX10_holes 47 = .ok (.istore 4, 2) := by decide +kernel
theorem dX10_holes_49 : decode cX10_holes 49 = .ok (.iload 4, 2) := by decide +kernel
theorem dX10_holes_51 : decode cX10_holes 51 = .ok (.aload_n 0, 1) := by decide +kernel
theorem dX10_holes_52 : decode cX10_holes 52 = .ok (.invokevirtual 97, 3) := by decide +kernel
theorem dX10_holes_55 : decode cX10_holes 55 = .ok (.if_icmp .ge 42, 3) := by decide +kernel
theorem dX10_holes_58 : decode cX10_holes 58 = .ok (.iload_n 3, 1) := by decide +kernel
theorem dX10_holes_59 : decode cX10_holes 59 = .ok (.ifCond .eq 38, 3) := by decide +kernel
theorem dX10_holes_62 : decode cX10_holes 62 = .ok (.aload_n 0, 1) := by decide +kernel
theorem dX10_holes_63 : decode cX10_holes 63 = .ok (.getfield 63, 3) := by decide +kernel
theorem dX10_holes_66 : decode cX10_holes 66 = .ok (.iload 4, 2) := by decide +kernel
theorem dX10_holes_68 : decode cX10_holes 68 = .ok (.iaload, 1) := by decide +kernel
theorem dX10_holes_69 : decode cX10_holes 69 = .ok (.iload_n 2, 1) := by decide +kernel
theorem dX10_holes_70 : decode cX10_holes 70 = .ok (.if_icmp .ne 15, 3) := by decide +kernel
theorem dX10_holes_73 : decode cX10_holes 73 = .ok (.aload_n 0, 1) := by decide +kernel
theorem dX10_holes_74 : decode cX10_holes 74 = .ok (.iload 4, 2) := by decide +kernel
theorem dX10_holes_76 : decode cX10_holes 76 = .ok (.iconst 0, 1) := by decide +kernel
theorem dX10_holes_77 : decode cX10_holes 77 = .ok (.invokevirtual 149, 3) := by decide +kernel
theorem dX10_holes_80 : decode cX10_holes 80 = .ok (.ldc 135, 2) := by decide +kernel
theorem dX10_holes_82 : decode cX10_holes 82 = .ok (.if_icmp .eq 7, 3) := by decide +kernel
theorem dX10_holes_85 : decode cX10_holes 85 = .ok (.iconst 1, 1) := by decide +kernel
theorem dX10_holes_86 : decode cX10_holes 86 = .ok (.goto 4, 3) := by decide +kernel
theorem dX10_holes_89 : decode cX10_holes 89 = .ok (.iconst 0, 1) := by decide +kernel
theorem dX10_holes_90 : decode cX10_holes 90 = .ok (.istore_n 3, 1) := by decide +kernel
theorem dX10_holes_91 : decode cX10_holes 91 = .ok (.iinc 4 1, 3) := by decide +kernel
theorem dX10_holes_94 : decode cX10_holes 94 = .ok (.goto (-45), 3) := by decide +kernel
theorem dX10_holes_97 : decode cX10_holes 97 = .ok (.iload_n 1, 1) := by decide +kernel
theorem dX10_holes_98 : decode cX10_holes 98 = .ok (.iload_n 3, 1) := by decide +kernel
theorem dX10_holes_99 : decode cX10_holes 99 = .ok (.ifCond .eq 7, 3) := by decide +kernel
theorem dX10_holes_102 : decode cX10_holes 102 = .ok (.iconst 1, 1) := by decide +kernel
theorem dX10_holes_103 : decode cX10_holes 103 = .ok (.goto 4, 3) := by decide +kernel
theorem dX10_holes_106 : decode cX10_holes 106 = .ok (.iconst 0, 1) := by decide +kernel
theorem dX10_holes_107 : decode cX10_holes 107 = .ok (.iadd, 1) := by decide +kernel
theorem dX10_holes_108 : decode cX10_holes 108 = .ok (.istore_n 1, 1) := by decide +kernel
theorem dX10_holes_109 : decode cX10_holes 109 = .ok (.iinc 2 1, 3) := by decide +kernel
theorem dX10_holes_112 : decode cX10_holes 112 = .ok (.goto (-99), 3) := by decide +kernel
theorem dX10_holes_115 : decode cX10_holes 115 = .ok (.iload_n 1, 1) := by decide +kernel
theorem dX10_holes_116 : decode cX10_holes 116 = .ok (.ireturn, 1) := by decide +kernel
theorem dX10_rims_0 : decode cX10_rims 0 = .ok (.aload_n 0, 1) := by decide +kernel
theorem dX10_rims_1 : decode cX10_rims 1 = .ok (.iconst 0, 1) := by decide +kernel
theorem dX10_rims_2 : decode cX10_rims 2 = .ok (.putfield 94, 3) := by decide +kernel
theorem dX10_rims_5 : decode cX10_rims 5 = .ok (.iconst 0, 1) := by decide +kernel
theorem dX10_rims_6 : decode cX10_rims 6 = .ok (.istore_n 2, 1) := by decide +kernel
theorem dX10_rims_7 : decode cX10_rims 7 = .ok (.iconst 0, 1) := by decide +kernel
theorem dX10_rims_8 : decode cX10_rims 8 = .ok (.istore_n 3, 1) := by decide +kernel
theorem dX10_rims_9 : decode cX10_rims 9 = .ok (.iload_n 3, 1) := by decide +kernel
theorem dX10_rims_10 : decode cX10_rims 10 = .ok (.aload_n 0, 1) := by decide +kernel
theorem dX10_rims_11 : decode cX10_rims 11 = .ok (.invokevirtual 97, 3) := by decide +kernel
theorem dX10_rims_14 : decode cX10_rims 14 = .ok (.if_icmp .ge 81, 3) := by decide +kernel
theorem dX10_rims_17 : decode cX10_rims 17 = .ok (.iconst 0, 1) := by decide +kernel
theorem dX10_rims_18 : decode cX10_rims 18 = .ok (.istore 4, 2) := by decide +kernel
theorem dX10_rims_20 : decode cX10_rims 20 = .ok (.iload 4, 2) := by decide +kernel
theorem dX10_rims_22 : decode cX10_rims 22 = .ok (.iconst 3, 1) := by decide +kernel
theorem dX10_rims_23 : decode cX10_rims 23 = .ok (.if_icmp .ge 66, 3) := by decide +kernel
theorem dX10_rims_26 : decode cX10_rims 26 = .ok (.aload_n 0, 1) := by decide +kernel
theorem dX10_rims_27 : decode cX10_rims 27 = .ok (.iload_n 3, 1) := by decide +kernel
theorem dX10_rims_28 : decode cX10_rims 28 = .ok (.iload 4, 2) := by decide +kernel
theorem dX10_rims_30 : decode cX10_rims 30 = .ok (.invokevirtual 149, 3) := by decide +kernel
theorem dX10_rims_33 : decode cX10_rims 33 = .ok (.istore 5, 2) := by decide +kernel
theorem dX10_rims_35 : decode cX10_rims 35 = .ok (.iload_n 2, 1) := by decide +kernel
theorem dX10_rims_36 : decode cX10_rims 36 = .ok (.iload 5, 2) := by decide +kernel
theorem dX10_rims_38 : decode cX10_rims 38 = .ok (.ldc 135, 2) := by decide +kernel
theorem dX10_rims_40 : decode cX10_rims 40 = .ok (.if_icmp .eq 40, 3) := by decide +kernel
theorem dX10_rims_43 : decode cX10_rims 43 = .ok (.aload_n 0, 1) := by decide +kernel
theorem dX10_rims_44 : decode cX10_rims 44 = .ok (.getfield 57, 3) := by decide +kernel
theorem dX10_rims_47 : decode cX10_rims 47 = .ok (.iload_n 3, 1) := by decide +kernel
theorem dX10_rims_48 : decode cX10_rims 48 = .ok (.baload, 1) := by decide +kernel
theorem dX10_rims_49 : decode cX10_rims 49 = .ok (.ifCond .eq 31, 3) := by decide +kernel
theorem dX10_rims_52 : decode cX10_rims 52 = .ok (.aload_n 0, 1) := by decide +kernel
theorem dX10_rims_53 : decode cX10_rims 53 = .ok (.getfield 57, 3) := by decide +kernel
theorem dX10_rims_56 : decode cX10_rims 56 = .ok (.iload 5, 2) := by decide +kernel
theorem dX10_rims_58 : decode cX10_rims 58 = .ok (.baload, 1) := by decide +kernel
theorem dX10_rims_59 : decode cX10_rims 59 = .ok (.ifCond .ne 21, 3) := by decide +kernel
theorem dX10_rims_62 : decode cX10_rims 62 = .ok (.iload 4, 2) := by decide +kernel
theorem dX10_rims_64 : decode cX10_rims 64 = .ok (.ifCond .le 7, 3) := by decide +kernel
theorem dX10_rims_67 : decode cX10_rims 67 = .ok (.iconst 1, 1) := by decide +kernel
theorem dX10_rims_68 : decode cX10_rims 68 = .ok (.goto 4, 3) := by decide +kernel
theorem dX10_rims_71 : decode cX10_rims 71 = .ok (.iconst 0, 1) := by decide +kernel
theorem dX10_rims_72 : decode cX10_rims 72 = .ok (.iload_n 1, 1) := by decide +kernel
theorem dX10_rims_73 : decode cX10_rims 73 = .ok (.if_icmp .ne 7, 3) := by decide +kernel
theorem dX10_rims_76 : decode cX10_rims 76 = .ok (.iconst 1, 1) := by decide +kernel
theorem dX10_rims_77 : decode cX10_rims 77 = .ok (.goto 4, 3) := by decide +kernel
theorem dX10_rims_80 : decode cX10_rims 80 = .ok (.iconst 0, 1) := by decide +kernel
theorem dX10_rims_81 : decode cX10_rims 81 = .ok (.iadd, 1) := by decide +kernel
theorem dX10_rims_82 : decode cX10_rims 82 = .ok (.istore_n 2, 1) := by decide +kernel
theorem dX10_rims_83 : decode cX10_rims 83 = .ok (.iinc 4 1, 3) := by decide +kernel
theorem dX10_rims_86 : decode cX10_rims 86 = .ok (.goto (-66), 3) := by decide +kernel
theorem dX10_rims_89 : decode cX10_rims 89 = .ok (.iinc 3 1, 3) := by decide +kernel
theorem dX10_rims_92 : decode cX10_rims 92 = .ok (.goto (-83), 3) := by decide +kernel
theorem dX10_rims_95 : decode cX10_rims 95 = .ok (.iload_n 2, 1) := by decide +kernel
theorem dX10_rims_96 : decode cX10_rims 96 = .ok (.ireturn, 1) := by decide +kernel
theorem dX10_piece_0 : decode cX10_piece 0 = .ok (.aload_n 0, 1) := by decide +kernel
theorem dX10_piece_1 : decode cX10_piece 1 = .ok (.iconst 0, 1) := by decide +kernel
theorem dX10_piece_2 : decode cX10_piece 2 = .ok (.putfield 94, 3) := by decide +kernel
theorem dX10_piece_5 : decode cX10_piece 5 = .ok (.aload_n 0, 1) := by decide +kernel
theorem dX10_piece_6 : decode cX10_piece 6 = .ok (.iload_n 1, 1) := by decide +kernel
end
section
theorem dX10_piece_7 : decode cX10_piece 7 = .ok (.invokevirtual 160, 3) := by decide +kernel
theorem dX10_piece_10 : decode cX10_piece 10 = .ok (.ifCond .eq 5, 3) := by decide +kernel
theorem dX10_piece_13 : decode cX10_piece 13 = .ok (.iconst (-1), 1) := by decide +kernel
theorem dX10_piece_14 : decode cX10_piece 14 = .ok (.ireturn, 1) := by decide +kernel
theorem dX10_piece_15 : decode cX10_piece 15 = .ok (.aload_n 0, 1) := by decide +kernel
theorem dX10_piece_16 : decode cX10_piece 16 = .ok (.invokevirtual 196, 3) := by decide +kernel
theorem dX10_piece_19 : decode cX10_piece 19 = .ok (.aload_n 0, 1) := by decide +kernel
theorem dX10_piece_20 : decode cX10_piece 20 = .ok (.getfield 63, 3) := by decide +kernel
theorem dX10_piece_23 : decode cX10_piece 23 = .ok (.iload_n 1, 1) := by decide +kernel
theorem dX10_piece_24 : decode cX10_piece 24 = .ok (.iaload, 1) := by decide +kernel
theorem dX10_piece_25 : decode cX10_piece 25 = .ok (.ireturn, 1) := by decide +kernel
theorem dX10_marked_0 : decode cX10_marked 0 = .ok (.iconst 0, 1) := by decide +kernel
theorem dX10_marked_1 : decode cX10_marked 1 = .ok (.istore_n 1, 1) := by decide +kernel
theorem dX10_marked_2 : decode cX10_marked 2 = .ok (.iconst 0, 1) := by decide +kernel
theorem dX10_marked_3 : decode cX10_marked 3 = .ok (.istore_n 2, 1) := by decide +kernel
theorem dX10_marked_4 : decode cX10_marked 4 = .ok (.iload_n 2, 1) := by decide +kernel
theorem dX10_marked_5 : decode cX10_marked 5 = .ok (.aload_n 0, 1) := by decide +kernel
theorem dX10_marked_6 : decode cX10_marked 6 = .ok (.invokevirtual 97, 3) := by decide +kernel
theorem dX10_marked_9 : decode cX10_marked 9 = .ok (.if_icmp .ge 26, 3) := by decide +kernel
theorem dX10_marked_12 : decode cX10_marked 12 = .ok (.iload_n 1, 1) := by decide +kernel
theorem dX10_marked_13 : decode cX10_marked 13 = .ok (.aload_n 0, 1) := by decide +kernel
theorem dX10_marked_14 : decode cX10_marked 14 = .ok (.getfield 60, 3) := by decide +kernel
theorem dX10_marked_17 : decode cX10_marked 17 = .ok (.iload_n 2, 1) := by decide +kernel
theorem dX10_marked_18 : decode cX10_marked 18 = .ok (.baload, 1) := by decide +kernel
theorem dX10_marked_19 : decode cX10_marked 19 = .ok (.ifCond .eq 7, 3) := by decide +kernel
theorem dX10_marked_22 : decode cX10_marked 22 = .ok (.iconst 1, 1) := by decide +kernel
theorem dX10_marked_23 : decode cX10_marked 23 = .ok (.goto 4, 3) := by decide +kernel
theorem dX10_marked_26 : decode cX10_marked 26 = .ok (.iconst 0, 1) := by decide +kernel
theorem dX10_marked_27 : decode cX10_marked 27 = .ok (.iadd, 1) := by decide +kernel
theorem dX10_marked_28 : decode cX10_marked 28 = .ok (.istore_n 1, 1) := by decide +kernel
theorem dX10_marked_29 : decode cX10_marked 29 = .ok (.iinc 2 1, 3) := by decide +kernel
theorem dX10_marked_32 : decode cX10_marked 32 = .ok (.goto (-28), 3) := by decide +kernel
theorem dX10_marked_35 : decode cX10_marked 35 = .ok (.iload_n 1, 1) := by decide +kernel
theorem dX10_marked_36 : decode cX10_marked 36 = .ok (.ireturn, 1) := by decide +kernel
theorem dX10_mark_0 : decode cX10_mark 0 = .ok (.aload_n 0, 1) := by decide +kernel
theorem dX10_mark_1 : decode cX10_mark 1 = .ok (.iconst 0, 1) := by decide +kernel
theorem dX10_mark_2 : decode cX10_mark 2 = .ok (.putfield 94, 3) := by decide +kernel
theorem dX10_mark_5 : decode cX10_mark 5 = .ok (.aload_n 0, 1) := by decide +kernel
theorem dX10_mark_6 : decode cX10_mark 6 = .ok (.iload_n 1, 1) := by decide +kernel
theorem dX10_mark_7 : decode cX10_mark 7 = .ok (.invokevirtual 160, 3) := by decide +kernel
theorem dX10_mark_10 : decode cX10_mark 10 = .ok (.ifCond .eq 5, 3) := by decide +kernel
theorem dX10_mark_13 : decode cX10_mark 13 = .ok (.iconst (-1), 1) := by decide +kernel
theorem dX10_mark_14 : decode cX10_mark 14 = .ok (.ireturn, 1) := by decide +kernel
theorem dX10_mark_15 : decode cX10_mark 15 = .ok (.aload_n 0, 1) := by decide +kernel
theorem dX10_mark_16 : decode cX10_mark 16 = .ok (.getfield 60, 3) := by decide +kernel
theorem dX10_mark_19 : decode cX10_mark 19 = .ok (.iload_n 1, 1) := by decide +kernel
theorem dX10_mark_20 : decode cX10_mark 20 = .ok (.baload, 1) := by decide +kernel
theorem dX10_mark_21 : decode cX10_mark 21 = .ok (.ifCond .eq 7, 3) := by decide +kernel
theorem dX10_mark_24 : decode cX10_mark 24 = .ok (.iconst 1, 1) := by decide +kernel
theorem dX10_mark_25 : decode cX10_mark 25 = .ok (.goto 4, 3) := by decide +kernel
theorem dX10_mark_28 : decode cX10_mark 28 = .ok (.iconst 0, 1) := by decide +kernel
theorem dX10_mark_29 : decode cX10_mark 29 = .ok (.istore_n 3, 1) := by decide +kernel
theorem dX10_mark_30 : decode cX10_mark 30 = .ok (.aload_n 0, 1) := by decide +kernel
theorem dX10_mark_31 : decode cX10_mark 31 = .ok (.getfield 60, 3) := by decide +kernel
theorem dX10_mark_34 : decode cX10_mark 34 = .ok (.iload_n 1, 1) := by decide +kernel
theorem dX10_mark_35 : decode cX10_mark 35 = .ok (.iload_n 2, 1) := by decide +kernel
theorem dX10_mark_36 : decode cX10_mark 36 = .ok (.bastore, 1) := by decide +kernel
theorem dX10_mark_37 : decode cX10_mark 37 = .ok (.iload_n 3, 1) := by decide +kernel
theorem dX10_mark_38 : decode cX10_mark 38 = .ok (.ireturn, 1) := by decide +kernel
theorem dX10_markCell_0 : decode cX10_markCell 0 = .ok (.aload_n 0, 1) := by decide +kernel
theorem dX10_markCell_1 : decode cX10_markCell 1 = .ok (.iconst 0, 1) := by decide +kernel
theorem dX10_markCell_2 : decode cX10_markCell 2 = .ok (.putfield 94, 3) := by decide +kernel
theorem dX10_markCell_5 : decode cX10_markCell 5 = .ok (.iload_n 1, 1) := by decide +kernel
theorem dX10_markCell_6 : decode cX10_markCell 6 = .ok (.i2l, 1) := by decide +kernel
theorem dX10_markCell_7 : decode cX10_markCell 7 = .ok (.lconst 0, 1) := by decide +kernel
theorem dX10_markCell_8 : decode cX10_markCell 8 = .ok (.aload_n 0, 1) := by decide +kernel
theorem dX10_markCell_9 : decode cX10_markCell 9 = .ok (.getfield 7, 3) := by decide +kernel
theorem dX10_markCell_12 : decode cX10_markCell 12 = .ok (.iconst 1, 1) := by decide +kernel
theorem dX10_markCell_13 : decode cX10_markCell 13 = .ok (.isub, 1) := by decide +kernel
theorem dX10_markCell_14 : decode cX10_markCell 14 = .ok (.i2l, 1) := by decide +kernel
theorem dX10_markCell_15 : decode cX10_markCell 15 = .ok (.invokestatic 101, 3) := by decide +kernel
theorem dX10_markCell_18 : decode cX10_markCell 18 = .ok (.ifCond .eq 19, 3) := by decide +kernel
theorem dX10_markCell_21 : decode cX10_markCell 21 = .ok (.iload_n 2, 1) := by decide +kernel
theorem dX10_markCell_22 : decode cX10_markCell 22 = .ok (.i2l, 1) := by decide +kernel
theorem dX10_markCell_23 : decode cX10_markCell 23 = .ok (.lconst 0, 1) := by decide +kernel
theorem dX10_markCell_24 : decode cX10_markCell 24 = .ok (.aload_n 0, 1) := by decide +kernel
theorem dX10_markCell_25 : decode cX10_markCell 25 = .ok (.getfield 7, 3) := by decide +kernel
theorem dX10_markCell_28 : decode cX10_markCell 28 = .ok (.iconst 1, 1) := by decide +kernel
theorem dX10_markCell_29 : decode cX10_markCell 29 = .ok (.isub, 1) := by decide +kernel
theorem dX10_markCell_30 : decode cX10_markCell 30 = .ok (.i2l, 1) := by decide +kernel
theorem dX10_markCell_31 : decode cX10_markCell 31 = .ok (.invokestatic 101, 3) := by decide +kernel
theorem dX10_markCell_34 : decode cX10_markCell 34 = .ok (.ifCond .ne 6, 3) := by decide +kernel
theorem dX10_markCell_37 : decode cX10_markCell 37 = .ok (.bipush (-2), 2) := by decide +kernel
theorem dX10_markCell_39 : decode cX10_markCell 39 = .ok (.ireturn, 1) := by decide +kernel
theorem dX10_markCell_40 : decode cX10_markCell 40 = .ok (.iconst 0, 1) := by decide +kernel
theorem dX10_markCell_41 : decode cX10_markCell 41 = .ok (.istore 4, 2) := by decide +kernel
theorem dX10_markCell_43 : decode cX10_markCell 43 = .ok (.iload 4, 2) := by decide +kernel
theorem dX10_markCell_45 : decode cX10_markCell 45 = .ok (.iconst 4, 1) := by decide +kernel
theorem dX10_markCell_46 : decode cX10_markCell 46 = .ok (.if_icmp .ge 28, 3) := by decide +kernel
theorem dX10_markCell_49 : decode cX10_markCell 49 = .ok (.aload_n 0, 1) := by decide +kernel
theorem dX10_markCell_50 : decode cX10_markCell 50 = .ok (.getfield 60, 3) := by decide +kernel
theorem dX10_markCell_53 : decode cX10_markCell 53 = .ok (.iconst 4, 1) := by decide +kernel
theorem dX10_markCell_54 : decode cX10_markCell 54 = .ok (.iload_n 2, 1) := by decide +kernel
theorem dX10_markCell_55 : decode cX10_markCell 55 = .ok (.aload_n 0, 1) := by decide +kernel
theorem dX10_markCell_56 : decode cX10_markCell 56 = .ok (.getfield 7, 3) := by decide +kernel
theorem dX10_markCell_59 : decode cX10_markCell 59 = .ok (.imul, 1) := by decide +kernel
theorem dX10_markCell_60 : decode cX10_markCell 60 = .ok (.iload_n 1, 1) := by decide +kernel
theorem dX10_markCell_61 : decode cX10_markCell 61 = .ok (.iadd, 1) := by decide +kernel
theorem dX10_markCell_62 : decode cX10_markCell 62 = .ok (.imul, 1) := by decide +kernel
theorem dX10_markCell_63 : decode cX10_markCell 63 = .ok (.iload 4, 2) := by decide +kernel
theorem dX10_markCell_65 : decode cX10_markCell 65 = .ok (.iadd, 1) := by decide +kernel
theorem dX10_markCell_66 : decode cX10_markCell 66 = .ok (.iload_n 3, 1) := by decide +kernel
theorem dX10_markCell_67 : decode cX10_markCell 67 = .ok (.bastore, 1) := by decide +kernel
theorem dX10_markCell_68 : decode cX10_markCell 68 = .ok (.iinc 4 1, 3) := by decide +kernel
theorem dX10_markCell_71 : decode cX10_markCell 71 = .ok (.goto (-28), 3) := by decide +kernel
theorem dX10_markCell_74 : decode cX10_markCell 74 = .ok (.aload_n 0, 1) := by decide +kernel
theorem dX10_markCell_75 : decode cX10_markCell 75 = .ok (.invokevirtual 199, 3) := by decide +kernel
theorem dX10_markCell_78 : decode cX10_markCell 78 = .ok (.ireturn, 1) := by decide +kernel
theorem dX10_take_0 : decode cX10_take 0 = .ok (.aload_n 0, 1) := by decide +kernel
theorem dX10_take_1 : decode cX10_take 1 = .ok (.iconst 0, 1) := by decide +kernel
theorem dX10_take_2 : decode cX10_take 2 = .ok (.putfield 94, 3) := by decide +kernel
theorem dX10_take_5 : decode cX10_take 5 = .ok (.aload_n 0, 1) := by decide +kernel
theorem dX10_take_6 : decode cX10_take 6 = .ok (.getfield 114, 3) := by decide +kernel
theorem dX10_take_9 : decode cX10_take 9 = .ok (.ifCond .ne 6, 3) := by decide +kernel
theorem dX10_take_12 : decode cX10_take 12 = .ok (.bipush (-3), 2) := by decide +kernel
theorem dX10_take_14 : decode cX10_take 14 = .ok (.ireturn, 1) := by decide +kernel
theorem dX10_take_15 : decode cX10_take 15 = .ok (.iconst 0, 1) := by decide +kernel
theorem dX10_take_16 : decode cX10_take 16 = .ok (.istore_n 1, 1) := by decide +kernel
theorem dX10_take_17 : decode cX10_take 17 = .ok (.iload_n 1, 1) := by decide +kernel
theorem dX10_take_18 : decode cX10_take 18 = .ok (.aload_n 0, 1) := by decide +kernel
theorem dX10_take_19 : decode cX10_take 19 = .ok (.invokevirtual 97, 3) := by decide +kernel
theorem dX10_take_22 : decode cX10_take 22 = .ok (.if_icmp .ge 21, 3) := by decide +kernel
theorem dX10_take_25 : decode cX10_take 25 = .ok (.aload_n 0, 1) := by decide +kernel
theorem dX10_take_26 : decode cX10_take 26 = .ok (.getfield 60, 3) := by decide +kernel
theorem dX10_take_29 : decode cX10_take 29 = .ok (.iload_n 1, 1) := by decide +kernel
theorem dX10_take_30 : decode cX10_take 30 = .ok (.aload_n 0, 1) := by decide +kernel
theorem dX10_take_31 : decode cX10_take 31 = .ok (.getfield 57, 3) := by decide +kernel
theorem dX10_take_34 : decode cX10_take 34 = .ok (.iload_n 1, 1) := by decide +kernel
theorem dX10_take_35 : decode cX10_take 35 = .ok (.baload, 1) := by decide +kernel
theorem dX10_take_36 : decode cX10_take 36 = .ok (.bastore, 1) := by decide +kernel
theorem dX10_take_37 : decode cX10_take 37 = .ok (.iinc 1 1, 3) := by decide +kernel
theorem dX10_take_40 : decode cX10_take 40 = .ok (.goto (-23), 3) := by decide +kernel
theorem dX10_take_43 : decode cX10_take 43 = .ok (.aload_n 0, 1) := by decide +kernel
theorem dX10_take_44 : decode cX10_take 44 = .ok (.invokevirtual 199, 3) := by decide +kernel
theorem dX10_take_47 : decode cX10_take 47 = .ok (.ireturn, 1) := by decide +kernel
theorem dX10_same_0 : decode cX10_same 0 = .ok (.aload_n 0, 1) := by decide +kernel
theorem dX10_same_1 : decode cX10_same 1 = .ok (.iconst 0, 1) := by decide +kernel
theorem dX10_same_2 : decode cX10_same 2 = .ok (.putfield 94, 3) := by decide +kernel
theorem dX10_same_5 : decode cX10_same 5 = .ok (.iconst 1, 1) := by decide +kernel
theorem dX10_same_6 : decode cX10_same 6 = .ok (.istore_n 1, 1) := by decide +kernel
theorem dX10_same_7 : decode cX10_same 7 = .ok (.iconst 0, 1) := by decide +kernel
theorem dX10_same_8 : decode cX10_same 8 = .ok (.istore_n 2, 1) := by decide +kernel
theorem dX10_same_9 : decode cX10_same 9 = .ok (.iload_n 2, 1) := by decide +kernel
theorem dX10_same_10 : decode cX10_same 10 = .ok (.aload_n 0, 1) := by decide +kernel
theorem dX10_same_11 : decode cX10_same 11 = .ok (.invokevirtual 97, 3) := by decide +kernel
theorem dX10_same_14 : decode cX10_same 14 = .ok (.if_icmp .ge 34, 3) := by decide +kernel
theorem dX10_same_17 : decode cX10_same 17 = .ok (.iload_n 1, 1) := by decide +kernel
theorem dX10_same_18 : decode cX10_same 18 = .ok (.ifCond .eq 22, 3) := by decide +kernel
theorem dX10_same_21 : decode cX10_same 21 = .ok (.aload_n 0, 1) := by decide +kernel
theorem dX10_same_22 : decode cX10_same 22 = .ok (.getfield 60, 3) := by decide +kernel
theorem dX10_same_25 : decode cX10_same 25 = .ok (.iload_n 2, 1) := by decide +kernel
theorem dX10_same_26 : decode cX10_same 26 = .ok (.baload, 1) := by decide +kernel
theorem dX10_same_27 : decode cX10_same 27 = .ok (.aload_n 0, 1) := by decide +kernel
theorem dX10_same_28 : decode cX10_same 28 = .ok (.getfield 57, 3) := by decide +kernel
theorem dX10_same_31 : decode cX10_same 31 = .ok (.iload_n 2, 1) := by decide +kernel
theorem dX10_same_32 : decode cX10_same 32 = .ok (.baload, 1) := by decide +kernel
theorem dX10_same_33 : decode cX10_same 33 = .ok (.if_icmp .ne 7, 3) := by decide +kernel
theorem dX10_same_36 : decode cX10_same 36 = .ok (.iconst 1, 1) := by decide +kernel
theorem dX10_same_37 : decode cX10_same 37 = .ok (.goto 4, 3) := by decide +kernel
theorem dX10_same_40 : decode cX10_same 40 = .ok (.iconst 0, 1) := by decide +kernel
theorem dX10_same_41 : decode cX10_same 41 = .ok (.istore_n 1, 1) := by decide +kernel
theorem dX10_same_42 : decode cX10_same 42 = .ok (.iinc 2 1, 3) := by decide +kernel
theorem dX10_same_45 : decode cX10_same 45 = .ok (.goto (-36), 3) := by decide +kernel
theorem dX10_same_48 : decode cX10_same 48 = .ok (.iload_n 1, 1) := by decide +kernel
theorem dX10_same_49 : decode cX10_same 49 = .ok (.ifCond .eq 7, 3) := by decide +kernel
theorem dX10_same_52 : decode cX10_same 52 = .ok (.iconst 1, 1) := by decide +kernel
theorem dX10_same_53 : decode cX10_same 53 = .ok (.goto 4, 3) := by decide +kernel
theorem dX10_same_56 : decode cX10_same 56 = .ok (.iconst 0, 1) := by decide +kernel
theorem dX10_same_57 : decode cX10_same 57 = .ok (.ireturn, 1) := by decide +kernel
theorem dX10_isMirror_0 : decode cX10_isMirror 0 = .ok (.iconst 1, 1) := by decide +kernel
theorem dX10_isMirror_1 : decode cX10_isMirror 1 = .ok (.istore_n 3, 1) := by decide +kernel
theorem dX10_isMirror_2 : decode cX10_isMirror 2 = .ok (.iconst 0, 1) := by decide +kernel
theorem dX10_isMirror_3 : decode cX10_isMirror 3 = .ok (.istore 4, 2) := by decide +kernel
theorem dX10_isMirror_5 : decode cX10_isMirror 5 = .ok (.iload 4, 2) := by decide +kernel
theorem dX10_isMirror_7 : decode cX10_isMirror 7 = .ok (.aload_n 0, 1) := by decide +kernel
theorem dX10_isMirror_8 : decode cX10_isMirror 8 = .ok (.invokevirtual 97, 3) := by decide +kernel
theorem dX10_isMirror_11 : decode cX10_isMirror 11 = .ok (.if_icmp .ge 121, 3) := by decide +kernel
theorem dX10_isMirror_14 : decode cX10_isMirror 14 = .ok (.iload_n 3, 1) := by decide +kernel
theorem dX10_isMirror_15 : decode cX10_isMirror 15 = .ok (.ifCond .eq 117, 3) := by decide +kernel
theorem dX10_isMirror_18 : decode cX10_isMirror 18 = .ok (.aload_n 0, 1) := by decide +kernel
theorem dX10_isMirror_19 : decode cX10_isMirror 19 = .ok (.iload_n 1, 1) := by decide +kernel
theorem dX10_isMirror_20 : decode cX10_isMirror 20 = .ok (.iload_n 2, 1) := by decide +kernel
theorem dX10_isMirror_21 : decode cX10_isMirror 21 = .ok (.iload 4, 2) := by decide +kernel
theorem dX10_isMirror_23 : decode cX10_isMirror 23 = .ok (.iconst 4, 1) := by decide +kernel
theorem dX10_isMirror_24 : decode cX10_isMirror 24 = .ok (.idiv, 1) := by decide +kernel
theorem dX10_isMirror_25 : decode cX10_isMirror 25 = .ok (.aload_n 0, 1) := by decide +kernel
theorem dX10_isMirror_26 : decode cX10_isMirror 26 = .ok (.getfield 7, 3) := by decide +kernel
theorem dX10_isMirror_29 : decode cX10_isMirror 29 = .ok (.irem, 1) := by decide +kernel
theorem dX10_isMirror_30 : decode cX10_isMirror 30 = .ok (.iload 4, 2) := by decide +kernel
theorem dX10_isMirror_32 : decode cX10_isMirror 32 = .ok (.iconst 4, 1) := by decide +kernel
theorem dX10_isMirror_33 : decode cX10_isMirror 33 = .ok (.idiv, 1) := by decide +kernel
theorem dX10_isMirror_34 : decode cX10_isMirror 34 = .ok (.aload_n 0, 1) := by decide +kernel
theorem dX10_isMirror_35 : decode cX10_isMirror 35 = .ok (.getfield 7, 3) := by decide +kernel
theorem dX10_isMirror_38 : decode cX10_isMirror 38 = .ok (.idiv, 1) := by decide +kernel
theorem dX10_isMirror_39 : decode cX10_isMirror 39 = .ok (.iload 4, 2) := by decide +kernel
theorem dX10_isMirror_41 : decode cX10_isMirror 41 = .ok (.iconst 4, 1) := by decide +kernel
theorem dX10_isMirror_42 : decode cX10_isMirror 42 = .ok (.irem, 1) := by decide +kernel
theorem dX10_isMirror_43 : decode cX10_isMirror 43 = .ok (.invokevirtual 153, 3) := by decide +kernel
theorem dX10_isMirror_46 : decode cX10_isMirror 46 = .ok (.aload_n 0, 1) := by decide +kernel
theorem dX10_isMirror_47 : decode cX10_isMirror 47 = .ok (.getfield 122, 3) := by decide +kernel
theorem dX10_isMirror_50 : decode cX10_isMirror 50 = .ok (.i2l, 1) := by decide +kernel
theorem dX10_isMirror_51 : decode cX10_isMirror 51 = .ok (.lconst 0, 1) := by decide +kernel
theorem dX10_isMirror_52 : decode cX10_isMirror 52 = .ok (.aload_n 0, 1) := by decide +kernel
theorem dX10_isMirror_53 : decode cX10_isMirror 53 = .ok (.getfield 7, 3) := by decide +kernel
theorem dX10_isMirror_56 : decode cX10_isMirror 56 = .ok (.iconst 1, 1) := by decide +kernel
theorem dX10_isMirror_57 : decode cX10_isMirror 57 = .ok (.isub, 1) := by decide +kernel
theorem dX10_isMirror_58 : decode cX10_isMirror 58 = .ok (.i2l, 1) := by decide +kernel
theorem dX10_isMirror_59 : decode cX10_isMirror 59 = .ok (.invokestatic 101, 3) := by decide +kernel
theorem dX10_isMirror_62 : decode cX10_isMirror 62 = .ok (.ifCond .eq 62, 3) := by decide +kernel
theorem dX10_isMirror_65 : decode cX10_isMirror 65 = .ok (.aload_n 0, 1) := by decide +kernel
theorem dX10_isMirror_66 : decode cX10_isMirror 66 = .ok (.getfield 125, 3) := by decide +kernel
theorem dX10_isMirror_69 : decode cX10_isMirror 69 = .ok (.i2l, 1) := by decide +kernel
theorem dX10_isMirror_70 : decode cX10_isMirror 70 = .ok (.lconst 0, 1) := by decide +kernel
theorem dX10_isMirror_71 : decode cX10_isMirror 71 = .ok (.aload_n 0, 1) := by decide +kernel
theorem dX10_isMirror_72 : decode cX10_isMirror 72 = .ok (.getfield 7, 3) := by decide +kernel
theorem dX10_isMirror_75 : decode cX10_isMirror 75 = .ok (.iconst 1, 1) := by decide +kernel
theorem dX10_isMirror_76 : decode cX10_isMirror 76 = .ok (.isub, 1) := by decide +kernel
theorem dX10_isMirror_77 : decode cX10_isMirror 77 = .ok (.i2l, 1) := by decide +kernel
theorem dX10_isMirror_78 : decode cX10_isMirror 78 = .ok (.invokestatic 101, 3) := by decide +kernel
theorem dX10_isMirror_81 : decode cX10_isMirror 81 = .ok (.ifCond .eq 43, 3) := by decide +kernel
theorem dX10_isMirror_84 : decode cX10_isMirror 84 = .ok (.aload_n 0, 1) := by decide +kernel
theorem dX10_isMirror_85 : decode cX10_isMirror 85 = .ok (.getfield 60, 3) := by decide +kernel
theorem dX10_isMirror_88 : decode cX10_isMirror 88 = .ok (.iconst 4, 1) := by decide +kernel
theorem dX10_isMirror_89 : decode cX10_isMirror 89 = .ok (.aload_n 0, 1) := by decide +kernel
theorem dX10_isMirror_90 : decode cX10_isMirror 90 = .ok (.getfield 125, 3) := by decide +kernel
theorem dX10_isMirror_93 : decode cX10_isMirror 93 = .ok (.aload_n 0, 1) := by decide +kernel
theorem dX10_isMirror_94 : decode cX10_isMirror 94 = .ok (.getfield 7, 3) := by decide +kernel
theorem dX10_isMirror_97 : decode cX10_isMirror 97 = .ok (.imul, 1) := by decide +kernel
theorem dX10_isMirror_98 : decode cX10_isMirror 98 = .ok (.aload_n 0, 1) := by decide +kernel
theorem dX10_isMirror_99 : decode cX10_isMirror 99 = .ok (.getfield 122, 3) := by decide +kernel
theorem dX10_isMirror_102 : decode cX10_isMirror 102 = .ok (.iadd, 1) := by decide +kernel
theorem dX10_isMirror_103 : decode cX10_isMirror 103 = .ok (.imul, 1) := by decide +kernel
theorem dX10_isMirror_104 : decode cX10_isMirror 104 = .ok (.aload_n 0, 1) := by decide +kernel
theorem dX10_isMirror_105 : decode cX10_isMirror 105 = .ok (.getfield 128, 3) := by decide +kernel
theorem dX10_isMirror_108 : decode cX10_isMirror 108 = .ok (.iadd, 1) := by decide +kernel
theorem dX10_isMirror_109 : decode cX10_isMirror 109 = .ok (.baload, 1) := by decide +kernel
theorem dX10_isMirror_110 : decode cX10_isMirror 110 = .ok (.aload_n 0, 1) := by decide +kernel
theorem dX10_isMirror_111 : decode cX10_isMirror 111 = .ok (.getfield 60, 3) := by decide +kernel
theorem dX10_isMirror_114 : decode cX10_isMirror 114 = .ok (.iload 4, 2) := by decide +kernel
theorem dX10_isMirror_116 : decode cX10_isMirror 116 = .ok (.baload, 1) := by decide +kernel
theorem dX10_isMirror_117 : decode cX10_isMirror 117 = .ok (.if_icmp .ne 7, 3) := by decide +kernel
theorem dX10_isMirror_120 : decode cX10_isMirror 120 = .ok (.iconst 1, 1) := by decide +kernel
theorem dX10_isMirror_121 : decode cX10_isMirror 121 = .ok (.goto 4, 3) := by decide +kernel
theorem dX10_isMirror_124 : decode cX10_isMirror 124 = .ok (.iconst 0, 1) := by decide +kernel
theorem dX10_isMirror_125 : decode cX10_isMirror 125 = .ok (.istore_n 3, 1) := by decide +kernel
theorem dX10_isMirror_126 : decode cX10_isMirror 126 = .ok (.iinc 4 1, 3) := by decide +kernel
theorem dX10_isMirror_129 : decode cX10_isMirror 129 = .ok (.goto (-124), 3) := by decide +kernel
theorem dX10_isMirror_132 : decode cX10_isMirror 132 = .ok (.iload_n 3, 1) := by decide +kernel
theorem dX10_isMirror_133 : decode cX10_isMirror 133 = .ok (.ireturn, 1) := by decide +kernel
theorem dX10_mirror_0 : decode cX10_mirror 0 = .ok (.aload_n 0, 1) := by decide +kernel
theorem dX10_mirror_1 : decode cX10_mirror 1 = .ok (.iconst 0, 1) := by decide +kernel
theorem dX10_mirror_2 : decode cX10_mirror 2 = .ok (.putfield 94, 3) := by decide +kernel
theorem dX10_mirror_5 : decode cX10_mirror 5 = .ok (.iload_n 1, 1) := by decide +kernel
theorem dX10_mirror_6 : decode cX10_mirror 6 = .ok (.iload_n 2, 1) := by decide +kernel
theorem dX10_mirror_7 : decode cX10_mirror 7 = .ok (.invokestatic 138, 3) := by decide +kernel
theorem dX10_mirror_10 : decode cX10_mirror 10 = .ok (.ifCond .eq 8, 3) := by decide +kernel
theorem dX10_mirror_13 : decode cX10_mirror 13 = .ok (.bipush (-2), 2) := by decide +kernel
theorem dX10_mirror_15 : decode cX10_mirror 15 = .ok (.goto 17, 3) := by decide +kernel
theorem dX10_mirror_18 : decode cX10_mirror 18 = .ok (.aload_n 0, 1) := by decide +kernel
theorem dX10_mirror_19 : decode cX10_mirror 19 = .ok (.iload_n 1, 1) := by decide +kernel
theorem dX10_mirror_20 : decode cX10_mirror 20 = .ok (.iload_n 2, 1) := by decide +kernel
theorem dX10_mirror_21 : decode cX10_mirror 21 = .ok (.invokevirtual 202, 3) := by decide +kernel
theorem dX10_mirror_24 : decode cX10_mirror 24 = .ok (.ifCond .eq 7, 3) := by decide +kernel
theorem dX10_mirror_27 : decode cX10_mirror 27 = .ok (.iconst 1, 1) := by decide +kernel
theorem dX10_mirror_28 : decode cX10_mirror 28 = .ok (.goto 4, 3) := by decide +kernel
theorem dX10_mirror_31 : decode cX10_mirror 31 = .ok (.iconst 0, 1) := by decide +kernel
theorem dX10_mirror_32 : decode cX10_mirror 32 = .ok (.ireturn, 1) := by decide +kernel
theorem dX10_mirrors_0 : decode cX10_mirrors 0 = .ok (.aload_n 0, 1) := by decide +kernel
theorem dX10_mirrors_1 : decode cX10_mirrors 1 = .ok (.iconst 0, 1) := by decide +kernel
theorem dX10_mirrors_2 : decode cX10_mirrors 2 = .ok (.putfield 94, 3) := by decide +kernel
theorem dX10_mirrors_5 : decode cX10_mirrors 5 = .ok (.iconst 0, 1) := by decide +kernel
theorem dX10_mirrors_6 : decode cX10_mirrors 6 = .ok (.istore_n 1, 1) := by decide +kernel
theorem dX10_mirrors_7 : decode cX10_mirrors 7 = .ok (.iconst 0, 1) := by decide +kernel
theorem dX10_mirrors_8 : decode cX10_mirrors 8 = .ok (.istore_n 2, 1) := by decide +kernel
theorem dX10_mirrors_9 : decode cX10_mirrors 9 = .ok (.iload_n 2, 1) := by decide +kernel
theorem dX10_mirrors_10 : decode cX10_mirrors 10 = .ok (.iconst 4, 1) := by decide +kernel
theorem dX10_mirrors_11 : decode cX10_mirrors 11 = .ok (.if_icmp .ge 41, 3) := by decide +kernel
theorem dX10_mirrors_14 : decode cX10_mirrors 14 = .ok (.bipush (-24), 2) := by decide +kernel
theorem dX10_mirrors_16 : decode cX10_mirrors 16 = .ok (.istore_n 3, 1) := by decide +kernel
theorem dX10_mirrors_17 : decode cX10_mirrors 17 = .ok (.iload_n 3, 1) := by decide +kernel
theorem dX10_mirrors_18 : decode cX10_mirrors 18 = .ok (.bipush 48, 2) := by decide +kernel
theorem dX10_mirrors_20 : decode cX10_mirrors 20 = .ok (.if_icmp .gt 26, 3) := by decide +kernel
theorem dX10_mirrors_23 : decode cX10_mirrors 23 = .ok (.iload_n 1, 1) := by decide +kernel
theorem dX10_mirrors_24 : decode cX10_mirrors 24 = .ok (.aload_n 0, 1) := by decide +kernel
theorem dX10_mirrors_25 : decode cX10_mirrors 25 = .ok (.iload_n 2, 1) := by decide +kernel
theorem dX10_mirrors_26 : decode cX10_mirrors 26 = .ok (.iload_n 3, 1) := by decide +kernel
theorem dX10_mirrors_27 : decode cX10_mirrors 27 = .ok (.invokevirtual 202, 3) := by decide +kernel
theorem dX10_mirrors_30 : decode cX10_mirrors 30 = .ok (.ifCond .eq 7, 3) := by decide +kernel
theorem dX10_mirrors_33 : decode cX10_mirrors 33 = .ok (.iconst 1, 1) := by decide +kernel
theorem dX10_mirrors_34 : decode cX10_mirrors 34 = .ok (.goto 4, 3) := by decide +kernel
theorem dX10_mirrors_37 : decode cX10_mirrors 37 = .ok (.iconst 0, 1) := by decide +kernel
theorem dX10_mirrors_38 : decode cX10_mirrors 38 = .ok (.iadd, 1) := by decide +kernel
theorem dX10_mirrors_39 : decode cX10_mirrors 39 = .ok (.istore_n 1, 1) := by decide +kernel
theorem dX10_mirrors_40 : decode cX10_mirrors 40 = .ok (.iinc 3 1, 3) := by decide +kernel
theorem dX10_mirrors_43 : decode cX10_mirrors 43 = .ok (.goto (-26), 3) := by decide +kernel
theorem dX10_mirrors_46 : decode cX10_mirrors 46 = .ok (.iinc 2 1, 3) := by decide +kernel
theorem dX10_mirrors_49 : decode cX10_mirrors 49 = .ok (.goto (-40), 3) := by decide +kernel
theorem dX10_mirrors_52 : decode cX10_mirrors 52 = .ok (.iload_n 1, 1) := by decide +kernel
theorem dX10_mirrors_53 : decode cX10_mirrors 53 = .ok (.ireturn, 1) := by decide +kernel
theorem dX10_measure_0 : decode cX10_measure 0 = .ok (.iconst 0, 1) := by decide +kernel
theorem dX10_measure_1 : decode cX10_measure 1 = .ok (.istore_n 2, 1) := by decide +kernel
theorem dX10_measure_2 : decode cX10_measure 2 = .ok (.iload_n 2, 1) := by decide +kernel
theorem dX10_measure_3 : decode cX10_measure 3 = .ok (.iconst 4, 1) := by decide +kernel
theorem dX10_measure_4 : decode cX10_measure 4 = .ok (.if_icmp .ge 171, 3) := by decide +kernel
theorem dX10_measure_7 : decode cX10_measure 7 = .ok (.aload_n 0, 1) := by decide +kernel
theorem dX10_measure_8 : decode cX10_measure 8 = .ok (.getfield 78, 3) := by decide +kernel
theorem dX10_measure_11 : decode cX10_measure 11 = .ok (.iconst 4, 1) := by decide +kernel
theorem dX10_measure_12 : decode cX10_measure 12 = .ok (.iload_n 1, 1) := by decide +kernel
theorem dX10_measure_13 : decode cX10_measure 13 = .ok (.imul, 1) := by decide +kernel
theorem dX10_measure_14 : decode cX10_measure 14 = .ok (.iload_n 2, 1) := by decide +kernel
theorem dX10_measure_15 : decode cX10_measure 15 = .ok (.iadd, 1) := by decide +kernel
theorem dX10_measure_16 : decode cX10_measure 16 = .ok (.ldc 205, 2) := by decide +kernel
theorem dX10_measure_18 : decode cX10_measure 18 = .ok (.iastore, 1) := by decide +kernel
theorem dX10_measure_19 : decode cX10_measure 19 = .ok (.aload_n 0, 1) := by decide +kernel
theorem dX10_measure_20 : decode cX10_measure 20 = .ok (.getfield 81, 3) := by decide +kernel
theorem dX10_measure_23 : decode cX10_measure 23 = .ok (.iconst 4, 1) := by decide +kernel
theorem dX10_measure_24 : decode cX10_measure 24 = .ok (.iload_n 1, 1) := by decide +kernel
theorem dX10_measure_25 : decode cX10_measure 25 = .ok (.imul, 1) := by decide +kernel
theorem dX10_measure_26 : decode cX10_measure 26 = .ok (.iload_n 2, 1) := by decide +kernel
theorem dX10_measure_27 : decode cX10_measure 27 = .ok (.iadd, 1) := by decide +kernel
theorem dX10_measure_28 : decode cX10_measure 28 = .ok (.ldc 206, 2) := by decide +kernel
theorem dX10_measure_30 : decode cX10_measure 30 = .ok (.iastore, 1) := by decide +kernel
theorem dX10_measure_31 : decode cX10_measure 31 = .ok (.iconst 0, 1) := by decide +kernel
theorem dX10_measure_32 : decode cX10_measure 32 = .ok (.istore_n 3, 1) := by decide +kernel
theorem dX10_measure_33 : decode cX10_measure 33 = .ok (.iload_n 3, 1) := by decide +kernel
theorem dX10_measure_34 : decode cX10_measure 34 = .ok (.aload_n 0, 1) := by decide +kernel
theorem dX10_measure_35 : decode cX10_measure 35 = .ok (.invokevirtual 97, 3) := by decide +kernel
theorem dX10_measure_38 : decode cX10_measure 38 = .ok (.if_icmp .ge 131, 3) := by decide +kernel
theorem dX10_measure_41 : decode cX10_measure 41 = .ok (.iload_n 2, 1) := by decide +kernel
theorem dX10_measure_42 : decode cX10_measure 42 = .ok (.aload_n 0, 1) := by decide +kernel
theorem dX10_measure_43 : decode cX10_measure 43 = .ok (.getfield 66, 3) := by decide +kernel
theorem dX10_measure_46 : decode cX10_measure 46 = .ok (.sipush 144, 3) := by decide +kernel
theorem dX10_measure_49 : decode cX10_measure 49 = .ok (.iload_n 1, 1) := by decide +kernel
theorem dX10_measure_50 : decode cX10_measure 50 = .ok (.imul, 1) := by decide +kernel
theorem dX10_measure_51 : decode cX10_measure 51 = .ok (.iload_n 3, 1) := by decide +kernel
theorem dX10_measure_52 : decode cX10_measure 52 = .ok (.iadd, 1) := by decide +kernel
theorem dX10_measure_53 : decode cX10_measure 53 = .ok (.iaload, 1) := by decide +kernel
theorem dX10_measure_54 : decode cX10_measure 54 = .ok (.aload_n 0, 1) := by decide +kernel
theorem dX10_measure_55 : decode cX10_measure 55 = .ok (.getfield 69, 3) := by decide +kernel
theorem dX10_measure_58 : decode cX10_measure 58 = .ok (.sipush 144, 3) := by decide +kernel
theorem dX10_measure_61 : decode cX10_measure 61 = .ok (.iload_n 1, 1) := by decide +kernel
theorem dX10_measure_62 : decode cX10_measure 62 = .ok (.imul, 1) := by decide +kernel
theorem dX10_measure_63 : decode cX10_measure 63 = .ok (.iload_n 3, 1) := by decide +kernel
theorem dX10_measure_64 : decode cX10_measure 64 = .ok (.iadd, 1) := by decide +kernel
theorem dX10_measure_65 : decode cX10_measure 65 = .ok (.iaload, 1) := by decide +kernel
theorem dX10_measure_66 : decode cX10_measure 66 = .ok (.aload_n 0, 1) := by decide +kernel
theorem dX10_measure_67 : decode cX10_measure 67 = .ok (.getfield 72, 3) := by decide +kernel
theorem dX10_measure_70 : decode cX10_measure 70 = .ok (.sipush 144, 3) := by decide +kernel
theorem dX10_measure_73 : decode cX10_measure 73 = .ok (.iload_n 1, 1) := by decide +kernel
theorem dX10_measure_74 : decode cX10_measure 74 = .ok (.imul, 1) := by decide +kernel
theorem dX10_measure_75 : decode cX10_measure 75 = .ok (.iload_n 3, 1) := by decide +kernel
theorem dX10_measure_76 : decode cX10_measure 76 = .ok (.iadd, 1) := by decide +kernel
theorem dX10_measure_77 : decode cX10_measure 77 = .ok (.iaload, 1) := by decide +kernel
theorem dX10_measure_78 : decode cX10_measure 78 = .ok (.invokestatic 118, 3) := by decide +kernel
theorem dX10_measure_81 : decode cX10_measure 81 = .ok (.istore 4, 2) := by decide +kernel
theorem dX10_measure_83 : decode cX10_measure 83 = .ok (.aload_n 0, 1) := by decide +kernel
theorem dX10_measure_84 : decode cX10_measure 84 = .ok (.getfield 78, 3) := by decide +kernel
theorem dX10_measure_87 : decode cX10_measure 87 = .ok (.iconst 4, 1) := by decide +kernel
theorem dX10_measure_88 : decode cX10_measure 88 = .ok (.iload_n 1, 1) := by decide +kernel
theorem dX10_measure_89 : decode cX10_measure 89 = .ok (.imul, 1) := by decide +kernel
theorem dX10_measure_90 : decode cX10_measure 90 = .ok (.iload_n 2, 1) := by decide +kernel
theorem dX10_measure_91 : decode cX10_measure 91 = .ok (.iadd, 1) := by decide +kernel
theorem dX10_measure_92 : decode cX10_measure 92 = .ok (.iload 4, 2) := by decide +kernel
theorem dX10_measure_94 : decode cX10_measure 94 = .ok (.aload_n 0, 1) := by decide +kernel
theorem dX10_measure_95 : decode cX10_measure 95 = .ok (.getfield 78, 3) := by decide +kernel
theorem dX10_measure_98 : decode cX10_measure 98 = .ok (.iconst 4, 1) := by decide +kernel
theorem dX10_measure_99 : decode cX10_measure 99 = .ok (.iload_n 1, 1) := by decide +kernel
theorem dX10_measure_100 : decode cX10_measure 100 = .ok (.imul, 1) := by decide +kernel
theorem dX10_measure_101 : decode cX10_measure 101 = .ok (.iload_n 2, 1) := by decide +kernel
theorem dX10_measure_102 : decode cX10_measure 102 = .ok (.iadd, 1) := by decide +kernel
theorem dX10_measure_103 : decode cX10_measure 103 = .ok (.iaload, 1) := by decide +kernel
theorem dX10_measure_104 : decode cX10_measure 104 = .ok (.if_icmp .ge 8, 3) := by decide +kernel
theorem dX10_measure_107 : decode cX10_measure 107 = .ok (.iload 4, 2) := by decide +kernel
theorem dX10_measure_109 : decode cX10_measure 109 = .ok (.goto 13, 3) := by decide +kernel
theorem dX10_measure_112 : decode cX10_measure 112 = .ok (.aload_n 0, 1) := by decide +kernel
theorem dX10_measure_113 : decode cX10_measure 113 = .ok (.getfield 78, 3) := by decide +kernel
theorem dX10_measure_116 : decode cX10_measure 116 = .ok (.iconst 4, 1) := by decide +kernel
theorem dX10_measure_117 : decode cX10_measure 117 = .ok (.iload_n 1, 1) := by decide +kernel
theorem dX10_measure_118 : decode cX10_measure 118 = .ok (.imul, 1) := by decide +kernel
theorem dX10_measure_119 : decode cX10_measure 119 = .ok (.iload_n 2, 1) := by decide +kernel
theorem dX10_measure_120 : decode cX10_measure 120 = .ok (.iadd, 1) := by decide +kernel
theorem dX10_measure_121 : decode cX10_measure 121 = .ok (.iaload, 1) := by decide +kernel
theorem dX10_measure_122 : decode cX10_measure 122 = .ok (.iastore, 1) := by decide +kernel
theorem dX10_measure_123 : decode cX10_measure 123 = .ok (.aload_n 0, 1) := by decide +kernel
theorem dX10_measure_124 : decode cX10_measure 124 = .ok (.getfield 81, 3) := by decide +kernel
theorem dX10_measure_127 : decode cX10_measure 127 = .ok (.iconst 4, 1) := by decide +kernel
theorem dX10_measure_128 : decode cX10_measure 128 = .ok (.iload_n 1, 1) := by decide +kernel
theorem dX10_measure_129 : decode cX10_measure 129 = .ok (.imul, 1) := by decide +kernel
theorem dX10_measure_130 : decode cX10_measure 130 = .ok (.iload_n 2, 1) := by decide +kernel
theorem dX10_measure_131 : decode cX10_measure 131 = .ok (.iadd, 1) := by decide +kernel
theorem dX10_measure_132 : decode cX10_measure 132 = .ok (.iload 4, 2) := by decide +kernel
theorem dX10_measure_134 : decode cX10_measure 134 = .ok (.aload_n 0, 1) := by decide +kernel
theorem dX10_measure_135 : decode cX10_measure 135 = .ok (.getfield 81, 3) := by decide +kernel
theorem dX10_measure_138 : decode cX10_measure 138 = .ok (.iconst 4, 1) := by decide +kernel
theorem dX10_measure_139 : decode cX10_measure 139 = .ok (.iload_n 1, 1) := by decide +kernel
theorem dX10_measure_140 : decode cX10_measure 140 = .ok (.imul, 1) := by decide +kernel
theorem dX10_measure_141 : decode cX10_measure 141 = .ok (.iload_n 2, 1) := by decide +kernel
theorem dX10_measure_142 : decode cX10_measure 142 = .ok (.iadd, 1) := by decide +kernel
theorem dX10_measure_143 : decode cX10_measure 143 = .ok (.iaload, 1) := by decide +kernel
theorem dX10_measure_144 : decode cX10_measure 144 = .ok (.if_icmp .le 8, 3) := by decide +kernel
theorem dX10_measure_147 : decode cX10_measure 147 = .ok (.iload 4, 2) := by decide +kernel
theorem dX10_measure_149 : decode cX10_measure 149 = .ok (.goto 13, 3) := by decide +kernel
theorem dX10_measure_152 : decode cX10_measure 152 = .ok (.aload_n 0, 1) := by decide +kernel
theorem dX10_measure_153 : decode cX10_measure 153 = .ok (.getfield 81, 3) := by decide +kernel
theorem dX10_measure_156 : decode cX10_measure 156 = .ok (.iconst 4, 1) := by decide +kernel
theorem dX10_measure_157 : decode cX10_measure 157 = .ok (.iload_n 1, 1) := by decide +kernel
theorem dX10_measure_158 : decode cX10_measure 158 = .ok (.imul, 1) := by decide +kernel
theorem dX10_measure_159 : decode cX10_measure 159 = .ok (.iload_n 2, 1) := by decide +kernel
theorem dX10_measure_160 : decode cX10_measure 160 = .ok (.iadd, 1) := by decide +kernel
theorem dX10_measure_161 : decode cX10_measure 161 = .ok (.iaload, 1) := by decide +kernel
theorem dX10_measure_162 : decode cX10_measure 162 = .ok (.iastore, 1) := by decide +kernel
theorem dX10_measure_163 : decode cX10_measure 163 = .ok (.iinc 3 1, 3) := by decide +kernel
theorem dX10_measure_166 : decode cX10_measure 166 = .ok (.goto (-133), 3) := by decide +kernel
theorem dX10_measure_169 : decode cX10_measure 169 = .ok (.iinc 2 1, 3) := by decide +kernel
theorem dX10_measure_172 : decode cX10_measure 172 = .ok (.goto (-170), 3) := by decide +kernel
theorem dX10_measure_175 : decode cX10_measure 175 = .ok (.return_, 1) := by decide +kernel
theorem dX10_goes_0 : decode cX10_goes 0 = .ok (.iload_n 2, 1) := by decide +kernel
theorem dX10_goes_1 : decode cX10_goes 1 = .ok (.bipush 8, 2) := by decide +kernel
theorem dX10_goes_3 : decode cX10_goes 3 = .ok (.irem, 1) := by decide +kernel
theorem dX10_goes_4 : decode cX10_goes 4 = .ok (.iconst 2, 1) := by decide +kernel
theorem dX10_goes_5 : decode cX10_goes 5 = .ok (.idiv, 1) := by decide +kernel
theorem dX10_goes_6 : decode cX10_goes 6 = .ok (.istore_n 3, 1) := by decide +kernel
theorem dX10_goes_7 : decode cX10_goes 7 = .ok (.iload_n 2, 1) := by decide +kernel
theorem dX10_goes_8 : decode cX10_goes 8 = .ok (.bipush 8, 2) := by decide +kernel
theorem dX10_goes_10 : decode cX10_goes 10 = .ok (.idiv, 1) := by decide +kernel
theorem dX10_goes_11 : decode cX10_goes 11 = .ok (.bipush (-24), 2) := by decide +kernel
theorem dX10_goes_13 : decode cX10_goes 13 = .ok (.iadd, 1) := by decide +kernel
theorem dX10_goes_14 : decode cX10_goes 14 = .ok (.istore 4, 2) := by decide +kernel
theorem dX10_goes_16 : decode cX10_goes 16 = .ok (.aload_n 0, 1) := by decide +kernel
theorem dX10_goes_17 : decode cX10_goes 17 = .ok (.getfield 78, 3) := by decide +kernel
theorem dX10_goes_20 : decode cX10_goes 20 = .ok (.iconst 4, 1) := by decide +kernel
theorem dX10_goes_21 : decode cX10_goes 21 = .ok (.iload_n 1, 1) := by decide +kernel
theorem dX10_goes_22 : decode cX10_goes 22 = .ok (.imul, 1) := by decide +kernel
theorem dX10_goes_23 : decode cX10_goes 23 = .ok (.iload_n 3, 1) := by decide +kernel
theorem dX10_goes_24 : decode cX10_goes 24 = .ok (.iadd, 1) := by decide +kernel
theorem dX10_goes_25 : decode cX10_goes 25 = .ok (.iaload, 1) := by decide +kernel
theorem dX10_goes_26 : decode cX10_goes 26 = .ok (.bipush 6, 2) := by decide +kernel
theorem dX10_goes_28 : decode cX10_goes 28 = .ok (.iload 4, 2) := by decide +kernel
theorem dX10_goes_30 : decode cX10_goes 30 = .ok (.imul, 1) := by decide +kernel
theorem dX10_goes_31 : decode cX10_goes 31 = .ok (.if_icmp .ge 21, 3) := by decide +kernel
theorem dX10_goes_34 : decode cX10_goes 34 = .ok (.aload_n 0, 1) := by decide +kernel
theorem dX10_goes_35 : decode cX10_goes 35 = .ok (.getfield 81, 3) := by decide +kernel
theorem dX10_goes_38 : decode cX10_goes 38 = .ok (.iconst 4, 1) := by decide +kernel
theorem dX10_goes_39 : decode cX10_goes 39 = .ok (.iload_n 1, 1) := by decide +kernel
theorem dX10_goes_40 : decode cX10_goes 40 = .ok (.imul, 1) := by decide +kernel
theorem dX10_goes_41 : decode cX10_goes 41 = .ok (.iload_n 3, 1) := by decide +kernel
theorem dX10_goes_42 : decode cX10_goes 42 = .ok (.iadd, 1) := by decide +kernel
theorem dX10_goes_43 : decode cX10_goes 43 = .ok (.iaload, 1) := by decide +kernel
theorem dX10_goes_44 : decode cX10_goes 44 = .ok (.bipush 6, 2) := by decide +kernel
theorem dX10_goes_46 : decode cX10_goes 46 = .ok (.iload 4, 2) := by decide +kernel
theorem dX10_goes_48 : decode cX10_goes 48 = .ok (.imul, 1) := by decide +kernel
theorem dX10_goes_49 : decode cX10_goes 49 = .ok (.if_icmp .gt 5, 3) := by decide +kernel
theorem dX10_goes_52 : decode cX10_goes 52 = .ok (.iconst 0, 1) := by decide +kernel
theorem dX10_goes_53 : decode cX10_goes 53 = .ok (.ireturn, 1) := by decide +kernel
theorem dX10_goes_54 : decode cX10_goes 54 = .ok (.aload_n 0, 1) := by decide +kernel
theorem dX10_goes_55 : decode cX10_goes 55 = .ok (.dup, 1) := by decide +kernel
theorem dX10_goes_56 : decode cX10_goes 56 = .ok (.getfield 207, 3) := by decide +kernel
theorem dX10_goes_59 : decode cX10_goes 59 = .ok (.iconst 2, 1) := by decide +kernel
theorem dX10_goes_60 : decode cX10_goes 60 = .ok (.iadd, 1) := by decide +kernel
theorem dX10_goes_61 : decode cX10_goes 61 = .ok (.putfield 207, 3) := by decide +kernel
theorem dX10_goes_64 : decode cX10_goes 64 = .ok (.iconst 1, 1) := by decide +kernel
theorem dX10_goes_65 : decode cX10_goes 65 = .ok (.istore 5, 2) := by decide +kernel
theorem dX10_goes_67 : decode cX10_goes 67 = .ok (.iconst 0, 1) := by decide +kernel
theorem dX10_goes_68 : decode cX10_goes 68 = .ok (.istore 6, 2) := by decide +kernel
theorem dX10_goes_70 : decode cX10_goes 70 = .ok (.iload 6, 2) := by decide +kernel
theorem dX10_goes_72 : decode cX10_goes 72 = .ok (.aload_n 0, 1) := by decide +kernel
theorem dX10_goes_73 : decode cX10_goes 73 = .ok (.invokevirtual 97, 3) := by decide +kernel
theorem dX10_goes_76 : decode cX10_goes 76 = .ok (.if_icmp .ge 268, 3) := by decide +kernel
theorem dX10_goes_79 : decode cX10_goes 79 = .ok (.iload 5, 2) := by decide +kernel
theorem dX10_goes_81 : decode cX10_goes 81 = .ok (.ifCond .eq 263, 3) := by decide +kernel
theorem dX10_goes_84 : decode cX10_goes 84 = .ok (.sipush 144, 3) := by decide +kernel
theorem dX10_goes_87 : decode cX10_goes 87 = .ok (.iload_n 1, 1) := by decide +kernel
theorem dX10_goes_88 : decode cX10_goes 88 = .ok (.imul, 1) := by decide +kernel
theorem dX10_goes_89 : decode cX10_goes 89 = .ok (.iload 6, 2) := by decide +kernel
theorem dX10_goes_91 : decode cX10_goes 91 = .ok (.iadd, 1) := by decide +kernel
theorem dX10_goes_92 : decode cX10_goes 92 = .ok (.istore 7, 2) := by decide +kernel
theorem dX10_goes_94 : decode cX10_goes 94 = .ok (.iload 7, 2) := by decide +kernel
theorem dX10_goes_96 : decode cX10_goes 96 = .ok (.sipush 144, 3) := by decide +kernel
theorem dX10_goes_99 : decode cX10_goes 99 = .ok (.iadd, 1) := by decide +kernel
theorem dX10_goes_100 : decode cX10_goes 100 = .ok (.istore 8, 2) := by decide +kernel
theorem dX10_goes_102 : decode cX10_goes 102 = .ok (.aload_n 0, 1) := by decide +kernel
theorem dX10_goes_103 : decode cX10_goes 103 = .ok (.getfield 66, 3) := by decide +kernel
theorem dX10_goes_106 : decode cX10_goes 106 = .ok (.iload 8, 2) := by decide +kernel
theorem dX10_goes_108 : decode cX10_goes 108 = .ok (.aload_n 0, 1) := by decide +kernel
theorem dX10_goes_109 : decode cX10_goes 109 = .ok (.getfield 66, 3) := by decide +kernel
theorem dX10_goes_112 : decode cX10_goes 112 = .ok (.iload 7, 2) := by decide +kernel
theorem dX10_goes_114 : decode cX10_goes 114 = .ok (.iaload, 1) := by decide +kernel
theorem dX10_goes_115 : decode cX10_goes 115 = .ok (.iastore, 1) := by decide +kernel
theorem dX10_goes_116 : decode cX10_goes 116 = .ok (.aload_n 0, 1) := by decide +kernel
theorem dX10_goes_117 : decode cX10_goes 117 = .ok (.getfield 69, 3) := by decide +kernel
theorem dX10_goes_120 : decode cX10_goes 120 = .ok (.iload 8, 2) := by decide +kernel
theorem dX10_goes_122 : decode cX10_goes 122 = .ok (.aload_n 0, 1) := by decide +kernel
theorem dX10_goes_123 : decode cX10_goes 123 = .ok (.getfield 69, 3) := by decide +kernel
theorem dX10_goes_126 : decode cX10_goes 126 = .ok (.iload 7, 2) := by decide +kernel
theorem dX10_goes_128 : decode cX10_goes 128 = .ok (.iaload, 1) := by decide +kernel
theorem dX10_goes_129 : decode cX10_goes 129 = .ok (.iastore, 1) := by decide +kernel
theorem dX10_goes_130 : decode cX10_goes 130 = .ok (.aload_n 0, 1) := by decide +kernel
theorem dX10_goes_131 : decode cX10_goes 131 = .ok (.getfield 72, 3) := by decide +kernel
theorem dX10_goes_134 : decode cX10_goes 134 = .ok (.iload 8, 2) := by decide +kernel
theorem dX10_goes_136 : decode cX10_goes 136 = .ok (.aload_n 0, 1) := by decide +kernel
theorem dX10_goes_137 : decode cX10_goes 137 = .ok (.getfield 72, 3) := by decide +kernel
theorem dX10_goes_140 : decode cX10_goes 140 = .ok (.iload 7, 2) := by decide +kernel
theorem dX10_goes_142 : decode cX10_goes 142 = .ok (.iaload, 1) := by decide +kernel
theorem dX10_goes_143 : decode cX10_goes 143 = .ok (.iastore, 1) := by decide +kernel
theorem dX10_goes_144 : decode cX10_goes 144 = .ok (.iload_n 3, 1) := by decide +kernel
theorem dX10_goes_145 : decode cX10_goes 145 = .ok (.iload 4, 2) := by decide +kernel
theorem dX10_goes_147 : decode cX10_goes 147 = .ok (.aload_n 0, 1) := by decide +kernel
theorem dX10_goes_148 : decode cX10_goes 148 = .ok (.getfield 66, 3) := by decide +kernel
theorem dX10_goes_151 : decode cX10_goes 151 = .ok (.iload 7, 2) := by decide +kernel
theorem dX10_goes_153 : decode cX10_goes 153 = .ok (.iaload, 1) := by decide +kernel
theorem dX10_goes_154 : decode cX10_goes 154 = .ok (.aload_n 0, 1) := by decide +kernel
theorem dX10_goes_155 : decode cX10_goes 155 = .ok (.getfield 69, 3) := by decide +kernel
theorem dX10_goes_158 : decode cX10_goes 158 = .ok (.iload 7, 2) := by decide +kernel
theorem dX10_goes_160 : decode cX10_goes 160 = .ok (.iaload, 1) := by decide +kernel
theorem dX10_goes_161 : decode cX10_goes 161 = .ok (.aload_n 0, 1) := by decide +kernel
theorem dX10_goes_162 : decode cX10_goes 162 = .ok (.getfield 72, 3) := by decide +kernel
theorem dX10_goes_165 : decode cX10_goes 165 = .ok (.iload 7, 2) := by decide +kernel
theorem dX10_goes_167 : decode cX10_goes 167 = .ok (.iaload, 1) := by decide +kernel
theorem dX10_goes_168 : decode cX10_goes 168 = .ok (.invokestatic 142, 3) := by decide +kernel
theorem dX10_goes_171 : decode cX10_goes 171 = .ok (.iload_n 2, 1) := by decide +kernel
theorem dX10_goes_172 : decode cX10_goes 172 = .ok (.iconst 2, 1) := by decide +kernel
theorem dX10_goes_173 : decode cX10_goes 173 = .ok (.irem, 1) := by decide +kernel
theorem dX10_goes_174 : decode cX10_goes 174 = .ok (.if_icmp .ne 64, 3) := by decide +kernel
theorem dX10_goes_177 : decode cX10_goes 177 = .ok (.aload_n 0, 1) := by decide +kernel
theorem dX10_goes_178 : decode cX10_goes 178 = .ok (.iload_n 3, 1) := by decide +kernel
theorem dX10_goes_179 : decode cX10_goes 179 = .ok (.iload 4, 2) := by decide +kernel
theorem dX10_goes_181 : decode cX10_goes 181 = .ok (.aload_n 0, 1) := by decide +kernel
theorem dX10_goes_182 : decode cX10_goes 182 = .ok (.getfield 66, 3) := by decide +kernel
theorem dX10_goes_185 : decode cX10_goes 185 = .ok (.iload 7, 2) := by decide +kernel
theorem dX10_goes_187 : decode cX10_goes 187 = .ok (.iaload, 1) := by decide +kernel
theorem dX10_goes_188 : decode cX10_goes 188 = .ok (.aload_n 0, 1) := by decide +kernel
theorem dX10_goes_189 : decode cX10_goes 189 = .ok (.getfield 69, 3) := by decide +kernel
theorem dX10_goes_192 : decode cX10_goes 192 = .ok (.iload 7, 2) := by decide +kernel
theorem dX10_goes_194 : decode cX10_goes 194 = .ok (.iaload, 1) := by decide +kernel
theorem dX10_goes_195 : decode cX10_goes 195 = .ok (.aload_n 0, 1) := by decide +kernel
theorem dX10_goes_196 : decode cX10_goes 196 = .ok (.getfield 72, 3) := by decide +kernel
theorem dX10_goes_199 : decode cX10_goes 199 = .ok (.iload 7, 2) := by decide +kernel
theorem dX10_goes_201 : decode cX10_goes 201 = .ok (.iaload, 1) := by decide +kernel
theorem dX10_goes_202 : decode cX10_goes 202 = .ok (.invokevirtual 153, 3) := by decide +kernel
theorem dX10_goes_205 : decode cX10_goes 205 = .ok (.aload_n 0, 1) := by decide +kernel
theorem dX10_goes_206 : decode cX10_goes 206 = .ok (.getfield 66, 3) := by decide +kernel
theorem dX10_goes_209 : decode cX10_goes 209 = .ok (.iload 8, 2) := by decide +kernel
theorem dX10_goes_211 : decode cX10_goes 211 = .ok (.aload_n 0, 1) := by decide +kernel
theorem dX10_goes_212 : decode cX10_goes 212 = .ok (.getfield 122, 3) := by decide +kernel
theorem dX10_goes_215 : decode cX10_goes 215 = .ok (.iastore, 1) := by decide +kernel
theorem dX10_goes_216 : decode cX10_goes 216 = .ok (.aload_n 0, 1) := by decide +kernel
theorem dX10_goes_217 : decode cX10_goes 217 = .ok (.getfield 69, 3) := by decide +kernel
theorem dX10_goes_220 : decode cX10_goes 220 = .ok (.iload 8, 2) := by decide +kernel
theorem dX10_goes_222 : decode cX10_goes 222 = .ok (.aload_n 0, 1) := by decide +kernel
theorem dX10_goes_223 : decode cX10_goes 223 = .ok (.getfield 125, 3) := by decide +kernel
theorem dX10_goes_226 : decode cX10_goes 226 = .ok (.iastore, 1) := by decide +kernel
theorem dX10_goes_227 : decode cX10_goes 227 = .ok (.aload_n 0, 1) := by decide +kernel
theorem dX10_goes_228 : decode cX10_goes 228 = .ok (.getfield 72, 3) := by decide +kernel
theorem dX10_goes_231 : decode cX10_goes 231 = .ok (.iload 8, 2) := by decide +kernel
theorem dX10_goes_233 : decode cX10_goes 233 = .ok (.aload_n 0, 1) := by decide +kernel
theorem dX10_goes_234 : decode cX10_goes 234 = .ok (.getfield 128, 3) := by decide +kernel
theorem dX10_goes_237 : decode cX10_goes 237 = .ok (.iastore, 1) := by decide +kernel
theorem dX10_goes_238 : decode cX10_goes 238 = .ok (.iconst 4, 1) := by decide +kernel
theorem dX10_goes_239 : decode cX10_goes 239 = .ok (.bipush 64, 2) := by decide +kernel
theorem dX10_goes_241 : decode cX10_goes 241 = .ok (.aload_n 0, 1) := by decide +kernel
theorem dX10_goes_242 : decode cX10_goes 242 = .ok (.getfield 69, 3) := by decide +kernel
theorem dX10_goes_245 : decode cX10_goes 245 = .ok (.iload 8, 2) := by decide +kernel
theorem dX10_goes_247 : decode cX10_goes 247 = .ok (.iaload, 1) := by decide +kernel
theorem dX10_goes_248 : decode cX10_goes 248 = .ok (.bipush 32, 2) := by decide +kernel
theorem dX10_goes_250 : decode cX10_goes 250 = .ok (.iadd, 1) := by decide +kernel
theorem dX10_goes_251 : decode cX10_goes 251 = .ok (.imul, 1) := by decide +kernel
theorem dX10_goes_252 : decode cX10_goes 252 = .ok (.aload_n 0, 1) := by decide +kernel
theorem dX10_goes_253 : decode cX10_goes 253 = .ok (.getfield 66, 3) := by decide +kernel
theorem dX10_goes_256 : decode cX10_goes 256 = .ok (.iload 8, 2) := by decide +kernel
theorem dX10_goes_258 : decode cX10_goes 258 = .ok (.iaload, 1) := by decide +kernel
theorem dX10_goes_259 : decode cX10_goes 259 = .ok (.iadd, 1) := by decide +kernel
theorem dX10_goes_260 : decode cX10_goes 260 = .ok (.bipush 32, 2) := by decide +kernel
theorem dX10_goes_262 : decode cX10_goes 262 = .ok (.iadd, 1) := by decide +kernel
theorem dX10_goes_263 : decode cX10_goes 263 = .ok (.imul, 1) := by decide +kernel
theorem dX10_goes_264 : decode cX10_goes 264 = .ok (.aload_n 0, 1) := by decide +kernel
theorem dX10_goes_265 : decode cX10_goes 265 = .ok (.getfield 72, 3) := by decide +kernel
theorem dX10_goes_268 : decode cX10_goes 268 = .ok (.iload 8, 2) := by decide +kernel
theorem dX10_goes_270 : decode cX10_goes 270 = .ok (.iaload, 1) := by decide +kernel
theorem dX10_goes_271 : decode cX10_goes 271 = .ok (.iadd, 1) := by decide +kernel
theorem dX10_goes_272 : decode cX10_goes 272 = .ok (.istore 9, 2) := by decide +kernel
theorem dX10_goes_274 : decode cX10_goes 274 = .ok (.aload_n 0, 1) := by decide +kernel
theorem dX10_goes_275 : decode cX10_goes 275 = .ok (.getfield 207, 3) := by decide +kernel
theorem dX10_goes_278 : decode cX10_goes 278 = .ok (.aload_n 0, 1) := by decide +kernel
theorem dX10_goes_279 : decode cX10_goes 279 = .ok (.getfield 60, 3) := by decide +kernel
theorem dX10_goes_282 : decode cX10_goes 282 = .ok (.iload 6, 2) := by decide +kernel
theorem dX10_goes_284 : decode cX10_goes 284 = .ok (.baload, 1) := by decide +kernel
theorem dX10_goes_285 : decode cX10_goes 285 = .ok (.ifCond .eq 7, 3) := by decide +kernel
theorem dX10_goes_288 : decode cX10_goes 288 = .ok (.iconst 1, 1) := by decide +kernel
theorem dX10_goes_289 : decode cX10_goes 289 = .ok (.goto 4, 3) := by decide +kernel
theorem dX10_goes_292 : decode cX10_goes 292 = .ok (.iconst 0, 1) := by decide +kernel
theorem dX10_goes_293 : decode cX10_goes 293 = .ok (.iadd, 1) := by decide +kernel
theorem dX10_goes_294 : decode cX10_goes 294 = .ok (.istore 10, 2) := by decide +kernel
theorem dX10_goes_296 : decode cX10_goes 296 = .ok (.aload_n 0, 1) := by decide +kernel
theorem dX10_goes_297 : decode cX10_goes 297 = .ok (.getfield 75, 3) := by decide +kernel
theorem dX10_goes_300 : decode cX10_goes 300 = .ok (.iload 9, 2) := by decide +kernel
theorem dX10_goes_302 : decode cX10_goes 302 = .ok (.iaload, 1) := by decide +kernel
theorem dX10_goes_303 : decode cX10_goes 303 = .ok (.aload_n 0, 1) := by decide +kernel
theorem dX10_goes_304 : decode cX10_goes 304 = .ok (.getfield 207, 3) := by decide +kernel
theorem dX10_goes_307 : decode cX10_goes 307 = .ok (.if_icmp .lt 15, 3) := by decide +kernel
theorem dX10_goes_310 : decode cX10_goes 310 = .ok (.aload_n 0, 1) := by decide +kernel
theorem dX10_goes_311 : decode cX10_goes 311 = .ok (.getfield 75, 3) := by decide +kernel
theorem dX10_goes_314 : decode cX10_goes 314 = .ok (.iload 9, 2) := by decide +kernel
theorem dX10_goes_316 : decode cX10_goes 316 = .ok (.iaload, 1) := by decide +kernel
theorem dX10_goes_317 : decode cX10_goes 317 = .ok (.iload 10, 2) := by decide +kernel
theorem dX10_goes_319 : decode cX10_goes 319 = .ok (.if_icmp .ne 7, 3) := by decide +kernel
theorem dX10_goes_322 : decode cX10_goes 322 = .ok (.iconst 1, 1) := by decide +kernel
theorem dX10_goes_323 : decode cX10_goes 323 = .ok (.goto 4, 3) := by decide +kernel
theorem dX10_goes_326 : decode cX10_goes 326 = .ok (.iconst 0, 1) := by decide +kernel
theorem dX10_goes_327 : decode cX10_goes 327 = .ok (.istore 5, 2) := by decide +kernel
theorem dX10_goes_329 : decode cX10_goes 329 = .ok (.aload_n 0, 1) := by decide +kernel
theorem dX10_goes_330 : decode cX10_goes 330 = .ok (.getfield 75, 3) := by decide +kernel
theorem dX10_goes_333 : decode cX10_goes 333 = .ok (.iload 9, 2) := by decide +kernel
theorem dX10_goes_335 : decode cX10_goes 335 = .ok (.iload 10, 2) := by decide +kernel
theorem dX10_goes_337 : decode cX10_goes 337 = .ok (.iastore, 1) := by decide +kernel
theorem dX10_goes_338 : decode cX10_goes 338 = .ok (.iinc 6 1, 3) := by decide +kernel
theorem dX10_goes_341 : decode cX10_goes 341 = .ok (.goto (-271), 3) := by decide +kernel
theorem dX10_goes_344 : decode cX10_goes 344 = .ok (.iload 5, 2) := by decide +kernel
theorem dX10_goes_346 : decode cX10_goes 346 = .ok (.ireturn, 1) := by decide +kernel
theorem dX10_cuts_0 : decode cX10_cuts 0 = .ok (.iconst 0, 1) := by decide +kernel
theorem dX10_cuts_1 : decode cX10_cuts 1 = .ok (.istore_n 2, 1) := by decide +kernel
theorem dX10_cuts_2 : decode cX10_cuts 2 = .ok (.ldc 135, 2) := by decide +kernel
theorem dX10_cuts_4 : decode cX10_cuts 4 = .ok (.istore_n 3, 1) := by decide +kernel
theorem dX10_cuts_5 : decode cX10_cuts 5 = .ok (.iconst 0, 1) := by decide +kernel
theorem dX10_cuts_6 : decode cX10_cuts 6 = .ok (.istore 4, 2) := by decide +kernel
theorem dX10_cuts_8 : decode cX10_cuts 8 = .ok (.iload 4, 2) := by decide +kernel
theorem dX10_cuts_10 : decode cX10_cuts 10 = .ok (.iconst 4, 1) := by decide +kernel
theorem dX10_cuts_11 : decode cX10_cuts 11 = .ok (.if_icmp .ge 314, 3) := by decide +kernel
theorem dX10_cuts_14 : decode cX10_cuts 14 = .ok (.ldc 205, 2) := by decide +kernel
theorem dX10_cuts_16 : decode cX10_cuts 16 = .ok (.istore 5, 2) := by decide +kernel
theorem dX10_cuts_18 : decode cX10_cuts 18 = .ok (.ldc 206, 2) := by decide +kernel
theorem dX10_cuts_20 : decode cX10_cuts 20 = .ok (.istore 6, 2) := by decide +kernel
theorem dX10_cuts_22 : decode cX10_cuts 22 = .ok (.ldc 205, 2) := by decide +kernel
theorem dX10_cuts_24 : decode cX10_cuts 24 = .ok (.istore 7, 2) := by decide +kernel
theorem dX10_cuts_26 : decode cX10_cuts 26 = .ok (.ldc 206, 2) := by decide +kernel
theorem dX10_cuts_28 : decode cX10_cuts 28 = .ok (.istore 8, 2) := by decide +kernel
theorem dX10_cuts_30 : decode cX10_cuts 30 = .ok (.iconst 0, 1) := by decide +kernel
theorem dX10_cuts_31 : decode cX10_cuts 31 = .ok (.istore 9, 2) := by decide +kernel
theorem dX10_cuts_33 : decode cX10_cuts 33 = .ok (.iload 9, 2) := by decide +kernel
theorem dX10_cuts_35 : decode cX10_cuts 35 = .ok (.aload_n 0, 1) := by decide +kernel
theorem dX10_cuts_36 : decode cX10_cuts 36 = .ok (.invokevirtual 97, 3) := by decide +kernel
theorem dX10_cuts_39 : decode cX10_cuts 39 = .ok (.if_icmp .ge 132, 3) := by decide +kernel
theorem dX10_cuts_42 : decode cX10_cuts 42 = .ok (.iload 4, 2) := by decide +kernel
theorem dX10_cuts_44 : decode cX10_cuts 44 = .ok (.aload_n 0, 1) := by decide +kernel
theorem dX10_cuts_45 : decode cX10_cuts 45 = .ok (.getfield 66, 3) := by decide +kernel
theorem dX10_cuts_48 : decode cX10_cuts 48 = .ok (.sipush 144, 3) := by decide +kernel
theorem dX10_cuts_51 : decode cX10_cuts 51 = .ok (.iload_n 1, 1) := by decide +kernel
theorem dX10_cuts_52 : decode cX10_cuts 52 = .ok (.imul, 1) := by decide +kernel
theorem dX10_cuts_53 : decode cX10_cuts 53 = .ok (.iload 9, 2) := by decide +kernel
theorem dX10_cuts_55 : decode cX10_cuts 55 = .ok (.iadd, 1) := by decide +kernel
theorem dX10_cuts_56 : decode cX10_cuts 56 = .ok (.iaload, 1) := by decide +kernel
theorem dX10_cuts_57 : decode cX10_cuts 57 = .ok (.aload_n 0, 1) := by decide +kernel
theorem dX10_cuts_58 : decode cX10_cuts 58 = .ok (.getfield 69, 3) := by decide +kernel
theorem dX10_cuts_61 : decode cX10_cuts 61 = .ok (.sipush 144, 3) := by decide +kernel
theorem dX10_cuts_64 : decode cX10_cuts 64 = .ok (.iload_n 1, 1) := by decide +kernel
theorem dX10_cuts_65 : decode cX10_cuts 65 = .ok (.imul, 1) := by decide +kernel
theorem dX10_cuts_66 : decode cX10_cuts 66 = .ok (.iload 9, 2) := by decide +kernel
theorem dX10_cuts_68 : decode cX10_cuts 68 = .ok (.iadd, 1) := by decide +kernel
theorem dX10_cuts_69 : decode cX10_cuts 69 = .ok (.iaload, 1) := by decide +kernel
theorem dX10_cuts_70 : decode cX10_cuts 70 = .ok (.aload_n 0, 1) := by decide +kernel
theorem dX10_cuts_71 : decode cX10_cuts 71 = .ok (.getfield 72, 3) := by decide +kernel
theorem dX10_cuts_74 : decode cX10_cuts 74 = .ok (.sipush 144, 3) := by decide +kernel
theorem dX10_cuts_77 : decode cX10_cuts 77 = .ok (.iload_n 1, 1) := by decide +kernel
theorem dX10_cuts_78 : decode cX10_cuts 78 = .ok (.imul, 1) := by decide +kernel
theorem dX10_cuts_79 : decode cX10_cuts 79 = .ok (.iload 9, 2) := by decide +kernel
theorem dX10_cuts_81 : decode cX10_cuts 81 = .ok (.iadd, 1) := by decide +kernel
theorem dX10_cuts_82 : decode cX10_cuts 82 = .ok (.iaload, 1) := by decide +kernel
theorem dX10_cuts_83 : decode cX10_cuts 83 = .ok (.invokestatic 118, 3) := by decide +kernel
theorem dX10_cuts_86 : decode cX10_cuts 86 = .ok (.istore 10, 2) := by decide +kernel
theorem dX10_cuts_88 : decode cX10_cuts 88 = .ok (.aload_n 0, 1) := by decide +kernel
theorem dX10_cuts_89 : decode cX10_cuts 89 = .ok (.getfield 60, 3) := by decide +kernel
theorem dX10_cuts_92 : decode cX10_cuts 92 = .ok (.iload 9, 2) := by decide +kernel
theorem dX10_cuts_94 : decode cX10_cuts 94 = .ok (.baload, 1) := by decide +kernel
theorem dX10_cuts_95 : decode cX10_cuts 95 = .ok (.ifCond .eq 38, 3) := by decide +kernel
theorem dX10_cuts_98 : decode cX10_cuts 98 = .ok (.iload 10, 2) := by decide +kernel
theorem dX10_cuts_100 : decode cX10_cuts 100 = .ok (.iload 5, 2) := by decide +kernel
theorem dX10_cuts_102 : decode cX10_cuts 102 = .ok (.if_icmp .ge 8, 3) := by decide +kernel
theorem dX10_cuts_105 : decode cX10_cuts 105 = .ok (.iload 10, 2) := by decide +kernel
theorem dX10_cuts_107 : decode cX10_cuts 107 = .ok (.goto 5, 3) := by decide +kernel
theorem dX10_cuts_110 : decode cX10_cuts 110 = .ok (.iload 5, 2) := by decide +kernel
theorem dX10_cuts_112 : decode cX10_cuts 112 = .ok (.istore 5, 2) := by decide +kernel
theorem dX10_cuts_114 : decode cX10_cuts 114 = .ok (.iload 10, 2) := by decide +kernel
theorem dX10_cuts_116 : decode cX10_cuts 116 = .ok (.iload 6, 2) := by decide +kernel
theorem dX10_cuts_118 : decode cX10_cuts 118 = .ok (.if_icmp .le 8, 3) := by decide +kernel
theorem dX10_cuts_121 : decode cX10_cuts 121 = .ok (.iload 10, 2) := by decide +kernel
theorem dX10_cuts_123 : decode cX10_cuts 123 = .ok (.goto 5, 3) := by decide +kernel
theorem dX10_cuts_126 : decode cX10_cuts 126 = .ok (.iload 6, 2) := by decide +kernel
theorem dX10_cuts_128 : decode cX10_cuts 128 = .ok (.istore 6, 2) := by decide +kernel
theorem dX10_cuts_130 : decode cX10_cuts 130 = .ok (.goto 35, 3) := by decide +kernel
theorem dX10_cuts_133 : decode cX10_cuts 133 = .ok (.iload 10, 2) := by decide +kernel
theorem dX10_cuts_135 : decode cX10_cuts 135 = .ok (.iload 7, 2) := by decide +kernel
theorem dX10_cuts_137 : decode cX10_cuts 137 = .ok (.if_icmp .ge 8, 3) := by decide +kernel
theorem dX10_cuts_140 : decode cX10_cuts 140 = .ok (.iload 10, 2) := by decide +kernel
theorem dX10_cuts_142 : decode cX10_cuts 142 = .ok (.goto 5, 3) := by decide +kernel
theorem dX10_cuts_145 : decode cX10_cuts 145 = .ok (.iload 7, 2) := by decide +kernel
theorem dX10_cuts_147 : decode cX10_cuts 147 = .ok (.istore 7, 2) := by decide +kernel
theorem dX10_cuts_149 : decode cX10_cuts 149 = .ok (.iload 10, 2) := by decide +kernel
theorem dX10_cuts_151 : decode cX10_cuts 151 = .ok (.iload 8, 2) := by decide +kernel
theorem dX10_cuts_153 : decode cX10_cuts 153 = .ok (.if_icmp .le 8, 3) := by decide +kernel
theorem dX10_cuts_156 : decode cX10_cuts 156 = .ok (.iload 10, 2) := by decide +kernel
theorem dX10_cuts_158 : decode cX10_cuts 158 = .ok (.goto 5, 3) := by decide +kernel
theorem dX10_cuts_161 : decode cX10_cuts 161 = .ok (.iload 8, 2) := by decide +kernel
theorem dX10_cuts_163 : decode cX10_cuts 163 = .ok (.istore 8, 2) := by decide +kernel
theorem dX10_cuts_165 : decode cX10_cuts 165 = .ok (.iinc 9 1, 3) := by decide +kernel
theorem dX10_cuts_168 : decode cX10_cuts 168 = .ok (.goto (-135), 3) := by decide +kernel
theorem dX10_cuts_171 : decode cX10_cuts 171 = .ok (.bipush (-24), 2) := by decide +kernel
theorem dX10_cuts_173 : decode cX10_cuts 173 = .ok (.istore 9, 2) := by decide +kernel
theorem dX10_cuts_175 : decode cX10_cuts 175 = .ok (.iload 9, 2) := by decide +kernel
theorem dX10_cuts_177 : decode cX10_cuts 177 = .ok (.bipush 48, 2) := by decide +kernel
theorem dX10_cuts_179 : decode cX10_cuts 179 = .ok (.if_icmp .gt 140, 3) := by decide +kernel
theorem dX10_cuts_182 : decode cX10_cuts 182 = .ok (.iconst 0, 1) := by decide +kernel
theorem dX10_cuts_183 : decode cX10_cuts 183 = .ok (.istore 10, 2) := by decide +kernel
theorem dX10_cuts_185 : decode cX10_cuts 185 = .ok (.iload 10, 2) := by decide +kernel
theorem dX10_cuts_187 : decode cX10_cuts 187 = .ok (.iconst 2, 1) := by decide +kernel
theorem dX10_cuts_188 : decode cX10_cuts 188 = .ok (.if_icmp .ge 125, 3) := by decide +kernel
theorem dX10_cuts_191 : decode cX10_cuts 191 = .ok (.iload 10, 2) := by decide +kernel
theorem dX10_cuts_193 : decode cX10_cuts 193 = .ok (.iconst 1, 1) := by decide +kernel
theorem dX10_cuts_194 : decode cX10_cuts 194 = .ok (.if_icmp .ne 31, 3) := by decide +kernel
theorem dX10_cuts_197 : decode cX10_cuts 197 = .ok (.iload 8, 2) := by decide +kernel
theorem dX10_cuts_199 : decode cX10_cuts 199 = .ok (.bipush 6, 2) := by decide +kernel
theorem dX10_cuts_201 : decode cX10_cuts 201 = .ok (.iload 9, 2) := by decide +kernel
theorem dX10_cuts_203 : decode cX10_cuts 203 = .ok (.imul, 1) := by decide +kernel
theorem dX10_cuts_204 : decode cX10_cuts 204 = .ok (.if_icmp .ge 17, 3) := by decide +kernel
theorem dX10_cuts_207 : decode cX10_cuts 207 = .ok (.bipush 6, 2) := by decide +kernel
theorem dX10_cuts_209 : decode cX10_cuts 209 = .ok (.iload 9, 2) := by decide +kernel
theorem dX10_cuts_211 : decode cX10_cuts 211 = .ok (.imul, 1) := by decide +kernel
theorem dX10_cuts_212 : decode cX10_cuts 212 = .ok (.iload 5, 2) := by decide +kernel
theorem dX10_cuts_214 : decode cX10_cuts 214 = .ok (.if_icmp .ge 7, 3) := by decide +kernel
theorem dX10_cuts_217 : decode cX10_cuts 217 = .ok (.iconst 1, 1) := by decide +kernel
theorem dX10_cuts_218 : decode cX10_cuts 218 = .ok (.goto 32, 3) := by decide +kernel
theorem dX10_cuts_221 : decode cX10_cuts 221 = .ok (.iconst 0, 1) := by decide +kernel
theorem dX10_cuts_222 : decode cX10_cuts 222 = .ok (.goto 28, 3) := by decide +kernel
theorem dX10_cuts_225 : decode cX10_cuts 225 = .ok (.iload 6, 2) := by decide +kernel
theorem dX10_cuts_227 : decode cX10_cuts 227 = .ok (.bipush 6, 2) := by decide +kernel
theorem dX10_cuts_229 : decode cX10_cuts 229 = .ok (.iload 9, 2) := by decide +kernel
theorem dX10_cuts_231 : decode cX10_cuts 231 = .ok (.imul, 1) := by decide +kernel
theorem dX10_cuts_232 : decode cX10_cuts 232 = .ok (.if_icmp .ge 17, 3) := by decide +kernel
theorem dX10_cuts_235 : decode cX10_cuts 235 = .ok (.bipush 6, 2) := by decide +kernel
theorem dX10_cuts_237 : decode cX10_cuts 237 = .ok (.iload 9, 2) := by decide +kernel
theorem dX10_cuts_239 : decode cX10_cuts 239 = .ok (.imul, 1) := by decide +kernel
theorem dX10_cuts_240 : decode cX10_cuts 240 = .ok (.iload 7, 2) := by decide +kernel
theorem dX10_cuts_242 : decode cX10_cuts 242 = .ok (.if_icmp .ge 7, 3) := by decide +kernel
theorem dX10_cuts_245 : decode cX10_cuts 245 = .ok (.iconst 1, 1) := by decide +kernel
theorem dX10_cuts_246 : decode cX10_cuts 246 = .ok (.goto 4, 3) := by decide +kernel
theorem dX10_cuts_249 : decode cX10_cuts 249 = .ok (.iconst 0, 1) := by decide +kernel
theorem dX10_cuts_250 : decode cX10_cuts 250 = .ok (.istore 11, 2) := by decide +kernel
theorem dX10_cuts_252 : decode cX10_cuts 252 = .ok (.bipush 8, 2) := by decide +kernel
theorem dX10_cuts_254 : decode cX10_cuts 254 = .ok (.iload 9, 2) := by decide +kernel
theorem dX10_cuts_256 : decode cX10_cuts 256 = .ok (.bipush (-24), 2) := by decide +kernel
theorem dX10_cuts_258 : decode cX10_cuts 258 = .ok (.isub, 1) := by decide +kernel
theorem dX10_cuts_259 : decode cX10_cuts 259 = .ok (.imul, 1) := by decide +kernel
theorem dX10_cuts_260 : decode cX10_cuts 260 = .ok (.iconst 2, 1) := by decide +kernel
theorem dX10_cuts_261 : decode cX10_cuts 261 = .ok (.iload 4, 2) := by decide +kernel
theorem dX10_cuts_263 : decode cX10_cuts 263 = .ok (.imul, 1) := by decide +kernel
theorem dX10_cuts_264 : decode cX10_cuts 264 = .ok (.iadd, 1) := by decide +kernel
theorem dX10_cuts_265 : decode cX10_cuts 265 = .ok (.iload 10, 2) := by decide +kernel
theorem dX10_cuts_267 : decode cX10_cuts 267 = .ok (.iadd, 1) := by decide +kernel
theorem dX10_cuts_268 : decode cX10_cuts 268 = .ok (.istore 12, 2) := by decide +kernel
theorem dX10_cuts_270 : decode cX10_cuts 270 = .ok (.iload_n 2, 1) := by decide +kernel
theorem dX10_cuts_271 : decode cX10_cuts 271 = .ok (.iload 11, 2) := by decide +kernel
theorem dX10_cuts_273 : decode cX10_cuts 273 = .ok (.ifCond .eq 7, 3) := by decide +kernel
theorem dX10_cuts_276 : decode cX10_cuts 276 = .ok (.iconst 1, 1) := by decide +kernel
theorem dX10_cuts_277 : decode cX10_cuts 277 = .ok (.goto 4, 3) := by decide +kernel
theorem dX10_cuts_280 : decode cX10_cuts 280 = .ok (.iconst 0, 1) := by decide +kernel
theorem dX10_cuts_281 : decode cX10_cuts 281 = .ok (.iadd, 1) := by decide +kernel
theorem dX10_cuts_282 : decode cX10_cuts 282 = .ok (.istore_n 2, 1) := by decide +kernel
theorem dX10_cuts_283 : decode cX10_cuts 283 = .ok (.iload 11, 2) := by decide +kernel
theorem dX10_cuts_285 : decode cX10_cuts 285 = .ok (.ifCond .eq 20, 3) := by decide +kernel
theorem dX10_cuts_288 : decode cX10_cuts 288 = .ok (.iload_n 3, 1) := by decide +kernel
theorem dX10_cuts_289 : decode cX10_cuts 289 = .ok (.ldc 135, 2) := by decide +kernel
theorem dX10_cuts_291 : decode cX10_cuts 291 = .ok (.if_icmp .eq 9, 3) := by decide +kernel
theorem dX10_cuts_294 : decode cX10_cuts 294 = .ok (.iload 12, 2) := by decide +kernel
theorem dX10_cuts_296 : decode cX10_cuts 296 = .ok (.iload_n 3, 1) := by decide +kernel
theorem dX10_cuts_297 : decode cX10_cuts 297 = .ok (.if_icmp .ge 8, 3) := by decide +kernel
theorem dX10_cuts_300 : decode cX10_cuts 300 = .ok (.iload 12, 2) := by decide +kernel
theorem dX10_cuts_302 : decode cX10_cuts 302 = .ok (.goto 4, 3) := by decide +kernel
theorem dX10_cuts_305 : decode cX10_cuts 305 = .ok (.iload_n 3, 1) := by decide +kernel
theorem dX10_cuts_306 : decode cX10_cuts 306 = .ok (.istore_n 3, 1) := by decide +kernel
theorem dX10_cuts_307 : decode cX10_cuts 307 = .ok (.iinc 10 1, 3) := by decide +kernel
theorem dX10_cuts_310 : decode cX10_cuts 310 = .ok (.goto (-125), 3) := by decide +kernel
theorem dX10_cuts_313 : decode cX10_cuts 313 = .ok (.iinc 9 1, 3) := by decide +kernel
theorem dX10_cuts_316 : decode cX10_cuts 316 = .ok (.goto (-141), 3) := by decide +kernel
theorem dX10_cuts_319 : decode cX10_cuts 319 = .ok (.iinc 4 1, 3) := by decide +kernel
theorem dX10_cuts_322 : decode cX10_cuts 322 = .ok (.goto (-314), 3) := by decide +kernel
theorem dX10_cuts_325 : decode cX10_cuts 325 = .ok (.iload_n 2, 1) := by decide +kernel
theorem dX10_cuts_326 : decode cX10_cuts 326 = .ok (.ifCond .le 46, 3) := by decide +kernel
theorem dX10_cuts_329 : decode cX10_cuts 329 = .ok (.aload_n 0, 1) := by decide +kernel
theorem dX10_cuts_330 : decode cX10_cuts 330 = .ok (.getfield 210, 3) := by decide +kernel
theorem dX10_cuts_333 : decode cX10_cuts 333 = .ok (.ifCond .ne 39, 3) := by decide +kernel
theorem dX10_cuts_336 : decode cX10_cuts 336 = .ok (.iconst 0, 1) := by decide +kernel
theorem dX10_cuts_337 : decode cX10_cuts 337 = .ok (.istore 4, 2) := by decide +kernel
theorem dX10_cuts_339 : decode cX10_cuts 339 = .ok (.iload 4, 2) := by decide +kernel
theorem dX10_cuts_341 : decode cX10_cuts 341 = .ok (.iload_n 1, 1) := by decide +kernel
theorem dX10_cuts_342 : decode cX10_cuts 342 = .ok (.if_icmp .ge 23, 3) := by decide +kernel
theorem dX10_cuts_345 : decode cX10_cuts 345 = .ok (.aload_n 0, 1) := by decide +kernel
theorem dX10_cuts_346 : decode cX10_cuts 346 = .ok (.getfield 87, 3) := by decide +kernel
theorem dX10_cuts_349 : decode cX10_cuts 349 = .ok (.iload 4, 2) := by decide +kernel
theorem dX10_cuts_351 : decode cX10_cuts 351 = .ok (.aload_n 0, 1) := by decide +kernel
theorem dX10_cuts_352 : decode cX10_cuts 352 = .ok (.getfield 84, 3) := by decide +kernel
theorem dX10_cuts_355 : decode cX10_cuts 355 = .ok (.iload 4, 2) := by decide +kernel
theorem dX10_cuts_357 : decode cX10_cuts 357 = .ok (.iaload, 1) := by decide +kernel
theorem dX10_cuts_358 : decode cX10_cuts 358 = .ok (.iastore, 1) := by decide +kernel
theorem dX10_cuts_359 : decode cX10_cuts 359 = .ok (.iinc 4 1, 3) := by decide +kernel
theorem dX10_cuts_362 : decode cX10_cuts 362 = .ok (.goto (-23), 3) := by decide +kernel
theorem dX10_cuts_365 : decode cX10_cuts 365 = .ok (.aload_n 0, 1) := by decide +kernel
theorem dX10_cuts_366 : decode cX10_cuts 366 = .ok (.getfield 87, 3) := by decide +kernel
theorem dX10_cuts_369 : decode cX10_cuts 369 = .ok (.iload_n 1, 1) := by decide +kernel
theorem dX10_cuts_370 : decode cX10_cuts 370 = .ok (.iload_n 3, 1) := by decide +kernel
theorem dX10_cuts_371 : decode cX10_cuts 371 = .ok (.iastore, 1) := by decide +kernel
theorem dX10_cuts_372 : decode cX10_cuts 372 = .ok (.iload_n 2, 1) := by decide +kernel
theorem dX10_cuts_373 : decode cX10_cuts 373 = .ok (.ireturn, 1) := by decide +kernel
theorem dX10_goThrough_0 : decode cX10_goThrough 0 = .ok (.iconst 0, 1) := by decide +kernel
theorem dX10_goThrough_1 : decode cX10_goThrough 1 = .ok (.istore_n 2, 1) := by decide +kernel
theorem dX10_goThrough_2 : decode cX10_goThrough 2 = .ok (.aload_n 0, 1) := by decide +kernel
theorem dX10_goThrough_3 : decode cX10_goThrough 3 = .ok (.getfield 84, 3) := by decide +kernel
theorem dX10_goThrough_6 : decode cX10_goThrough 6 = .ok (.iconst 0, 1) := by decide +kernel
theorem dX10_goThrough_7 : decode cX10_goThrough 7 = .ok (.iconst (-1), 1) := by decide +kernel
theorem dX10_goThrough_8 : decode cX10_goThrough 8 = .ok (.iastore, 1) := by decide +kernel
theorem dX10_goThrough_9 : decode cX10_goThrough 9 = .ok (.iload_n 2, 1) := by decide +kernel
theorem dX10_goThrough_10 : decode cX10_goThrough 10 = .ok (.ifCond .lt 118, 3) := by decide +kernel
theorem dX10_goThrough_13 : decode cX10_goThrough 13 = .ok (.iload_n 2, 1) := by decide +kernel
theorem dX10_goThrough_14 : decode cX10_goThrough 14 = .ok (.iload_n 1, 1) := by decide +kernel
theorem dX10_goThrough_15 : decode cX10_goThrough 15 = .ok (.if_icmp .ne 26, 3) := by decide +kernel
theorem dX10_goThrough_18 : decode cX10_goThrough 18 = .ok (.aload_n 0, 1) := by decide +kernel
theorem dX10_goThrough_19 : decode cX10_goThrough 19 = .ok (.dup, 1) := by decide +kernel
theorem dX10_goThrough_20 : decode cX10_goThrough 20 = .ok (.getfield 210, 3) := by decide +kernel
theorem dX10_goThrough_23 : decode cX10_goThrough 23 = .ok (.aload_n 0, 1) := by decide +kernel
theorem dX10_goThrough_24 : decode cX10_goThrough 24 = .ok (.iload_n 2, 1) := by decide +kernel
theorem dX10_goThrough_25 : decode cX10_goThrough 25 = .ok (.invokevirtual 213, 3) := by decide +kernel
theorem dX10_goThrough_28 : decode cX10_goThrough 28 = .ok (.iadd, 1) := by decide +kernel
theorem dX10_goThrough_29 : decode cX10_goThrough 29 = .ok (.putfield 210, 3) := by decide +kernel
theorem dX10_goThrough_32 : decode cX10_goThrough 32 = .ok (.iinc 2 (-1), 3) := by decide +kernel
theorem dX10_goThrough_35 : decode cX10_goThrough 35 = .ok (.iload_n 2, 1) := by decide +kernel
theorem dX10_goThrough_36 : decode cX10_goThrough 36 = .ok (.ifCond .ge 5, 3) := by decide +kernel
theorem dX10_goThrough_39 : decode cX10_goThrough 39 = .ok (.iconst 1, 1) := by decide +kernel
theorem dX10_goThrough_40 : decode cX10_goThrough 40 = .ok (.ireturn, 1) := by decide +kernel
theorem dX10_goThrough_41 : decode cX10_goThrough 41 = .ok (.aload_n 0, 1) := by decide +kernel
theorem dX10_goThrough_42 : decode cX10_goThrough 42 = .ok (.getfield 84, 3) := by decide +kernel
theorem dX10_goThrough_45 : decode cX10_goThrough 45 = .ok (.iload_n 2, 1) := by decide +kernel
theorem dX10_goThrough_46 : decode cX10_goThrough 46 = .ok (.dup2, 1) := by decide +kernel
theorem dX10_goThrough_47 : decode cX10_goThrough 47 = .ok (.iaload, 1) := by decide +kernel
theorem dX10_goThrough_48 : decode cX10_goThrough 48 = .ok (.iconst 1, 1) := by decide +kernel
theorem dX10_goThrough_49 : decode cX10_goThrough 49 = .ok (.iadd, 1) := by decide +kernel
theorem dX10_goThrough_50 : decode cX10_goThrough 50 = .ok (.iastore, 1) := by decide +kernel
theorem dX10_goThrough_51 : decode cX10_goThrough 51 = .ok (.aload_n 0, 1) := by decide +kernel
theorem dX10_goThrough_52 : decode cX10_goThrough 52 = .ok (.getfield 84, 3) := by decide +kernel
theorem dX10_goThrough_55 : decode cX10_goThrough 55 = .ok (.iload_n 2, 1) := by decide +kernel
theorem dX10_goThrough_56 : decode cX10_goThrough 56 = .ok (.iaload, 1) := by decide +kernel
theorem dX10_goThrough_57 : decode cX10_goThrough 57 = .ok (.sipush 584, 3) := by decide +kernel
theorem dX10_goThrough_60 : decode cX10_goThrough 60 = .ok (.if_icmp .ne 9, 3) := by decide +kernel
theorem dX10_goThrough_63 : decode cX10_goThrough 63 = .ok (.iinc 2 (-1), 3) := by decide +kernel
theorem dX10_goThrough_66 : decode cX10_goThrough 66 = .ok (.goto (-57), 3) := by decide +kernel
theorem dX10_goThrough_69 : decode cX10_goThrough 69 = .ok (.aload_n 0, 1) := by decide +kernel
theorem dX10_goThrough_70 : decode cX10_goThrough 70 = .ok (.iload_n 2, 1) := by decide +kernel
theorem dX10_goThrough_71 : decode cX10_goThrough 71 = .ok (.aload_n 0, 1) := by decide +kernel
theorem dX10_goThrough_72 : decode cX10_goThrough 72 = .ok (.getfield 84, 3) := by decide +kernel
theorem dX10_goThrough_75 : decode cX10_goThrough 75 = .ok (.iload_n 2, 1) := by decide +kernel
theorem dX10_goThrough_76 : decode cX10_goThrough 76 = .ok (.iaload, 1) := by decide +kernel
theorem dX10_goThrough_77 : decode cX10_goThrough 77 = .ok (.invokevirtual 217, 3) := by decide +kernel
theorem dX10_goThrough_80 : decode cX10_goThrough 80 = .ok (.ifCond .eq (-71), 3) := by decide +kernel
theorem dX10_goThrough_83 : decode cX10_goThrough 83 = .ok (.iinc 2 1, 3) := by decide +kernel
theorem dX10_goThrough_86 : decode cX10_goThrough 86 = .ok (.aload_n 0, 1) := by decide +kernel
theorem dX10_goThrough_87 : decode cX10_goThrough 87 = .ok (.iload_n 2, 1) := by decide +kernel
theorem dX10_goThrough_88 : decode cX10_goThrough 88 = .ok (.invokevirtual 220, 3) := by decide +kernel
theorem dX10_goThrough_91 : decode cX10_goThrough 91 = .ok (.iload_n 2, 1) := by decide +kernel
theorem dX10_goThrough_92 : decode cX10_goThrough 92 = .ok (.iload_n 1, 1) := by decide +kernel
theorem dX10_goThrough_93 : decode cX10_goThrough 93 = .ok (.if_icmp .ne 25, 3) := by decide +kernel
theorem dX10_goThrough_96 : decode cX10_goThrough 96 = .ok (.aload_n 0, 1) := by decide +kernel
theorem dX10_goThrough_97 : decode cX10_goThrough 97 = .ok (.dup, 1) := by decide +kernel
theorem dX10_goThrough_98 : decode cX10_goThrough 98 = .ok (.getfield 223, 3) := by decide +kernel
theorem dX10_goThrough_101 : decode cX10_goThrough 101 = .ok (.iconst 1, 1) := by decide +kernel
theorem dX10_goThrough_102 : decode cX10_goThrough 102 = .ok (.iadd, 1) := by decide +kernel
theorem dX10_goThrough_103 : decode cX10_goThrough 103 = .ok (.putfield 223, 3) := by decide +kernel
theorem dX10_goThrough_106 : decode cX10_goThrough 106 = .ok (.aload_n 0, 1) := by decide +kernel
theorem dX10_goThrough_107 : decode cX10_goThrough 107 = .ok (.getfield 223, 3) := by decide +kernel
theorem dX10_goThrough_110 : decode cX10_goThrough 110 = .ok (.sipush 3000, 3) := by decide +kernel
theorem dX10_goThrough_113 : decode cX10_goThrough 113 = .ok (.if_icmp .le (-104), 3) := by decide +kernel
theorem dX10_goThrough_116 : decode cX10_goThrough 116 = .ok (.iconst 0, 1) := by decide +kernel
theorem dX10_goThrough_117 : decode cX10_goThrough 117 = .ok (.ireturn, 1) := by decide +kernel
theorem dX10_goThrough_118 : decode cX10_goThrough 118 = .ok (.aload_n 0, 1) := by decide +kernel
theorem dX10_goThrough_119 : decode cX10_goThrough 119 = .ok (.getfield 84, 3) := by decide +kernel
theorem dX10_goThrough_122 : decode cX10_goThrough 122 = .ok (.iload_n 2, 1) := by decide +kernel
theorem dX10_goThrough_123 : decode cX10_goThrough 123 = .ok (.iconst (-1), 1) := by decide +kernel
theorem dX10_goThrough_124 : decode cX10_goThrough 124 = .ok (.iastore, 1) := by decide +kernel
theorem dX10_goThrough_125 : decode cX10_goThrough 125 = .ok (.goto (-116), 3) := by decide +kernel
theorem dX10_goThrough_128 : decode cX10_goThrough 128 = .ok (.iconst 1, 1) := by decide +kernel
theorem dX10_goThrough_129 : decode cX10_goThrough 129 = .ok (.ireturn, 1) := by decide +kernel
theorem dX10_look_0 : decode cX10_look 0 = .ok (.iconst 0, 1) := by decide +kernel
theorem dX10_look_1 : decode cX10_look 1 = .ok (.istore_n 2, 1) := by decide +kernel
theorem dX10_look_2 : decode cX10_look 2 = .ok (.iload_n 2, 1) := by decide +kernel
theorem dX10_look_3 : decode cX10_look 3 = .ok (.aload_n 0, 1) := by decide +kernel
theorem dX10_look_4 : decode cX10_look 4 = .ok (.invokevirtual 97, 3) := by decide +kernel
theorem dX10_look_7 : decode cX10_look 7 = .ok (.if_icmp .ge 46, 3) := by decide +kernel
theorem dX10_look_10 : decode cX10_look 10 = .ok (.aload_n 0, 1) := by decide +kernel
theorem dX10_look_11 : decode cX10_look 11 = .ok (.getfield 66, 3) := by decide +kernel
theorem dX10_look_14 : decode cX10_look 14 = .ok (.iload_n 2, 1) := by decide +kernel
theorem dX10_look_15 : decode cX10_look 15 = .ok (.iload_n 2, 1) := by decide +kernel
theorem dX10_look_16 : decode cX10_look 16 = .ok (.iconst 4, 1) := by decide +kernel
theorem dX10_look_17 : decode cX10_look 17 = .ok (.idiv, 1) := by decide +kernel
theorem dX10_look_18 : decode cX10_look 18 = .ok (.aload_n 0, 1) := by decide +kernel
theorem dX10_look_19 : decode cX10_look 19 = .ok (.getfield 7, 3) := by decide +kernel
theorem dX10_look_22 : decode cX10_look 22 = .ok (.irem, 1) := by decide +kernel
theorem dX10_look_23 : decode cX10_look 23 = .ok (.iastore, 1) := by decide +kernel
theorem dX10_look_24 : decode cX10_look 24 = .ok (.aload_n 0, 1) := by decide +kernel
theorem dX10_look_25 : decode cX10_look 25 = .ok (.getfield 69, 3) := by decide +kernel
theorem dX10_look_28 : decode cX10_look 28 = .ok (.iload_n 2, 1) := by decide +kernel
theorem dX10_look_29 : decode cX10_look 29 = .ok (.iload_n 2, 1) := by decide +kernel
theorem dX10_look_30 : decode cX10_look 30 = .ok (.iconst 4, 1) := by decide +kernel
theorem dX10_look_31 : decode cX10_look 31 = .ok (.idiv, 1) := by decide +kernel
theorem dX10_look_32 : decode cX10_look 32 = .ok (.aload_n 0, 1) := by decide +kernel
theorem dX10_look_33 : decode cX10_look 33 = .ok (.getfield 7, 3) := by decide +kernel
theorem dX10_look_36 : decode cX10_look 36 = .ok (.idiv, 1) := by decide +kernel
theorem dX10_look_37 : decode cX10_look 37 = .ok (.iastore, 1) := by decide +kernel
theorem dX10_look_38 : decode cX10_look 38 = .ok (.aload_n 0, 1) := by decide +kernel
theorem dX10_look_39 : decode cX10_look 39 = .ok (.getfield 72, 3) := by decide +kernel
theorem dX10_look_42 : decode cX10_look 42 = .ok (.iload_n 2, 1) := by decide +kernel
theorem dX10_look_43 : decode cX10_look 43 = .ok (.iload_n 2, 1) := by decide +kernel
theorem dX10_look_44 : decode cX10_look 44 = .ok (.iconst 4, 1) := by decide +kernel
theorem dX10_look_45 : decode cX10_look 45 = .ok (.irem, 1) := by decide +kernel
theorem dX10_look_46 : decode cX10_look 46 = .ok (.iastore, 1) := by decide +kernel
theorem dX10_look_47 : decode cX10_look 47 = .ok (.iinc 2 1, 3) := by decide +kernel
theorem dX10_look_50 : decode cX10_look 50 = .ok (.goto (-48), 3) := by decide +kernel
theorem dX10_look_53 : decode cX10_look 53 = .ok (.aload_n 0, 1) := by decide +kernel
theorem dX10_look_54 : decode cX10_look 54 = .ok (.iconst 0, 1) := by decide +kernel
theorem dX10_look_55 : decode cX10_look 55 = .ok (.invokevirtual 220, 3) := by decide +kernel
theorem dX10_look_58 : decode cX10_look 58 = .ok (.aload_n 0, 1) := by decide +kernel
theorem dX10_look_59 : decode cX10_look 59 = .ok (.iconst 0, 1) := by decide +kernel
theorem dX10_look_60 : decode cX10_look 60 = .ok (.putfield 223, 3) := by decide +kernel
theorem dX10_look_63 : decode cX10_look 63 = .ok (.aload_n 0, 1) := by decide +kernel
theorem dX10_look_64 : decode cX10_look 64 = .ok (.iconst 0, 1) := by decide +kernel
theorem dX10_look_65 : decode cX10_look 65 = .ok (.putfield 210, 3) := by decide +kernel
theorem dX10_look_68 : decode cX10_look 68 = .ok (.iconst 0, 1) := by decide +kernel
theorem dX10_look_69 : decode cX10_look 69 = .ok (.istore_n 2, 1) := by decide +kernel
theorem dX10_look_70 : decode cX10_look 70 = .ok (.iload_n 2, 1) := by decide +kernel
theorem dX10_look_71 : decode cX10_look 71 = .ok (.iload_n 1, 1) := by decide +kernel
theorem dX10_look_72 : decode cX10_look 72 = .ok (.if_icmp .gt 29, 3) := by decide +kernel
theorem dX10_look_75 : decode cX10_look 75 = .ok (.aload_n 0, 1) := by decide +kernel
theorem dX10_look_76 : decode cX10_look 76 = .ok (.iload_n 2, 1) := by decide +kernel
theorem dX10_look_77 : decode cX10_look 77 = .ok (.invokevirtual 226, 3) := by decide +kernel
theorem dX10_look_80 : decode cX10_look 80 = .ok (.ifCond .ne 6, 3) := by decide +kernel
theorem dX10_look_83 : decode cX10_look 83 = .ok (.bipush (-5), 2) := by decide +kernel
theorem dX10_look_85 : decode cX10_look 85 = .ok (.ireturn, 1) := by decide +kernel
theorem dX10_look_86 : decode cX10_look 86 = .ok (.aload_n 0, 1) := by decide +kernel
theorem dX10_look_87 : decode cX10_look 87 = .ok (.getfield 210, 3) := by decide +kernel
theorem dX10_look_90 : decode cX10_look 90 = .ok (.ifCond .le 5, 3) := by decide +kernel
theorem dX10_look_93 : decode cX10_look 93 = .ok (.iload_n 2, 1) := by decide +kernel
theorem dX10_look_94 : decode cX10_look 94 = .ok (.ireturn, 1) := by decide +kernel
theorem dX10_look_95 : decode cX10_look 95 = .ok (.iinc 2 1, 3) := by decide +kernel
theorem dX10_look_98 : decode cX10_look 98 = .ok (.goto (-28), 3) := by decide +kernel
theorem dX10_look_101 : decode cX10_look 101 = .ok (.ldc 135, 2) := by decide +kernel
theorem dX10_look_103 : decode cX10_look 103 = .ok (.ireturn, 1) := by decide +kernel
theorem dX10_fewest_0 : decode cX10_fewest 0 = .ok (.aload_n 0, 1) := by decide +kernel
theorem dX10_fewest_1 : decode cX10_fewest 1 = .ok (.iconst 0, 1) := by decide +kernel
theorem dX10_fewest_2 : decode cX10_fewest 2 = .ok (.putfield 94, 3) := by decide +kernel
theorem dX10_fewest_5 : decode cX10_fewest 5 = .ok (.iload_n 1, 1) := by decide +kernel
theorem dX10_fewest_6 : decode cX10_fewest 6 = .ok (.i2l, 1) := by decide +kernel
theorem dX10_fewest_7 : decode cX10_fewest 7 = .ok (.lconst 0, 1) := by decide +kernel
theorem dX10_fewest_8 : decode cX10_fewest 8 = .ok (.ldc2_w 105, 3) := by decide +kernel
theorem dX10_fewest_11 : decode cX10_fewest 11 = .ok (.invokestatic 101, 3) := by decide +kernel
theorem dX10_fewest_14 : decode cX10_fewest 14 = .ok (.ifCond .eq 11, 3) := by decide +kernel
theorem dX10_fewest_17 : decode cX10_fewest 17 = .ok (.aload_n 0, 1) := by decide +kernel
theorem dX10_fewest_18 : decode cX10_fewest 18 = .ok (.iload_n 1, 1) := by decide +kernel
theorem dX10_fewest_19 : decode cX10_fewest 19 = .ok (.invokevirtual 229, 3) := by decide +kernel
theorem dX10_fewest_22 : decode cX10_fewest 22 = .ok (.goto 5, 3) := by decide +kernel
theorem dX10_fewest_25 : decode cX10_fewest 25 = .ok (.bipush (-2), 2) := by decide +kernel
theorem dX10_fewest_27 : decode cX10_fewest 27 = .ok (.ireturn, 1) := by decide +kernel
theorem dX10_way_0 : decode cX10_way 0 = .ok (.aload_n 0, 1) := by decide +kernel
theorem dX10_way_1 : decode cX10_way 1 = .ok (.iconst 0, 1) := by decide +kernel
theorem dX10_way_2 : decode cX10_way 2 = .ok (.putfield 94, 3) := by decide +kernel
theorem dX10_way_5 : decode cX10_way 5 = .ok (.iload_n 1, 1) := by decide +kernel
theorem dX10_way_6 : decode cX10_way 6 = .ok (.i2l, 1) := by decide +kernel
theorem dX10_way_7 : decode cX10_way 7 = .ok (.lconst 0, 1) := by decide +kernel
theorem dX10_way_8 : decode cX10_way 8 = .ok (.ldc2_w 105, 3) := by decide +kernel
theorem dX10_way_11 : decode cX10_way 11 = .ok (.invokestatic 101, 3) := by decide +kernel
theorem dX10_way_14 : decode cX10_way 14 = .ok (.ifCond .ne 6, 3) := by decide +kernel
theorem dX10_way_17 : decode cX10_way 17 = .ok (.bipush (-2), 2) := by decide +kernel
theorem dX10_way_19 : decode cX10_way 19 = .ok (.ireturn, 1) := by decide +kernel
theorem dX10_way_20 : decode cX10_way 20 = .ok (.aload_n 0, 1) := by decide +kernel
theorem dX10_way_21 : decode cX10_way 21 = .ok (.iload_n 1, 1) := by decide +kernel
theorem dX10_way_22 : decode cX10_way 22 = .ok (.invokevirtual 229, 3) := by decide +kernel
theorem dX10_way_25 : decode cX10_way 25 = .ok (.istore_n 3, 1) := by decide +kernel
theorem dX10_way_26 : decode cX10_way 26 = .ok (.iload_n 3, 1) := by decide +kernel
theorem dX10_way_27 : decode cX10_way 27 = .ok (.bipush (-5), 2) := by decide +kernel
theorem dX10_way_29 : decode cX10_way 29 = .ok (.if_icmp .ne 6, 3) := by decide +kernel
theorem dX10_way_32 : decode cX10_way 32 = .ok (.bipush (-5), 2) := by decide +kernel
theorem dX10_way_34 : decode cX10_way 34 = .ok (.ireturn, 1) := by decide +kernel
theorem dX10_way_35 : decode cX10_way 35 = .ok (.iload_n 3, 1) := by decide +kernel
theorem dX10_way_36 : decode cX10_way 36 = .ok (.ldc 135, 2) := by decide +kernel
theorem dX10_way_38 : decode cX10_way 38 = .ok (.if_icmp .eq 14, 3) := by decide +kernel
theorem dX10_way_41 : decode cX10_way 41 = .ok (.iload_n 2, 1) := by decide +kernel
theorem dX10_way_42 : decode cX10_way 42 = .ok (.i2l, 1) := by decide +kernel
theorem dX10_way_43 : decode cX10_way 43 = .ok (.lconst 0, 1) := by decide +kernel
theorem dX10_way_44 : decode cX10_way 44 = .ok (.iload_n 3, 1) := by decide +kernel
theorem dX10_way_45 : decode cX10_way 45 = .ok (.i2l, 1) := by decide +kernel
theorem dX10_way_46 : decode cX10_way 46 = .ok (.invokestatic 101, 3) := by decide +kernel
theorem dX10_way_49 : decode cX10_way 49 = .ok (.ifCond .ne 6, 3) := by decide +kernel
theorem dX10_way_52 : decode cX10_way 52 = .ok (.ldc 135, 2) := by decide +kernel
theorem dX10_way_54 : decode cX10_way 54 = .ok (.ireturn, 1) := by decide +kernel
theorem dX10_way_55 : decode cX10_way 55 = .ok (.aload_n 0, 1) := by decide +kernel
theorem dX10_way_56 : decode cX10_way 56 = .ok (.getfield 87, 3) := by decide +kernel
theorem dX10_way_59 : decode cX10_way 59 = .ok (.iload_n 2, 1) := by decide +kernel
theorem dX10_way_60 : decode cX10_way 60 = .ok (.iaload, 1) := by decide +kernel
theorem dX10_way_61 : decode cX10_way 61 = .ok (.istore 4, 2) := by decide +kernel
theorem dX10_way_63 : decode cX10_way 63 = .ok (.bipush 100, 2) := by decide +kernel
theorem dX10_way_65 : decode cX10_way 65 = .ok (.iload 4, 2) := by decide +kernel
theorem dX10_way_67 : decode cX10_way 67 = .ok (.bipush 8, 2) := by decide +kernel
theorem dX10_way_69 : decode cX10_way 69 = .ok (.idiv, 1) := by decide +kernel
theorem dX10_way_70 : decode cX10_way 70 = .ok (.bipush (-24), 2) := by decide +kernel
theorem dX10_way_72 : decode cX10_way 72 = .ok (.iadd, 1) := by decide +kernel
theorem dX10_way_73 : decode cX10_way 73 = .ok (.imul, 1) := by decide +kernel
theorem dX10_way_74 : decode cX10_way 74 = .ok (.sipush 1000, 3) := by decide +kernel
theorem dX10_way_77 : decode cX10_way 77 = .ok (.iadd, 1) := by decide +kernel
theorem dX10_way_78 : decode cX10_way 78 = .ok (.bipush 10, 2) := by decide +kernel
theorem dX10_way_80 : decode cX10_way 80 = .ok (.iload 4, 2) := by decide +kernel
theorem dX10_way_82 : decode cX10_way 82 = .ok (.bipush 8, 2) := by decide +kernel
theorem dX10_way_84 : decode cX10_way 84 = .ok (.irem, 1) := by decide +kernel
theorem dX10_way_85 : decode cX10_way 85 = .ok (.iconst 2, 1) := by decide +kernel
theorem dX10_way_86 : decode cX10_way 86 = .ok (.idiv, 1) := by decide +kernel
theorem dX10_way_87 : decode cX10_way 87 = .ok (.imul, 1) := by decide +kernel
theorem dX10_way_88 : decode cX10_way 88 = .ok (.iadd, 1) := by decide +kernel
theorem dX10_way_89 : decode cX10_way 89 = .ok (.iload 4, 2) := by decide +kernel
theorem dX10_way_91 : decode cX10_way 91 = .ok (.iconst 2, 1) := by decide +kernel
theorem dX10_way_92 : decode cX10_way 92 = .ok (.irem, 1) := by decide +kernel
theorem dX10_way_93 : decode cX10_way 93 = .ok (.iadd, 1) := by decide +kernel
theorem dX10_way_94 : decode cX10_way 94 = .ok (.ireturn, 1) := by decide +kernel
theorem dX10_ways_0 : decode cX10_ways 0 = .ok (.aload_n 0, 1) := by decide +kernel
theorem dX10_ways_1 : decode cX10_ways 1 = .ok (.iconst 0, 1) := by decide +kernel
theorem dX10_ways_2 : decode cX10_ways 2 = .ok (.putfield 94, 3) := by decide +kernel
theorem dX10_ways_5 : decode cX10_ways 5 = .ok (.iload_n 1, 1) := by decide +kernel
theorem dX10_ways_6 : decode cX10_ways 6 = .ok (.i2l, 1) := by decide +kernel
theorem dX10_ways_7 : decode cX10_ways 7 = .ok (.lconst 0, 1) := by decide +kernel
theorem dX10_ways_8 : decode cX10_ways 8 = .ok (.ldc2_w 105, 3) := by decide +kernel
theorem dX10_ways_11 : decode cX10_ways 11 = .ok (.invokestatic 101, 3) := by decide +kernel
theorem dX10_ways_14 : decode cX10_ways 14 = .ok (.ifCond .ne 6, 3) := by decide +kernel
theorem dX10_ways_17 : decode cX10_ways 17 = .ok (.bipush (-2), 2) := by decide +kernel
theorem dX10_ways_19 : decode cX10_ways 19 = .ok (.ireturn, 1) := by decide +kernel
theorem dX10_ways_20 : decode cX10_ways 20 = .ok (.aload_n 0, 1) := by decide +kernel
theorem dX10_ways_21 : decode cX10_ways 21 = .ok (.iload_n 1, 1) := by decide +kernel
theorem dX10_ways_22 : decode cX10_ways 22 = .ok (.invokevirtual 229, 3) := by decide +kernel
theorem dX10_ways_25 : decode cX10_ways 25 = .ok (.bipush (-5), 2) := by decide +kernel
theorem dX10_ways_27 : decode cX10_ways 27 = .ok (.if_icmp .ne 8, 3) := by decide +kernel
theorem dX10_ways_30 : decode cX10_ways 30 = .ok (.bipush (-5), 2) := by decide +kernel
theorem dX10_ways_32 : decode cX10_ways 32 = .ok (.goto 7, 3) := by decide +kernel
theorem dX10_ways_35 : decode cX10_ways 35 = .ok (.aload_n 0, 1) := by decide +kernel
theorem dX10_ways_36 : decode cX10_ways 36 = .ok (.getfield 210, 3) := by decide +kernel
theorem dX10_ways_39 : decode cX10_ways 39 = .ok (.ireturn, 1) := by decide +kernel
theorem dX10_count_0 : decode cX10_count 0 = .ok (.aload_n 0, 1) := by decide +kernel
theorem dX10_count_1 : decode cX10_count 1 = .ok (.iconst 0, 1) := by decide +kernel
theorem dX10_count_2 : decode cX10_count 2 = .ok (.putfield 94, 3) := by decide +kernel
theorem dX10_count_5 : decode cX10_count 5 = .ok (.iconst 0, 1) := by decide +kernel
theorem dX10_count_6 : decode cX10_count 6 = .ok (.istore_n 2, 1) := by decide +kernel
theorem dX10_count_7 : decode cX10_count 7 = .ok (.iconst 0, 1) := by decide +kernel
theorem dX10_count_8 : decode cX10_count 8 = .ok (.istore_n 3, 1) := by decide +kernel
theorem dX10_count_9 : decode cX10_count 9 = .ok (.iconst 0, 1) := by decide +kernel
theorem dX10_count_10 : decode cX10_count 10 = .ok (.istore 4, 2) := by decide +kernel
theorem dX10_count_12 : decode cX10_count 12 = .ok (.iload 4, 2) := by decide +kernel
theorem dX10_count_14 : decode cX10_count 14 = .ok (.aload_n 0, 1) := by decide +kernel
theorem dX10_count_15 : decode cX10_count 15 = .ok (.invokevirtual 97, 3) := by decide +kernel
theorem dX10_count_18 : decode cX10_count 18 = .ok (.if_icmp .ge 45, 3) := by decide +kernel
theorem dX10_count_21 : decode cX10_count 21 = .ok (.iload_n 2, 1) := by decide +kernel
theorem dX10_count_22 : decode cX10_count 22 = .ok (.aload_n 0, 1) := by decide +kernel
theorem dX10_count_23 : decode cX10_count 23 = .ok (.getfield 57, 3) := by decide +kernel
theorem dX10_count_26 : decode cX10_count 26 = .ok (.iload 4, 2) := by decide +kernel
theorem dX10_count_28 : decode cX10_count 28 = .ok (.baload, 1) := by decide +kernel
theorem dX10_count_29 : decode cX10_count 29 = .ok (.ifCond .eq 7, 3) := by decide +kernel
theorem dX10_count_32 : decode cX10_count 32 = .ok (.iconst 1, 1) := by decide +kernel
theorem dX10_count_33 : decode cX10_count 33 = .ok (.goto 4, 3) := by decide +kernel
theorem dX10_count_36 : decode cX10_count 36 = .ok (.iconst 0, 1) := by decide +kernel
theorem dX10_count_37 : decode cX10_count 37 = .ok (.iadd, 1) := by decide +kernel
theorem dX10_count_38 : decode cX10_count 38 = .ok (.istore_n 2, 1) := by decide +kernel
theorem dX10_count_39 : decode cX10_count 39 = .ok (.iload_n 3, 1) := by decide +kernel
theorem dX10_count_40 : decode cX10_count 40 = .ok (.aload_n 0, 1) := by decide +kernel
theorem dX10_count_41 : decode cX10_count 41 = .ok (.getfield 26, 3) := by decide +kernel
theorem dX10_count_44 : decode cX10_count 44 = .ok (.iload 4, 2) := by decide +kernel
theorem dX10_count_46 : decode cX10_count 46 = .ok (.baload, 1) := by decide +kernel
theorem dX10_count_47 : decode cX10_count 47 = .ok (.ifCond .eq 7, 3) := by decide +kernel
theorem dX10_count_50 : decode cX10_count 50 = .ok (.iconst 0, 1) := by decide +kernel
theorem dX10_count_51 : decode cX10_count 51 = .ok (.goto 4, 3) := by decide +kernel
theorem dX10_count_54 : decode cX10_count 54 = .ok (.iconst 1, 1) := by decide +kernel
theorem dX10_count_55 : decode cX10_count 55 = .ok (.iadd, 1) := by decide +kernel
theorem dX10_count_56 : decode cX10_count 56 = .ok (.istore_n 3, 1) := by decide +kernel
theorem dX10_count_57 : decode cX10_count 57 = .ok (.iinc 4 1, 3) := by decide +kernel
theorem dX10_count_60 : decode cX10_count 60 = .ok (.goto (-48), 3) := by decide +kernel
theorem dX10_count_63 : decode cX10_count 63 = .ok (.iload_n 1, 1) := by decide +kernel
theorem dX10_count_64 : decode cX10_count 64 = .ok (.ifCond .ne 10, 3) := by decide +kernel
theorem dX10_count_67 : decode cX10_count 67 = .ok (.aload_n 0, 1) := by decide +kernel
theorem dX10_count_68 : decode cX10_count 68 = .ok (.invokevirtual 97, 3) := by decide +kernel
theorem dX10_count_71 : decode cX10_count 71 = .ok (.goto 47, 3) := by decide +kernel
theorem dX10_count_74 : decode cX10_count 74 = .ok (.iload_n 1, 1) := by decide +kernel
theorem dX10_count_75 : decode cX10_count 75 = .ok (.iconst 1, 1) := by decide +kernel
theorem dX10_count_76 : decode cX10_count 76 = .ok (.if_icmp .ne 7, 3) := by decide +kernel
theorem dX10_count_79 : decode cX10_count 79 = .ok (.iload_n 2, 1) := by decide +kernel
theorem dX10_count_80 : decode cX10_count 80 = .ok (.goto 38, 3) := by decide +kernel
theorem dX10_count_83 : decode cX10_count 83 = .ok (.iload_n 1, 1) := by decide +kernel
theorem dX10_count_84 : decode cX10_count 84 = .ok (.iconst 2, 1) := by decide +kernel
theorem dX10_count_85 : decode cX10_count 85 = .ok (.if_icmp .ne 10, 3) := by decide +kernel
theorem dX10_count_88 : decode cX10_count 88 = .ok (.aload_n 0, 1) := by decide +kernel
theorem dX10_count_89 : decode cX10_count 89 = .ok (.invokevirtual 199, 3) := by decide +kernel
theorem dX10_count_92 : decode cX10_count 92 = .ok (.goto 26, 3) := by decide +kernel
theorem dX10_count_95 : decode cX10_count 95 = .ok (.iload_n 1, 1) := by decide +kernel
theorem dX10_count_96 : decode cX10_count 96 = .ok (.iconst 3, 1) := by decide +kernel
theorem dX10_count_97 : decode cX10_count 97 = .ok (.if_icmp .ne 7, 3) := by decide +kernel
theorem dX10_count_100 : decode cX10_count 100 = .ok (.iload_n 3, 1) := by decide +kernel
theorem dX10_count_101 : decode cX10_count 101 = .ok (.goto 17, 3) := by decide +kernel
theorem dX10_count_104 : decode cX10_count 104 = .ok (.iload_n 1, 1) := by decide +kernel
theorem dX10_count_105 : decode cX10_count 105 = .ok (.iconst 4, 1) := by decide +kernel
theorem dX10_count_106 : decode cX10_count 106 = .ok (.if_icmp .ne 10, 3) := by decide +kernel
theorem dX10_count_109 : decode cX10_count 109 = .ok (.aload_n 0, 1) := by decide +kernel
theorem dX10_count_110 : decode cX10_count 110 = .ok (.getfield 7, 3) := by decide +kernel
theorem dX10_count_113 : decode cX10_count 113 = .ok (.goto 5, 3) := by decide +kernel
theorem dX10_count_116 : decode cX10_count 116 = .ok (.bipush (-2), 2) := by decide +kernel
theorem dX10_count_118 : decode cX10_count 118 = .ok (.ireturn, 1) := by decide +kernel
theorem dJ9_abs_0f7a4_0 : decode cJ9_abs_0f7a4 0 = .ok (.iload_n 0, 1) := by decide +kernel
theorem dJ9_abs_0f7a4_1 : decode cJ9_abs_0f7a4 1 = .ok (.ifCond .ge 8, 3) := by decide +kernel
theorem dJ9_abs_0f7a4_4 : decode cJ9_abs_0f7a4 4 = .ok (.iload_n 0, 1) := by decide +kernel
theorem dJ9_abs_0f7a4_5 : decode cJ9_abs_0f7a4 5 = .ok (.ineg, 1) := by decide +kernel
theorem dJ9_abs_0f7a4_6 : decode cJ9_abs_0f7a4 6 = .ok (.goto 4, 3) := by decide +kernel
theorem dJ9_abs_0f7a4_9 : decode cJ9_abs_0f7a4 9 = .ok (.iload_n 0, 1) := by decide +kernel
theorem dJ9_abs_0f7a4_10 : decode cJ9_abs_0f7a4 10 = .ok (.ireturn, 1) := by decide +kernel
theorem dJ9_max_7cf53_0 : decode cJ9_max_7cf53 0 = .ok (.iload_n 0, 1) := by decide +kernel
theorem dJ9_max_7cf53_1 : decode cJ9_max_7cf53 1 = .ok (.iload_n 1, 1) := by decide +kernel
theorem dJ9_max_7cf53_2 : decode cJ9_max_7cf53 2 = .ok (.if_icmp .lt 7, 3) := by decide +kernel
theorem dJ9_max_7cf53_5 : decode cJ9_max_7cf53 5 = .ok (.iload_n 0, 1) := by decide +kernel
theorem dJ9_max_7cf53_6 : decode cJ9_max_7cf53 6 = .ok (.goto 4, 3) := by decide +kernel
theorem dJ9_max_7cf53_9 : decode cJ9_max_7cf53 9 = .ok (.iload_n 1, 1) := by decide +kernel
theorem dJ9_max_7cf53_10 : decode cJ9_max_7cf53 10 = .ok (.ireturn, 1) := by decide +kernel
theorem dJ9_min_7cf53_0 : decode cJ9_min_7cf53 0 = .ok (.iload_n 0, 1) := by decide +kernel
theorem dJ9_min_7cf53_1 : decode cJ9_min_7cf53 1 = .ok (.iload_n 1, 1) := by decide +kernel
theorem dJ9_min_7cf53_2 : decode cJ9_min_7cf53 2 = .ok (.if_icmp .gt 7, 3) := by decide +kernel
theorem dJ9_min_7cf53_5 : decode cJ9_min_7cf53 5 = .ok (.iload_n 0, 1) := by decide +kernel
theorem dJ9_min_7cf53_6 : decode cJ9_min_7cf53 6 = .ok (.goto 4, 3) := by decide +kernel
theorem dJ9_min_7cf53_9 : decode cJ9_min_7cf53 9 = .ok (.iload_n 1, 1) := by decide +kernel
theorem dJ9_min_7cf53_10 : decode cJ9_min_7cf53 10 = .ok (.ireturn, 1) := by decide +kernel
theorem dJ7_fill_53178_0 : decode cJ7_fill_53178 0 = .ok (.iconst 0, 1) := by decide +kernel
theorem dJ7_fill_53178_1 : decode cJ7_fill_53178 1 = .ok (.istore_n 2, 1) := by decide +kernel
theorem dJ7_fill_53178_2 : decode cJ7_fill_53178 2 = .ok (.aload_n 0, 1) := by decide +kernel
theorem dJ7_fill_53178_3 : decode cJ7_fill_53178 3 = .ok (.arraylength, 1) := by decide +kernel
theorem dJ7_fill_53178_4 : decode cJ7_fill_53178 4 = .ok (.istore_n 3, 1) := by decide +kernel
theorem dJ7_fill_53178_5 : decode cJ7_fill_53178 5 = .ok (.iload_n 2, 1) := by decide +kernel
theorem dJ7_fill_53178_6 : decode cJ7_fill_53178 6 = .ok (.iload_n 3, 1) := by decide +kernel
theorem dJ7_fill_53178_7 : decode cJ7_fill_53178 7 = .ok (.if_icmp .ge 13, 3) := by decide +kernel
theorem dJ7_fill_53178_10 : decode cJ7_fill_53178 10 = .ok (.aload_n 0, 1) := by decide +kernel
theorem dJ7_fill_53178_11 : decode cJ7_fill_53178 11 = .ok (.iload_n 2, 1) := by decide +kernel
theorem dJ7_fill_53178_12 : decode cJ7_fill_53178 12 = .ok (.iload_n 1, 1) := by decide +kernel
theorem dJ7_fill_53178_13 : decode cJ7_fill_53178 13 = .ok (.iastore, 1) := by decide +kernel
theorem dJ7_fill_53178_14 : decode cJ7_fill_53178 14 = .ok (.iinc 2 1, 3) := by decide +kernel
theorem dJ7_fill_53178_17 : decode cJ7_fill_53178 17 = .ok (.goto (-12), 3) := by decide +kernel
theorem dJ7_fill_53178_20 : decode cJ7_fill_53178 20 = .ok (.return_, 1) := by decide +kernel
theorem dL_law_0 : decode cL_law 0 = .ok (.new 7, 3) := by decide +kernel
theorem dL_law_3 : decode cL_law 3 = .ok (.dup, 1) := by decide +kernel
theorem dL_law_4 : decode cL_law 4 = .ok (.invokespecial 9, 3) := by decide +kernel
theorem dL_law_7 : decode cL_law 7 = .ok (.astore_n 1, 1) := by decide +kernel
theorem dL_law_8 : decode cL_law 8 = .ok (.new 10, 3) := by decide +kernel
theorem dL_law_11 : decode cL_law 11 = .ok (.dup, 1) := by decide +kernel
theorem dL_law_12 : decode cL_law 12 = .ok (.invokespecial 12, 3) := by decide +kernel
theorem dL_law_15 : decode cL_law 15 = .ok (.astore_n 2, 1) := by decide +kernel
theorem dL_law_16 : decode cL_law 16 = .ok (.iconst 0, 1) := by decide +kernel
theorem dL_law_17 : decode cL_law 17 = .ok (.istore_n 3, 1) := by decide +kernel
theorem dL_law_18 : decode cL_law 18 = .ok (.iload_n 3, 1) := by decide +kernel
theorem dL_law_19 : decode cL_law 19 = .ok (.aload_n 0, 1) := by decide +kernel
theorem dL_law_20 : decode cL_law 20 = .ok (.arraylength, 1) := by decide +kernel
theorem dL_law_21 : decode cL_law 21 = .ok (.iconst 5, 1) := by decide +kernel
theorem dL_law_22 : decode cL_law 22 = .ok (.isub, 1) := by decide +kernel
theorem dL_law_23 : decode cL_law 23 = .ok (.if_icmp .gt 1173, 3) := by decide +kernel
theorem dL_law_26 : decode cL_law 26 = .ok (.aload_n 0, 1) := by decide +kernel
theorem dL_law_27 : decode cL_law 27 = .ok (.iload_n 3, 1) := by decide +kernel
theorem dL_law_28 : decode cL_law 28 = .ok (.iaload, 1) := by decide +kernel
theorem dL_law_29 : decode cL_law 29 = .ok (.bipush 31, 2) := by decide +kernel
theorem dL_law_31 : decode cL_law 31 = .ok (.iand, 1) := by decide +kernel
theorem dL_law_32 : decode cL_law 32 = .ok (.tableswitch 1158 0 31 #[144, 167, 236, 249, 282, 335, 348, 361, 384, 397, 430, 463, 502, 561, 620, 643, 676, 719, 762, 801, 814, 853, 876, 925, 984, 997, 1010, 1043, 1056, 1079, 1112, 1135], 144) := by decide +kernel
theorem dL_law_176 : decode cL_law 176 = .ok (.aload_n 1, 1) := by decide +kernel
theorem dL_law_177 : decode cL_law 177 = .ok (.aload_n 0, 1) := by decide +kernel
theorem dL_law_178 : decode cL_law 178 = .ok (.iload_n 3, 1) := by decide +kernel
theorem dL_law_179 : decode cL_law 179 = .ok (.iconst 1, 1) := by decide +kernel
theorem dL_law_180 : decode cL_law 180 = .ok (.iadd, 1) := by decide +kernel
theorem dL_law_181 : decode cL_law 181 = .ok (.iaload, 1) := by decide +kernel
theorem dL_law_182 : decode cL_law 182 = .ok (.invokevirtual 13, 3) := by decide +kernel
theorem dL_law_185 : decode cL_law 185 = .ok (.aload_n 2, 1) := by decide +kernel
theorem dL_law_186 : decode cL_law 186 = .ok (.aload_n 0, 1) := by decide +kernel
theorem dL_law_187 : decode cL_law 187 = .ok (.iload_n 3, 1) := by decide +kernel
theorem dL_law_188 : decode cL_law 188 = .ok (.iconst 1, 1) := by decide +kernel
theorem dL_law_189 : decode cL_law 189 = .ok (.iadd, 1) := by decide +kernel
theorem dL_law_190 : decode cL_law 190 = .ok (.iaload, 1) := by decide +kernel
theorem dL_law_191 : decode cL_law 191 = .ok (.invokevirtual 17, 3) := by decide +kernel
theorem dL_law_194 : decode cL_law 194 = .ok (.if_icmp .eq 996, 3) := by decide +kernel
theorem dL_law_197 : decode cL_law 197 = .ok (.iconst 0, 1) := by decide +kernel
theorem dL_law_198 : decode cL_law 198 = .ok (.ireturn, 1) := by decide +kernel
theorem dL_law_199 : decode cL_law 199 = .ok (.aload_n 1, 1) := by decide +kernel
theorem dL_law_200 : decode cL_law 200 = .ok (.aload_n 0, 1) := by decide +kernel
theorem dL_law_201 : decode cL_law 201 = .ok (.iload_n 3, 1) := by decide +kernel
theorem dL_law_202 : decode cL_law 202 = .ok (.iconst 1, 1) := by decide +kernel
theorem dL_law_203 : decode cL_law 203 = .ok (.iadd, 1) := by decide +kernel
theorem dL_law_204 : decode cL_law 204 = .ok (.iaload, 1) := by decide +kernel
theorem dL_law_205 : decode cL_law 205 = .ok (.aload_n 0, 1) := by decide +kernel
theorem dL_law_206 : decode cL_law 206 = .ok (.iload_n 3, 1) := by decide +kernel
theorem dL_law_207 : decode cL_law 207 = .ok (.iconst 2, 1) := by decide +kernel
theorem dL_law_208 : decode cL_law 208 = .ok (.iadd, 1) := by decide +kernel
theorem dL_law_209 : decode cL_law 209 = .ok (.iaload, 1) := by decide +kernel
theorem dL_law_210 : decode cL_law 210 = .ok (.aload_n 0, 1) := by decide +kernel
theorem dL_law_211 : decode cL_law 211 = .ok (.iload_n 3, 1) := by decide +kernel
theorem dL_law_212 : decode cL_law 212 = .ok (.iconst 3, 1) := by decide +kernel
theorem dL_law_213 : decode cL_law 213 = .ok (.iadd, 1) := by decide +kernel
theorem dL_law_214 : decode cL_law 214 = .ok (.iaload, 1) := by decide +kernel
theorem dL_law_215 : decode cL_law 215 = .ok (.aload_n 0, 1) := by decide +kernel
theorem dL_law_216 : decode cL_law 216 = .ok (.iload_n 3, 1) := by decide +kernel
theorem dL_law_217 : decode cL_law 217 = .ok (.iconst 4, 1) := by decide +kernel
theorem dL_law_218 : decode cL_law 218 = .ok (.iadd, 1) := by decide +kernel
theorem dL_law_219 : decode cL_law 219 = .ok (.iaload, 1) := by decide +kernel
theorem dL_law_220 : decode cL_law 220 = .ok (.ifCond .eq 7, 3) := by decide +kernel
theorem dL_law_223 : decode cL_law 223 = .ok (.iconst 1, 1) := by decide +kernel
theorem dL_law_224 : decode cL_law 224 = .ok (.goto 4, 3) := by decide +kernel
theorem dL_law_227 : decode cL_law 227 = .ok (.iconst 0, 1) := by decide +kernel
theorem dL_law_228 : decode cL_law 228 = .ok (.invokevirtual 18, 3) := by decide +kernel
theorem dL_law_231 : decode cL_law 231 = .ok (.aload_n 2, 1) := by decide +kernel
theorem dL_law_232 : decode cL_law 232 = .ok (.aload_n 0, 1) := by decide +kernel
theorem dL_law_233 : decode cL_law 233 = .ok (.iload_n 3, 1) := by decide +kernel
theorem dL_law_234 : decode cL_law 234 = .ok (.iconst 1, 1) := by decide +kernel
theorem dL_law_235 : decode cL_law 235 = .ok (.iadd, 1) := by decide +kernel
theorem dL_law_236 : decode cL_law 236 = .ok (.iaload, 1) := by decide +kernel
theorem dL_law_237 : decode cL_law 237 = .ok (.aload_n 0, 1) := by decide +kernel
theorem dL_law_238 : decode cL_law 238 = .ok (.iload_n 3, 1) := by decide +kernel
theorem dL_law_239 : decode cL_law 239 = .ok (.iconst 2, 1) := by decide +kernel
theorem dL_law_240 : decode cL_law 240 = .ok (.iadd, 1) := by decide +kernel
theorem dL_law_241 : decode cL_law 241 = .ok (.iaload, 1) := by decide +kernel
theorem dL_law_242 : decode cL_law 242 = .ok (.aload_n 0, 1) := by decide +kernel
theorem dL_law_243 : decode cL_law 243 = .ok (.iload_n 3, 1) := by decide +kernel
theorem dL_law_244 : decode cL_law 244 = .ok (.iconst 3, 1) := by decide +kernel
theorem dL_law_245 : decode cL_law 245 = .ok (.iadd, 1) := by decide +kernel
theorem dL_law_246 : decode cL_law 246 = .ok (.iaload, 1) := by decide +kernel
theorem dL_law_247 : decode cL_law 247 = .ok (.aload_n 0, 1) := by decide +kernel
theorem dL_law_248 : decode cL_law 248 = .ok (.iload_n 3, 1) := by decide +kernel
theorem dL_law_249 : decode cL_law 249 = .ok (.iconst 4, 1) := by decide +kernel
theorem dL_law_250 : decode cL_law 250 = .ok (.iadd, 1) := by decide +kernel
theorem dL_law_251 : decode cL_law 251 = .ok (.iaload, 1) := by decide +kernel
theorem dL_law_252 : decode cL_law 252 = .ok (.ifCond .eq 7, 3) := by decide +kernel
theorem dL_law_255 : decode cL_law 255 = .ok (.iconst 1, 1) := by decide +kernel
theorem dL_law_256 : decode cL_law 256 = .ok (.goto 4, 3) := by decide +kernel
theorem dL_law_259 : decode cL_law 259 = .ok (.iconst 0, 1) := by decide +kernel
theorem dL_law_260 : decode cL_law 260 = .ok (.invokevirtual 22, 3) := by decide +kernel
theorem dL_law_263 : decode cL_law 263 = .ok (.if_icmp .eq 927, 3) := by decide +kernel
theorem dL_law_266 : decode cL_law 266 = .ok (.iconst 0, 1) := by decide +kernel
theorem dL_law_267 : decode cL_law 267 = .ok (.ireturn, 1) := by decide +kernel
theorem dL_law_268 : decode cL_law 268 = .ok (.aload_n 1, 1) := by decide +kernel
theorem dL_law_269 : decode cL_law 269 = .ok (.invokevirtual 23, 3) := by decide +kernel
theorem dL_law_272 : decode cL_law 272 = .ok (.aload_n 2, 1) := by decide +kernel
theorem dL_law_273 : decode cL_law 273 = .ok (.invokevirtual 27, 3) := by decide +kernel
theorem dL_law_276 : decode cL_law 276 = .ok (.if_icmp .eq 914, 3) := by decide +kernel
theorem dL_law_279 : decode cL_law 279 = .ok (.iconst 0, 1) := by decide +kernel
theorem dL_law_280 : decode cL_law 280 = .ok (.ireturn, 1) := by decide +kernel
theorem dL_law_281 : decode cL_law 281 = .ok (.aload_n 1, 1) := by decide +kernel
theorem dL_law_282 : decode cL_law 282 = .ok (.aload_n 0, 1) := by decide +kernel
theorem dL_law_283 : decode cL_law 283 = .ok (.iload_n 3, 1) := by decide +kernel
theorem dL_law_284 : decode cL_law 284 = .ok (.iconst 1, 1) := by decide +kernel
theorem dL_law_285 : decode cL_law 285 = .ok (.iadd, 1) := by decide +kernel
theorem dL_law_286 : decode cL_law 286 = .ok (.iaload, 1) := by decide +kernel
theorem dL_law_287 : decode cL_law 287 = .ok (.aload_n 0, 1) := by decide +kernel
theorem dL_law_288 : decode cL_law 288 = .ok (.iload_n 3, 1) := by decide +kernel
theorem dL_law_289 : decode cL_law 289 = .ok (.iconst 2, 1) := by decide +kernel
theorem dL_law_290 : decode cL_law 290 = .ok (.iadd, 1) := by decide +kernel
theorem dL_law_291 : decode cL_law 291 = .ok (.iaload, 1) := by decide +kernel
theorem dL_law_292 : decode cL_law 292 = .ok (.invokevirtual 28, 3) := by decide +kernel
theorem dL_law_295 : decode cL_law 295 = .ok (.aload_n 2, 1) := by decide +kernel
theorem dL_law_296 : decode cL_law 296 = .ok (.aload_n 0, 1) := by decide +kernel
theorem dL_law_297 : decode cL_law 297 = .ok (.iload_n 3, 1) := by decide +kernel
theorem dL_law_298 : decode cL_law 298 = .ok (.iconst 1, 1) := by decide +kernel
theorem dL_law_299 : decode cL_law 299 = .ok (.iadd, 1) := by decide +kernel
theorem dL_law_300 : decode cL_law 300 = .ok (.iaload, 1) := by decide +kernel
theorem dL_law_301 : decode cL_law 301 = .ok (.aload_n 0, 1) := by decide +kernel
theorem dL_law_302 : decode cL_law 302 = .ok (.iload_n 3, 1) := by decide +kernel
theorem dL_law_303 : decode cL_law 303 = .ok (.iconst 2, 1) := by decide +kernel
theorem dL_law_304 : decode cL_law 304 = .ok (.iadd, 1) := by decide +kernel
theorem dL_law_305 : decode cL_law 305 = .ok (.iaload, 1) := by decide +kernel
theorem dL_law_306 : decode cL_law 306 = .ok (.invokevirtual 32, 3) := by decide +kernel
theorem dL_law_309 : decode cL_law 309 = .ok (.if_icmp .eq 881, 3) := by decide +kernel
theorem dL_law_312 : decode cL_law 312 = .ok (.iconst 0, 1) := by decide +kernel
theorem dL_law_313 : decode cL_law 313 = .ok (.ireturn, 1) := by decide +kernel
theorem dL_law_314 : decode cL_law 314 = .ok (.aload_n 1, 1) := by decide +kernel
theorem dL_law_315 : decode cL_law 315 = .ok (.aload_n 0, 1) := by decide +kernel
theorem dL_law_316 : decode cL_law 316 = .ok (.iload_n 3, 1) := by decide +kernel
theorem dL_law_317 : decode cL_law 317 = .ok (.iconst 1, 1) := by decide +kernel
theorem dL_law_318 : decode cL_law 318 = .ok (.iadd, 1) := by decide +kernel
theorem dL_law_319 : decode cL_law 319 = .ok (.iaload, 1) := by decide +kernel
theorem dL_law_320 : decode cL_law 320 = .ok (.aload_n 0, 1) := by decide +kernel
theorem dL_law_321 : decode cL_law 321 = .ok (.iload_n 3, 1) := by decide +kernel
theorem dL_law_322 : decode cL_law 322 = .ok (.iconst 2, 1) := by decide +kernel
theorem dL_law_323 : decode cL_law 323 = .ok (.iadd, 1) := by decide +kernel
theorem dL_law_324 : decode cL_law 324 = .ok (.iaload, 1) := by decide +kernel
theorem dL_law_325 : decode cL_law 325 = .ok (.aload_n 0, 1) := by decide +kernel
theorem dL_law_326 : decode cL_law 326 = .ok (.iload_n 3, 1) := by decide +kernel
theorem dL_law_327 : decode cL_law 327 = .ok (.iconst 3, 1) := by decide +kernel
theorem dL_law_328 : decode cL_law 328 = .ok (.iadd, 1) := by decide +kernel
theorem dL_law_329 : decode cL_law 329 = .ok (.iaload, 1) := by decide +kernel
theorem dL_law_330 : decode cL_law 330 = .ok (.aload_n 0, 1) := by decide +kernel
theorem dL_law_331 : decode cL_law 331 = .ok (.iload_n 3, 1) := by decide +kernel
theorem dL_law_332 : decode cL_law 332 = .ok (.iconst 4, 1) := by decide +kernel
theorem dL_law_333 : decode cL_law 333 = .ok (.iadd, 1) := by decide +kernel
theorem dL_law_334 : decode cL_law 334 = .ok (.iaload, 1) := by decide +kernel
theorem dL_law_335 : decode cL_law 335 = .ok (.invokevirtual 33, 3) := by decide +kernel
theorem dL_law_338 : decode cL_law 338 = .ok (.aload_n 2, 1) := by decide +kernel
theorem dL_law_339 : decode cL_law 339 = .ok (.aload_n 0, 1) := by decide +kernel
theorem dL_law_340 : decode cL_law 340 = .ok (.iload_n 3, 1) := by decide +kernel
theorem dL_law_341 : decode cL_law 341 = .ok (.iconst 1, 1) := by decide +kernel
theorem dL_law_342 : decode cL_law 342 = .ok (.iadd, 1) := by decide +kernel
theorem dL_law_343 : decode cL_law 343 = .ok (.iaload, 1) := by decide +kernel
theorem dL_law_344 : decode cL_law 344 = .ok (.aload_n 0, 1) := by decide +kernel
theorem dL_law_345 : decode cL_law 345 = .ok (.iload_n 3, 1) := by decide +kernel
theorem dL_law_346 : decode cL_law 346 = .ok (.iconst 2, 1) := by decide +kernel
theorem dL_law_347 : decode cL_law 347 = .ok (.iadd, 1) := by decide +kernel
theorem dL_law_348 : decode cL_law 348 = .ok (.iaload, 1) := by decide +kernel
theorem dL_law_349 : decode cL_law 349 = .ok (.aload_n 0, 1) := by decide +kernel
theorem dL_law_350 : decode cL_law 350 = .ok (.iload_n 3, 1) := by decide +kernel
theorem dL_law_351 : decode cL_law 351 = .ok (.iconst 3, 1) := by decide +kernel
theorem dL_law_352 : decode cL_law 352 = .ok (.iadd, 1) := by decide +kernel
theorem dL_law_353 : decode cL_law 353 = .ok (.iaload, 1) := by decide +kernel
theorem dL_law_354 : decode cL_law 354 = .ok (.aload_n 0, 1) := by decide +kernel
theorem dL_law_355 : decode cL_law 355 = .ok (.iload_n 3, 1) := by decide +kernel
theorem dL_law_356 : decode cL_law 356 = .ok (.iconst 4, 1) := by decide +kernel
theorem dL_law_357 : decode cL_law 357 = .ok (.iadd, 1) := by decide +kernel
theorem dL_law_358 : decode cL_law 358 = .ok (.iaload, 1) := by decide +kernel
theorem dL_law_359 : decode cL_law 359 = .ok (.invokevirtual 37, 3) := by decide +kernel
theorem dL_law_362 : decode cL_law 362 = .ok (.if_icmp .eq 828, 3) := by decide +kernel
theorem dL_law_365 : decode cL_law 365 = .ok (.iconst 0, 1) := by decide +kernel
theorem dL_law_366 : decode cL_law 366 = .ok (.ireturn, 1) := by decide +kernel
theorem dL_law_367 : decode cL_law 367 = .ok (.aload_n 1, 1) := by decide +kernel
theorem dL_law_368 : decode cL_law 368 = .ok (.invokevirtual 38, 3) := by decide +kernel
theorem dL_law_371 : decode cL_law 371 = .ok (.aload_n 2, 1) := by decide +kernel
theorem dL_law_372 : decode cL_law 372 = .ok (.invokevirtual 41, 3) := by decide +kernel
theorem dL_law_375 : decode cL_law 375 = .ok (.if_icmp .eq 815, 3) := by decide +kernel
theorem dL_law_378 : decode cL_law 378 = .ok (.iconst 0, 1) := by decide +kernel
theorem dL_law_379 : decode cL_law 379 = .ok (.ireturn, 1) := by decide +kernel
theorem dL_law_380 : decode cL_law 380 = .ok (.aload_n 1, 1) := by decide +kernel
theorem dL_law_381 : decode cL_law 381 = .ok (.invokevirtual 42, 3) := by decide +kernel
theorem dL_law_384 : decode cL_law 384 = .ok (.aload_n 2, 1) := by decide +kernel
theorem dL_law_385 : decode cL_law 385 = .ok (.invokevirtual 45, 3) := by decide +kernel
theorem dL_law_388 : decode cL_law 388 = .ok (.if_icmp .eq 802, 3) := by decide +kernel
theorem dL_law_391 : decode cL_law 391 = .ok (.iconst 0, 1) := by decide +kernel
theorem dL_law_392 : decode cL_law 392 = .ok (.ireturn, 1) := by decide +kernel
theorem dL_law_393 : decode cL_law 393 = .ok (.aload_n 1, 1) := by decide +kernel
theorem dL_law_394 : decode cL_law 394 = .ok (.aload_n 0, 1) := by decide +kernel
theorem dL_law_395 : decode cL_law 395 = .ok (.iload_n 3, 1) := by decide +kernel
theorem dL_law_396 : decode cL_law 396 = .ok (.iconst 1, 1) := by decide +kernel
theorem dL_law_397 : decode cL_law 397 = .ok (.iadd, 1) := by decide +kernel
theorem dL_law_398 : decode cL_law 398 = .ok (.iaload, 1) := by decide +kernel
theorem dL_law_399 : decode cL_law 399 = .ok (.invokevirtual 46, 3) := by decide +kernel
theorem dL_law_402 : decode cL_law 402 = .ok (.aload_n 2, 1) := by decide +kernel
theorem dL_law_403 : decode cL_law 403 = .ok (.aload_n 0, 1) := by decide +kernel
theorem dL_law_404 : decode cL_law 404 = .ok (.iload_n 3, 1) := by decide +kernel
theorem dL_law_405 : decode cL_law 405 = .ok (.iconst 1, 1) := by decide +kernel
theorem dL_law_406 : decode cL_law 406 = .ok (.iadd, 1) := by decide +kernel
theorem dL_law_407 : decode cL_law 407 = .ok (.iaload, 1) := by decide +kernel
theorem dL_law_408 : decode cL_law 408 = .ok (.invokevirtual 49, 3) := by decide +kernel
theorem dL_law_411 : decode cL_law 411 = .ok (.if_icmp .eq 779, 3) := by decide +kernel
theorem dL_law_414 : decode cL_law 414 = .ok (.iconst 0, 1) := by decide +kernel
theorem dL_law_415 : decode cL_law 415 = .ok (.ireturn, 1) := by decide +kernel
theorem dL_law_416 : decode cL_law 416 = .ok (.aload_n 1, 1) := by decide +kernel
theorem dL_law_417 : decode cL_law 417 = .ok (.invokevirtual 50, 3) := by decide +kernel
theorem dL_law_420 : decode cL_law 420 = .ok (.aload_n 2, 1) := by decide +kernel
theorem dL_law_421 : decode cL_law 421 = .ok (.invokevirtual 53, 3) := by decide +kernel
theorem dL_law_424 : decode cL_law 424 = .ok (.if_icmp .eq 766, 3) := by decide +kernel
theorem dL_law_427 : decode cL_law 427 = .ok (.iconst 0, 1) := by decide +kernel
theorem dL_law_428 : decode cL_law 428 = .ok (.ireturn, 1) := by decide +kernel
theorem dL_law_429 : decode cL_law 429 = .ok (.aload_n 1, 1) := by decide +kernel
theorem dL_law_430 : decode cL_law 430 = .ok (.aload_n 0, 1) := by decide +kernel
theorem dL_law_431 : decode cL_law 431 = .ok (.iload_n 3, 1) := by decide +kernel
theorem dL_law_432 : decode cL_law 432 = .ok (.iconst 1, 1) := by decide +kernel
theorem dL_law_433 : decode cL_law 433 = .ok (.iadd, 1) := by decide +kernel
theorem dL_law_434 : decode cL_law 434 = .ok (.iaload, 1) := by decide +kernel
theorem dL_law_435 : decode cL_law 435 = .ok (.aload_n 0, 1) := by decide +kernel
theorem dL_law_436 : decode cL_law 436 = .ok (.iload_n 3, 1) := by decide +kernel
theorem dL_law_437 : decode cL_law 437 = .ok (.iconst 2, 1) := by decide +kernel
theorem dL_law_438 : decode cL_law 438 = .ok (.iadd, 1) := by decide +kernel
theorem dL_law_439 : decode cL_law 439 = .ok (.iaload, 1) := by decide +kernel
theorem dL_law_440 : decode cL_law 440 = .ok (.invokevirtual 54, 3) := by decide +kernel
theorem dL_law_443 : decode cL_law 443 = .ok (.aload_n 2, 1) := by decide +kernel
theorem dL_law_444 : decode cL_law 444 = .ok (.aload_n 0, 1) := by decide +kernel
theorem dL_law_445 : decode cL_law 445 = .ok (.iload_n 3, 1) := by decide +kernel
theorem dL_law_446 : decode cL_law 446 = .ok (.iconst 1, 1) := by decide +kernel
theorem dL_law_447 : decode cL_law 447 = .ok (.iadd, 1) := by decide +kernel
theorem dL_law_448 : decode cL_law 448 = .ok (.iaload, 1) := by decide +kernel
theorem dL_law_449 : decode cL_law 449 = .ok (.aload_n 0, 1) := by decide +kernel
theorem dL_law_450 : decode cL_law 450 = .ok (.iload_n 3, 1) := by decide +kernel
theorem dL_law_451 : decode cL_law 451 = .ok (.iconst 2, 1) := by decide +kernel
theorem dL_law_452 : decode cL_law 452 = .ok (.iadd, 1) := by decide +kernel
theorem dL_law_453 : decode cL_law 453 = .ok (.iaload, 1) := by decide +kernel
theorem dL_law_454 : decode cL_law 454 = .ok (.invokevirtual 57, 3) := by decide +kernel
theorem dL_law_457 : decode cL_law 457 = .ok (.if_icmp .eq 733, 3) := by decide +kernel
theorem dL_law_460 : decode cL_law 460 = .ok (.iconst 0, 1) := by decide +kernel
theorem dL_law_461 : decode cL_law 461 = .ok (.ireturn, 1) := by decide +kernel
theorem dL_law_462 : decode cL_law 462 = .ok (.aload_n 1, 1) := by decide +kernel
theorem dL_law_463 : decode cL_law 463 = .ok (.aload_n 0, 1) := by decide +kernel
theorem dL_law_464 : decode cL_law 464 = .ok (.iload_n 3, 1) := by decide +kernel
theorem dL_law_465 : decode cL_law 465 = .ok (.iconst 1, 1) := by decide +kernel
theorem dL_law_466 : decode cL_law 466 = .ok (.iadd, 1) := by decide +kernel
theorem dL_law_467 : decode cL_law 467 = .ok (.iaload, 1) := by decide +kernel
theorem dL_law_468 : decode cL_law 468 = .ok (.aload_n 0, 1) := by decide +kernel
theorem dL_law_469 : decode cL_law 469 = .ok (.iload_n 3, 1) := by decide +kernel
theorem dL_law_470 : decode cL_law 470 = .ok (.iconst 2, 1) := by decide +kernel
theorem dL_law_471 : decode cL_law 471 = .ok (.iadd, 1) := by decide +kernel
theorem dL_law_472 : decode cL_law 472 = .ok (.iaload, 1) := by decide +kernel
theorem dL_law_473 : decode cL_law 473 = .ok (.invokevirtual 58, 3) := by decide +kernel
theorem dL_law_476 : decode cL_law 476 = .ok (.aload_n 2, 1) := by decide +kernel
theorem dL_law_477 : decode cL_law 477 = .ok (.aload_n 0, 1) := by decide +kernel
theorem dL_law_478 : decode cL_law 478 = .ok (.iload_n 3, 1) := by decide +kernel
theorem dL_law_479 : decode cL_law 479 = .ok (.iconst 1, 1) := by decide +kernel
theorem dL_law_480 : decode cL_law 480 = .ok (.iadd, 1) := by decide +kernel
theorem dL_law_481 : decode cL_law 481 = .ok (.iaload, 1) := by decide +kernel
theorem dL_law_482 : decode cL_law 482 = .ok (.aload_n 0, 1) := by decide +kernel
theorem dL_law_483 : decode cL_law 483 = .ok (.iload_n 3, 1) := by decide +kernel
theorem dL_law_484 : decode cL_law 484 = .ok (.iconst 2, 1) := by decide +kernel
theorem dL_law_485 : decode cL_law 485 = .ok (.iadd, 1) := by decide +kernel
theorem dL_law_486 : decode cL_law 486 = .ok (.iaload, 1) := by decide +kernel
theorem dL_law_487 : decode cL_law 487 = .ok (.invokevirtual 61, 3) := by decide +kernel
theorem dL_law_490 : decode cL_law 490 = .ok (.if_icmp .eq 700, 3) := by decide +kernel
theorem dL_law_493 : decode cL_law 493 = .ok (.iconst 0, 1) := by decide +kernel
theorem dL_law_494 : decode cL_law 494 = .ok (.ireturn, 1) := by decide +kernel
theorem dL_law_495 : decode cL_law 495 = .ok (.aload_n 1, 1) := by decide +kernel
theorem dL_law_496 : decode cL_law 496 = .ok (.aload_n 0, 1) := by decide +kernel
theorem dL_law_497 : decode cL_law 497 = .ok (.iload_n 3, 1) := by decide +kernel
theorem dL_law_498 : decode cL_law 498 = .ok (.iconst 1, 1) := by decide +kernel
theorem dL_law_499 : decode cL_law 499 = .ok (.iadd, 1) := by decide +kernel
theorem dL_law_500 : decode cL_law 500 = .ok (.iaload, 1) := by decide +kernel
theorem dL_law_501 : decode cL_law 501 = .ok (.ifCond .eq 7, 3) := by decide +kernel
theorem dL_law_504 : decode cL_law 504 = .ok (.iconst 1, 1) := by decide +kernel
theorem dL_law_505 : decode cL_law 505 = .ok (.goto 4, 3) := by decide +kernel
theorem dL_law_508 : decode cL_law 508 = .ok (.iconst 0, 1) := by decide +kernel
theorem dL_law_509 : decode cL_law 509 = .ok (.invokevirtual 62, 3) := by decide +kernel
theorem dL_law_512 : decode cL_law 512 = .ok (.aload_n 2, 1) := by decide +kernel
theorem dL_law_513 : decode cL_law 513 = .ok (.aload_n 0, 1) := by decide +kernel
theorem dL_law_514 : decode cL_law 514 = .ok (.iload_n 3, 1) := by decide +kernel
theorem dL_law_515 : decode cL_law 515 = .ok (.iconst 1, 1) := by decide +kernel
theorem dL_law_516 : decode cL_law 516 = .ok (.iadd, 1) := by decide +kernel
theorem dL_law_517 : decode cL_law 517 = .ok (.iaload, 1) := by decide +kernel
theorem dL_law_518 : decode cL_law 518 = .ok (.ifCond .eq 7, 3) := by decide +kernel
theorem dL_law_521 : decode cL_law 521 = .ok (.iconst 1, 1) := by decide +kernel
theorem dL_law_522 : decode cL_law 522 = .ok (.goto 4, 3) := by decide +kernel
theorem dL_law_525 : decode cL_law 525 = .ok (.iconst 0, 1) := by decide +kernel
theorem dL_law_526 : decode cL_law 526 = .ok (.invokevirtual 66, 3) := by decide +kernel
theorem dL_law_529 : decode cL_law 529 = .ok (.if_icmp .eq 661, 3) := by decide +kernel
theorem dL_law_532 : decode cL_law 532 = .ok (.iconst 0, 1) := by decide +kernel
theorem dL_law_533 : decode cL_law 533 = .ok (.ireturn, 1) := by decide +kernel
theorem dL_law_534 : decode cL_law 534 = .ok (.aload_n 1, 1) := by decide +kernel
theorem dL_law_535 : decode cL_law 535 = .ok (.aload_n 0, 1) := by decide +kernel
theorem dL_law_536 : decode cL_law 536 = .ok (.iload_n 3, 1) := by decide +kernel
theorem dL_law_537 : decode cL_law 537 = .ok (.iconst 1, 1) := by decide +kernel
theorem dL_law_538 : decode cL_law 538 = .ok (.iadd, 1) := by decide +kernel
theorem dL_law_539 : decode cL_law 539 = .ok (.iaload, 1) := by decide +kernel
theorem dL_law_540 : decode cL_law 540 = .ok (.aload_n 0, 1) := by decide +kernel
theorem dL_law_541 : decode cL_law 541 = .ok (.iload_n 3, 1) := by decide +kernel
theorem dL_law_542 : decode cL_law 542 = .ok (.iconst 2, 1) := by decide +kernel
theorem dL_law_543 : decode cL_law 543 = .ok (.iadd, 1) := by decide +kernel
theorem dL_law_544 : decode cL_law 544 = .ok (.iaload, 1) := by decide +kernel
theorem dL_law_545 : decode cL_law 545 = .ok (.aload_n 0, 1) := by decide +kernel
theorem dL_law_546 : decode cL_law 546 = .ok (.iload_n 3, 1) := by decide +kernel
theorem dL_law_547 : decode cL_law 547 = .ok (.iconst 3, 1) := by decide +kernel
theorem dL_law_548 : decode cL_law 548 = .ok (.iadd, 1) := by decide +kernel
theorem dL_law_549 : decode cL_law 549 = .ok (.iaload, 1) := by decide +kernel
theorem dL_law_550 : decode cL_law 550 = .ok (.ifCond .eq 7, 3) := by decide +kernel
theorem dL_law_553 : decode cL_law 553 = .ok (.iconst 1, 1) := by decide +kernel
theorem dL_law_554 : decode cL_law 554 = .ok (.goto 4, 3) := by decide +kernel
theorem dL_law_557 : decode cL_law 557 = .ok (.iconst 0, 1) := by decide +kernel
theorem dL_law_558 : decode cL_law 558 = .ok (.invokevirtual 67, 3) := by decide +kernel
theorem dL_law_561 : decode cL_law 561 = .ok (.aload_n 2, 1) := by decide +kernel
theorem dL_law_562 : decode cL_law 562 = .ok (.aload_n 0, 1) := by decide +kernel
theorem dL_law_563 : decode cL_law 563 = .ok (.iload_n 3, 1) := by decide +kernel
theorem dL_law_564 : decode cL_law 564 = .ok (.iconst 1, 1) := by decide +kernel
theorem dL_law_565 : decode cL_law 565 = .ok (.iadd, 1) := by decide +kernel
theorem dL_law_566 : decode cL_law 566 = .ok (.iaload, 1) := by decide +kernel
theorem dL_law_567 : decode cL_law 567 = .ok (.aload_n 0, 1) := by decide +kernel
theorem dL_law_568 : decode cL_law 568 = .ok (.iload_n 3, 1) := by decide +kernel
theorem dL_law_569 : decode cL_law 569 = .ok (.iconst 2, 1) := by decide +kernel
theorem dL_law_570 : decode cL_law 570 = .ok (.iadd, 1) := by decide +kernel
theorem dL_law_571 : decode cL_law 571 = .ok (.iaload, 1) := by decide +kernel
theorem dL_law_572 : decode cL_law 572 = .ok (.aload_n 0, 1) := by decide +kernel
theorem dL_law_573 : decode cL_law 573 = .ok (.iload_n 3, 1) := by decide +kernel
theorem dL_law_574 : decode cL_law 574 = .ok (.iconst 3, 1) := by decide +kernel
theorem dL_law_575 : decode cL_law 575 = .ok (.iadd, 1) := by decide +kernel
theorem dL_law_576 : decode cL_law 576 = .ok (.iaload, 1) := by decide +kernel
theorem dL_law_577 : decode cL_law 577 = .ok (.ifCond .eq 7, 3) := by decide +kernel
theorem dL_law_580 : decode cL_law 580 = .ok (.iconst 1, 1) := by decide +kernel
theorem dL_law_581 : decode cL_law 581 = .ok (.goto 4, 3) := by decide +kernel
theorem dL_law_584 : decode cL_law 584 = .ok (.iconst 0, 1) := by decide +kernel
theorem dL_law_585 : decode cL_law 585 = .ok (.invokevirtual 71, 3) := by decide +kernel
theorem dL_law_588 : decode cL_law 588 = .ok (.if_icmp .eq 602, 3) := by decide +kernel
theorem dL_law_591 : decode cL_law 591 = .ok (.iconst 0, 1) := by decide +kernel
theorem dL_law_592 : decode cL_law 592 = .ok (.ireturn, 1) := by decide +kernel
theorem dL_law_593 : decode cL_law 593 = .ok (.aload_n 1, 1) := by decide +kernel
theorem dL_law_594 : decode cL_law 594 = .ok (.aload_n 0, 1) := by decide +kernel
theorem dL_law_595 : decode cL_law 595 = .ok (.iload_n 3, 1) := by decide +kernel
theorem dL_law_596 : decode cL_law 596 = .ok (.iconst 1, 1) := by decide +kernel
theorem dL_law_597 : decode cL_law 597 = .ok (.iadd, 1) := by decide +kernel
theorem dL_law_598 : decode cL_law 598 = .ok (.iaload, 1) := by decide +kernel
theorem dL_law_599 : decode cL_law 599 = .ok (.aload_n 0, 1) := by decide +kernel
theorem dL_law_600 : decode cL_law 600 = .ok (.iload_n 3, 1) := by decide +kernel
theorem dL_law_601 : decode cL_law 601 = .ok (.iconst 2, 1) := by decide +kernel
theorem dL_law_602 : decode cL_law 602 = .ok (.iadd, 1) := by decide +kernel
theorem dL_law_603 : decode cL_law 603 = .ok (.iaload, 1) := by decide +kernel
theorem dL_law_604 : decode cL_law 604 = .ok (.aload_n 0, 1) := by decide +kernel
theorem dL_law_605 : decode cL_law 605 = .ok (.iload_n 3, 1) := by decide +kernel
theorem dL_law_606 : decode cL_law 606 = .ok (.iconst 3, 1) := by decide +kernel
theorem dL_law_607 : decode cL_law 607 = .ok (.iadd, 1) := by decide +kernel
theorem dL_law_608 : decode cL_law 608 = .ok (.iaload, 1) := by decide +kernel
theorem dL_law_609 : decode cL_law 609 = .ok (.ifCond .eq 7, 3) := by decide +kernel
theorem dL_law_612 : decode cL_law 612 = .ok (.iconst 1, 1) := by decide +kernel
theorem dL_law_613 : decode cL_law 613 = .ok (.goto 4, 3) := by decide +kernel
theorem dL_law_616 : decode cL_law 616 = .ok (.iconst 0, 1) := by decide +kernel
theorem dL_law_617 : decode cL_law 617 = .ok (.invokevirtual 72, 3) := by decide +kernel
theorem dL_law_620 : decode cL_law 620 = .ok (.aload_n 2, 1) := by decide +kernel
theorem dL_law_621 : decode cL_law 621 = .ok (.aload_n 0, 1) := by decide +kernel
theorem dL_law_622 : decode cL_law 622 = .ok (.iload_n 3, 1) := by decide +kernel
theorem dL_law_623 : decode cL_law 623 = .ok (.iconst 1, 1) := by decide +kernel
theorem dL_law_624 : decode cL_law 624 = .ok (.iadd, 1) := by decide +kernel
theorem dL_law_625 : decode cL_law 625 = .ok (.iaload, 1) := by decide +kernel
theorem dL_law_626 : decode cL_law 626 = .ok (.aload_n 0, 1) := by decide +kernel
theorem dL_law_627 : decode cL_law 627 = .ok (.iload_n 3, 1) := by decide +kernel
theorem dL_law_628 : decode cL_law 628 = .ok (.iconst 2, 1) := by decide +kernel
theorem dL_law_629 : decode cL_law 629 = .ok (.iadd, 1) := by decide +kernel
theorem dL_law_630 : decode cL_law 630 = .ok (.iaload, 1) := by decide +kernel
theorem dL_law_631 : decode cL_law 631 = .ok (.aload_n 0, 1) := by decide +kernel
theorem dL_law_632 : decode cL_law 632 = .ok (.iload_n 3, 1) := by decide +kernel
theorem dL_law_633 : decode cL_law 633 = .ok (.iconst 3, 1) := by decide +kernel
theorem dL_law_634 : decode cL_law 634 = .ok (.iadd, 1) := by decide +kernel
theorem dL_law_635 : decode cL_law 635 = .ok (.iaload, 1) := by decide +kernel
theorem dL_law_636 : decode cL_law 636 = .ok (.ifCond .eq 7, 3) := by decide +kernel
theorem dL_law_639 : decode cL_law 639 = .ok (.iconst 1, 1) := by decide +kernel
theorem dL_law_640 : decode cL_law 640 = .ok (.goto 4, 3) := by decide +kernel
theorem dL_law_643 : decode cL_law 643 = .ok (.iconst 0, 1) := by decide +kernel
theorem dL_law_644 : decode cL_law 644 = .ok (.invokevirtual 75, 3) := by decide +kernel
theorem dL_law_647 : decode cL_law 647 = .ok (.if_icmp .eq 543, 3) := by decide +kernel
theorem dL_law_650 : decode cL_law 650 = .ok (.iconst 0, 1) := by decide +kernel
theorem dL_law_651 : decode cL_law 651 = .ok (.ireturn, 1) := by decide +kernel
theorem dL_law_652 : decode cL_law 652 = .ok (.aload_n 1, 1) := by decide +kernel
theorem dL_law_653 : decode cL_law 653 = .ok (.aload_n 0, 1) := by decide +kernel
theorem dL_law_654 : decode cL_law 654 = .ok (.iload_n 3, 1) := by decide +kernel
theorem dL_law_655 : decode cL_law 655 = .ok (.iconst 1, 1) := by decide +kernel
theorem dL_law_656 : decode cL_law 656 = .ok (.iadd, 1) := by decide +kernel
theorem dL_law_657 : decode cL_law 657 = .ok (.iaload, 1) := by decide +kernel
theorem dL_law_658 : decode cL_law 658 = .ok (.invokevirtual 76, 3) := by decide +kernel
theorem dL_law_661 : decode cL_law 661 = .ok (.aload_n 2, 1) := by decide +kernel
theorem dL_law_662 : decode cL_law 662 = .ok (.aload_n 0, 1) := by decide +kernel
theorem dL_law_663 : decode cL_law 663 = .ok (.iload_n 3, 1) := by decide +kernel
theorem dL_law_664 : decode cL_law 664 = .ok (.iconst 1, 1) := by decide +kernel
theorem dL_law_665 : decode cL_law 665 = .ok (.iadd, 1) := by decide +kernel
theorem dL_law_666 : decode cL_law 666 = .ok (.iaload, 1) := by decide +kernel
theorem dL_law_667 : decode cL_law 667 = .ok (.invokevirtual 79, 3) := by decide +kernel
theorem dL_law_670 : decode cL_law 670 = .ok (.if_icmp .eq 520, 3) := by decide +kernel
theorem dL_law_673 : decode cL_law 673 = .ok (.iconst 0, 1) := by decide +kernel
theorem dL_law_674 : decode cL_law 674 = .ok (.ireturn, 1) := by decide +kernel
theorem dL_law_675 : decode cL_law 675 = .ok (.aload_n 1, 1) := by decide +kernel
theorem dL_law_676 : decode cL_law 676 = .ok (.aload_n 0, 1) := by decide +kernel
theorem dL_law_677 : decode cL_law 677 = .ok (.iload_n 3, 1) := by decide +kernel
theorem dL_law_678 : decode cL_law 678 = .ok (.iconst 1, 1) := by decide +kernel
theorem dL_law_679 : decode cL_law 679 = .ok (.iadd, 1) := by decide +kernel
theorem dL_law_680 : decode cL_law 680 = .ok (.iaload, 1) := by decide +kernel
theorem dL_law_681 : decode cL_law 681 = .ok (.aload_n 0, 1) := by decide +kernel
theorem dL_law_682 : decode cL_law 682 = .ok (.iload_n 3, 1) := by decide +kernel
theorem dL_law_683 : decode cL_law 683 = .ok (.iconst 2, 1) := by decide +kernel
theorem dL_law_684 : decode cL_law 684 = .ok (.iadd, 1) := by decide +kernel
theorem dL_law_685 : decode cL_law 685 = .ok (.iaload, 1) := by decide +kernel
theorem dL_law_686 : decode cL_law 686 = .ok (.invokevirtual 80, 3) := by decide +kernel
theorem dL_law_689 : decode cL_law 689 = .ok (.aload_n 2, 1) := by decide +kernel
theorem dL_law_690 : decode cL_law 690 = .ok (.aload_n 0, 1) := by decide +kernel
theorem dL_law_691 : decode cL_law 691 = .ok (.iload_n 3, 1) := by decide +kernel
theorem dL_law_692 : decode cL_law 692 = .ok (.iconst 1, 1) := by decide +kernel
theorem dL_law_693 : decode cL_law 693 = .ok (.iadd, 1) := by decide +kernel
theorem dL_law_694 : decode cL_law 694 = .ok (.iaload, 1) := by decide +kernel
theorem dL_law_695 : decode cL_law 695 = .ok (.aload_n 0, 1) := by decide +kernel
theorem dL_law_696 : decode cL_law 696 = .ok (.iload_n 3, 1) := by decide +kernel
theorem dL_law_697 : decode cL_law 697 = .ok (.iconst 2, 1) := by decide +kernel
theorem dL_law_698 : decode cL_law 698 = .ok (.iadd, 1) := by decide +kernel
theorem dL_law_699 : decode cL_law 699 = .ok (.iaload, 1) := by decide +kernel
theorem dL_law_700 : decode cL_law 700 = .ok (.invokevirtual 83, 3) := by decide +kernel
theorem dL_law_703 : decode cL_law 703 = .ok (.if_icmp .eq 487, 3) := by decide +kernel
theorem dL_law_706 : decode cL_law 706 = .ok (.iconst 0, 1) := by decide +kernel
theorem dL_law_707 : decode cL_law 707 = .ok (.ireturn, 1) := by decide +kernel
theorem dL_law_708 : decode cL_law 708 = .ok (.aload_n 1, 1) := by decide +kernel
theorem dL_law_709 : decode cL_law 709 = .ok (.aload_n 0, 1) := by decide +kernel
theorem dL_law_710 : decode cL_law 710 = .ok (.iload_n 3, 1) := by decide +kernel
theorem dL_law_711 : decode cL_law 711 = .ok (.iconst 1, 1) := by decide +kernel
theorem dL_law_712 : decode cL_law 712 = .ok (.iadd, 1) := by decide +kernel
theorem dL_law_713 : decode cL_law 713 = .ok (.iaload, 1) := by decide +kernel
theorem dL_law_714 : decode cL_law 714 = .ok (.aload_n 0, 1) := by decide +kernel
theorem dL_law_715 : decode cL_law 715 = .ok (.iload_n 3, 1) := by decide +kernel
theorem dL_law_716 : decode cL_law 716 = .ok (.iconst 2, 1) := by decide +kernel
theorem dL_law_717 : decode cL_law 717 = .ok (.iadd, 1) := by decide +kernel
theorem dL_law_718 : decode cL_law 718 = .ok (.iaload, 1) := by decide +kernel
theorem dL_law_719 : decode cL_law 719 = .ok (.aload_n 0, 1) := by decide +kernel
theorem dL_law_720 : decode cL_law 720 = .ok (.iload_n 3, 1) := by decide +kernel
theorem dL_law_721 : decode cL_law 721 = .ok (.iconst 3, 1) := by decide +kernel
theorem dL_law_722 : decode cL_law 722 = .ok (.iadd, 1) := by decide +kernel
theorem dL_law_723 : decode cL_law 723 = .ok (.iaload, 1) := by decide +kernel
theorem dL_law_724 : decode cL_law 724 = .ok (.invokevirtual 84, 3) := by decide +kernel
theorem dL_law_727 : decode cL_law 727 = .ok (.aload_n 2, 1) := by decide +kernel
theorem dL_law_728 : decode cL_law 728 = .ok (.aload_n 0, 1) := by decide +kernel
theorem dL_law_729 : decode cL_law 729 = .ok (.iload_n 3, 1) := by decide +kernel
theorem dL_law_730 : decode cL_law 730 = .ok (.iconst 1, 1) := by decide +kernel
theorem dL_law_731 : decode cL_law 731 = .ok (.iadd, 1) := by decide +kernel
theorem dL_law_732 : decode cL_law 732 = .ok (.iaload, 1) := by decide +kernel
theorem dL_law_733 : decode cL_law 733 = .ok (.aload_n 0, 1) := by decide +kernel
theorem dL_law_734 : decode cL_law 734 = .ok (.iload_n 3, 1) := by decide +kernel
theorem dL_law_735 : decode cL_law 735 = .ok (.iconst 2, 1) := by decide +kernel
theorem dL_law_736 : decode cL_law 736 = .ok (.iadd, 1) := by decide +kernel
theorem dL_law_737 : decode cL_law 737 = .ok (.iaload, 1) := by decide +kernel
theorem dL_law_738 : decode cL_law 738 = .ok (.aload_n 0, 1) := by decide +kernel
theorem dL_law_739 : decode cL_law 739 = .ok (.iload_n 3, 1) := by decide +kernel
theorem dL_law_740 : decode cL_law 740 = .ok (.iconst 3, 1) := by decide +kernel
theorem dL_law_741 : decode cL_law 741 = .ok (.iadd, 1) := by decide +kernel
theorem dL_law_742 : decode cL_law 742 = .ok (.iaload, 1) := by decide +kernel
theorem dL_law_743 : decode cL_law 743 = .ok (.invokevirtual 88, 3) := by decide +kernel
theorem dL_law_746 : decode cL_law 746 = .ok (.if_icmp .eq 444, 3) := by decide +kernel
theorem dL_law_749 : decode cL_law 749 = .ok (.iconst 0, 1) := by decide +kernel
theorem dL_law_750 : decode cL_law 750 = .ok (.ireturn, 1) := by decide +kernel
theorem dL_law_751 : decode cL_law 751 = .ok (.aload_n 1, 1) := by decide +kernel
theorem dL_law_752 : decode cL_law 752 = .ok (.aload_n 0, 1) := by decide +kernel
theorem dL_law_753 : decode cL_law 753 = .ok (.iload_n 3, 1) := by decide +kernel
theorem dL_law_754 : decode cL_law 754 = .ok (.iconst 1, 1) := by decide +kernel
theorem dL_law_755 : decode cL_law 755 = .ok (.iadd, 1) := by decide +kernel
theorem dL_law_756 : decode cL_law 756 = .ok (.iaload, 1) := by decide +kernel
theorem dL_law_757 : decode cL_law 757 = .ok (.aload_n 0, 1) := by decide +kernel
theorem dL_law_758 : decode cL_law 758 = .ok (.iload_n 3, 1) := by decide +kernel
theorem dL_law_759 : decode cL_law 759 = .ok (.iconst 2, 1) := by decide +kernel
theorem dL_law_760 : decode cL_law 760 = .ok (.iadd, 1) := by decide +kernel
theorem dL_law_761 : decode cL_law 761 = .ok (.iaload, 1) := by decide +kernel
theorem dL_law_762 : decode cL_law 762 = .ok (.aload_n 0, 1) := by decide +kernel
theorem dL_law_763 : decode cL_law 763 = .ok (.iload_n 3, 1) := by decide +kernel
theorem dL_law_764 : decode cL_law 764 = .ok (.iconst 3, 1) := by decide +kernel
theorem dL_law_765 : decode cL_law 765 = .ok (.iadd, 1) := by decide +kernel
theorem dL_law_766 : decode cL_law 766 = .ok (.iaload, 1) := by decide +kernel
theorem dL_law_767 : decode cL_law 767 = .ok (.invokevirtual 89, 3) := by decide +kernel
theorem dL_law_770 : decode cL_law 770 = .ok (.aload_n 2, 1) := by decide +kernel
theorem dL_law_771 : decode cL_law 771 = .ok (.aload_n 0, 1) := by decide +kernel
theorem dL_law_772 : decode cL_law 772 = .ok (.iload_n 3, 1) := by decide +kernel
theorem dL_law_773 : decode cL_law 773 = .ok (.iconst 1, 1) := by decide +kernel
theorem dL_law_774 : decode cL_law 774 = .ok (.iadd, 1) := by decide +kernel
theorem dL_law_775 : decode cL_law 775 = .ok (.iaload, 1) := by decide +kernel
theorem dL_law_776 : decode cL_law 776 = .ok (.aload_n 0, 1) := by decide +kernel
theorem dL_law_777 : decode cL_law 777 = .ok (.iload_n 3, 1) := by decide +kernel
theorem dL_law_778 : decode cL_law 778 = .ok (.iconst 2, 1) := by decide +kernel
theorem dL_law_779 : decode cL_law 779 = .ok (.iadd, 1) := by decide +kernel
theorem dL_law_780 : decode cL_law 780 = .ok (.iaload, 1) := by decide +kernel
theorem dL_law_781 : decode cL_law 781 = .ok (.aload_n 0, 1) := by decide +kernel
theorem dL_law_782 : decode cL_law 782 = .ok (.iload_n 3, 1) := by decide +kernel
theorem dL_law_783 : decode cL_law 783 = .ok (.iconst 3, 1) := by decide +kernel
theorem dL_law_784 : decode cL_law 784 = .ok (.iadd, 1) := by decide +kernel
theorem dL_law_785 : decode cL_law 785 = .ok (.iaload, 1) := by decide +kernel
theorem dL_law_786 : decode cL_law 786 = .ok (.invokevirtual 92, 3) := by decide +kernel
theorem dL_law_789 : decode cL_law 789 = .ok (.if_icmp .eq 401, 3) := by decide +kernel
theorem dL_law_792 : decode cL_law 792 = .ok (.iconst 0, 1) := by decide +kernel
theorem dL_law_793 : decode cL_law 793 = .ok (.ireturn, 1) := by decide +kernel
theorem dL_law_794 : decode cL_law 794 = .ok (.aload_n 1, 1) := by decide +kernel
theorem dL_law_795 : decode cL_law 795 = .ok (.aload_n 0, 1) := by decide +kernel
theorem dL_law_796 : decode cL_law 796 = .ok (.iload_n 3, 1) := by decide +kernel
theorem dL_law_797 : decode cL_law 797 = .ok (.iconst 1, 1) := by decide +kernel
theorem dL_law_798 : decode cL_law 798 = .ok (.iadd, 1) := by decide +kernel
theorem dL_law_799 : decode cL_law 799 = .ok (.iaload, 1) := by decide +kernel
theorem dL_law_800 : decode cL_law 800 = .ok (.ifCond .eq 7, 3) := by decide +kernel
theorem dL_law_803 : decode cL_law 803 = .ok (.iconst 1, 1) := by decide +kernel
theorem dL_law_804 : decode cL_law 804 = .ok (.goto 4, 3) := by decide +kernel
theorem dL_law_807 : decode cL_law 807 = .ok (.iconst 0, 1) := by decide +kernel
theorem dL_law_808 : decode cL_law 808 = .ok (.invokevirtual 93, 3) := by decide +kernel
theorem dL_law_811 : decode cL_law 811 = .ok (.aload_n 2, 1) := by decide +kernel
theorem dL_law_812 : decode cL_law 812 = .ok (.aload_n 0, 1) := by decide +kernel
theorem dL_law_813 : decode cL_law 813 = .ok (.iload_n 3, 1) := by decide +kernel
theorem dL_law_814 : decode cL_law 814 = .ok (.iconst 1, 1) := by decide +kernel
theorem dL_law_815 : decode cL_law 815 = .ok (.iadd, 1) := by decide +kernel
theorem dL_law_816 : decode cL_law 816 = .ok (.iaload, 1) := by decide +kernel
theorem dL_law_817 : decode cL_law 817 = .ok (.ifCond .eq 7, 3) := by decide +kernel
theorem dL_law_820 : decode cL_law 820 = .ok (.iconst 1, 1) := by decide +kernel
theorem dL_law_821 : decode cL_law 821 = .ok (.goto 4, 3) := by decide +kernel
theorem dL_law_824 : decode cL_law 824 = .ok (.iconst 0, 1) := by decide +kernel
theorem dL_law_825 : decode cL_law 825 = .ok (.invokevirtual 96, 3) := by decide +kernel
theorem dL_law_828 : decode cL_law 828 = .ok (.if_icmp .eq 362, 3) := by decide +kernel
theorem dL_law_831 : decode cL_law 831 = .ok (.iconst 0, 1) := by decide +kernel
theorem dL_law_832 : decode cL_law 832 = .ok (.ireturn, 1) := by decide +kernel
theorem dL_law_833 : decode cL_law 833 = .ok (.aload_n 1, 1) := by decide +kernel
theorem dL_law_834 : decode cL_law 834 = .ok (.invokevirtual 97, 3) := by decide +kernel
theorem dL_law_837 : decode cL_law 837 = .ok (.aload_n 2, 1) := by decide +kernel
theorem dL_law_838 : decode cL_law 838 = .ok (.invokevirtual 100, 3) := by decide +kernel
theorem dL_law_841 : decode cL_law 841 = .ok (.if_icmp .eq 349, 3) := by decide +kernel
theorem dL_law_844 : decode cL_law 844 = .ok (.iconst 0, 1) := by decide +kernel
theorem dL_law_845 : decode cL_law 845 = .ok (.ireturn, 1) := by decide +kernel
theorem dL_law_846 : decode cL_law 846 = .ok (.aload_n 1, 1) := by decide +kernel
theorem dL_law_847 : decode cL_law 847 = .ok (.aload_n 0, 1) := by decide +kernel
theorem dL_law_848 : decode cL_law 848 = .ok (.iload_n 3, 1) := by decide +kernel
theorem dL_law_849 : decode cL_law 849 = .ok (.iconst 1, 1) := by decide +kernel
theorem dL_law_850 : decode cL_law 850 = .ok (.iadd, 1) := by decide +kernel
theorem dL_law_851 : decode cL_law 851 = .ok (.iaload, 1) := by decide +kernel
theorem dL_law_852 : decode cL_law 852 = .ok (.ifCond .eq 7, 3) := by decide +kernel
theorem dL_law_855 : decode cL_law 855 = .ok (.iconst 1, 1) := by decide +kernel
theorem dL_law_856 : decode cL_law 856 = .ok (.goto 4, 3) := by decide +kernel
theorem dL_law_859 : decode cL_law 859 = .ok (.iconst 0, 1) := by decide +kernel
theorem dL_law_860 : decode cL_law 860 = .ok (.invokevirtual 101, 3) := by decide +kernel
theorem dL_law_863 : decode cL_law 863 = .ok (.aload_n 2, 1) := by decide +kernel
theorem dL_law_864 : decode cL_law 864 = .ok (.aload_n 0, 1) := by decide +kernel
theorem dL_law_865 : decode cL_law 865 = .ok (.iload_n 3, 1) := by decide +kernel
theorem dL_law_866 : decode cL_law 866 = .ok (.iconst 1, 1) := by decide +kernel
theorem dL_law_867 : decode cL_law 867 = .ok (.iadd, 1) := by decide +kernel
theorem dL_law_868 : decode cL_law 868 = .ok (.iaload, 1) := by decide +kernel
theorem dL_law_869 : decode cL_law 869 = .ok (.ifCond .eq 7, 3) := by decide +kernel
theorem dL_law_872 : decode cL_law 872 = .ok (.iconst 1, 1) := by decide +kernel
theorem dL_law_873 : decode cL_law 873 = .ok (.goto 4, 3) := by decide +kernel
theorem dL_law_876 : decode cL_law 876 = .ok (.iconst 0, 1) := by decide +kernel
theorem dL_law_877 : decode cL_law 877 = .ok (.invokevirtual 104, 3) := by decide +kernel
theorem dL_law_880 : decode cL_law 880 = .ok (.if_icmp .eq 310, 3) := by decide +kernel
theorem dL_law_883 : decode cL_law 883 = .ok (.iconst 0, 1) := by decide +kernel
theorem dL_law_884 : decode cL_law 884 = .ok (.ireturn, 1) := by decide +kernel
theorem dL_law_885 : decode cL_law 885 = .ok (.aload_n 1, 1) := by decide +kernel
theorem dL_law_886 : decode cL_law 886 = .ok (.aload_n 0, 1) := by decide +kernel
theorem dL_law_887 : decode cL_law 887 = .ok (.iload_n 3, 1) := by decide +kernel
theorem dL_law_888 : decode cL_law 888 = .ok (.iconst 1, 1) := by decide +kernel
theorem dL_law_889 : decode cL_law 889 = .ok (.iadd, 1) := by decide +kernel
theorem dL_law_890 : decode cL_law 890 = .ok (.iaload, 1) := by decide +kernel
theorem dL_law_891 : decode cL_law 891 = .ok (.invokevirtual 105, 3) := by decide +kernel
theorem dL_law_894 : decode cL_law 894 = .ok (.aload_n 2, 1) := by decide +kernel
theorem dL_law_895 : decode cL_law 895 = .ok (.aload_n 0, 1) := by decide +kernel
theorem dL_law_896 : decode cL_law 896 = .ok (.iload_n 3, 1) := by decide +kernel
theorem dL_law_897 : decode cL_law 897 = .ok (.iconst 1, 1) := by decide +kernel
theorem dL_law_898 : decode cL_law 898 = .ok (.iadd, 1) := by decide +kernel
theorem dL_law_899 : decode cL_law 899 = .ok (.iaload, 1) := by decide +kernel
theorem dL_law_900 : decode cL_law 900 = .ok (.invokevirtual 108, 3) := by decide +kernel
theorem dL_law_903 : decode cL_law 903 = .ok (.if_icmp .eq 287, 3) := by decide +kernel
theorem dL_law_906 : decode cL_law 906 = .ok (.iconst 0, 1) := by decide +kernel
theorem dL_law_907 : decode cL_law 907 = .ok (.ireturn, 1) := by decide +kernel
theorem dL_law_908 : decode cL_law 908 = .ok (.aload_n 1, 1) := by decide +kernel
theorem dL_law_909 : decode cL_law 909 = .ok (.aload_n 0, 1) := by decide +kernel
theorem dL_law_910 : decode cL_law 910 = .ok (.iload_n 3, 1) := by decide +kernel
theorem dL_law_911 : decode cL_law 911 = .ok (.iconst 1, 1) := by decide +kernel
theorem dL_law_912 : decode cL_law 912 = .ok (.iadd, 1) := by decide +kernel
theorem dL_law_913 : decode cL_law 913 = .ok (.iaload, 1) := by decide +kernel
theorem dL_law_914 : decode cL_law 914 = .ok (.aload_n 0, 1) := by decide +kernel
theorem dL_law_915 : decode cL_law 915 = .ok (.iload_n 3, 1) := by decide +kernel
theorem dL_law_916 : decode cL_law 916 = .ok (.iconst 2, 1) := by decide +kernel
theorem dL_law_917 : decode cL_law 917 = .ok (.iadd, 1) := by decide +kernel
theorem dL_law_918 : decode cL_law 918 = .ok (.iaload, 1) := by decide +kernel
theorem dL_law_919 : decode cL_law 919 = .ok (.ifCond .eq 7, 3) := by decide +kernel
theorem dL_law_922 : decode cL_law 922 = .ok (.iconst 1, 1) := by decide +kernel
theorem dL_law_923 : decode cL_law 923 = .ok (.goto 4, 3) := by decide +kernel
theorem dL_law_926 : decode cL_law 926 = .ok (.iconst 0, 1) := by decide +kernel
theorem dL_law_927 : decode cL_law 927 = .ok (.invokevirtual 109, 3) := by decide +kernel
theorem dL_law_930 : decode cL_law 930 = .ok (.aload_n 2, 1) := by decide +kernel
theorem dL_law_931 : decode cL_law 931 = .ok (.aload_n 0, 1) := by decide +kernel
theorem dL_law_932 : decode cL_law 932 = .ok (.iload_n 3, 1) := by decide +kernel
theorem dL_law_933 : decode cL_law 933 = .ok (.iconst 1, 1) := by decide +kernel
theorem dL_law_934 : decode cL_law 934 = .ok (.iadd, 1) := by decide +kernel
theorem dL_law_935 : decode cL_law 935 = .ok (.iaload, 1) := by decide +kernel
theorem dL_law_936 : decode cL_law 936 = .ok (.aload_n 0, 1) := by decide +kernel
theorem dL_law_937 : decode cL_law 937 = .ok (.iload_n 3, 1) := by decide +kernel
theorem dL_law_938 : decode cL_law 938 = .ok (.iconst 2, 1) := by decide +kernel
theorem dL_law_939 : decode cL_law 939 = .ok (.iadd, 1) := by decide +kernel
theorem dL_law_940 : decode cL_law 940 = .ok (.iaload, 1) := by decide +kernel
theorem dL_law_941 : decode cL_law 941 = .ok (.ifCond .eq 7, 3) := by decide +kernel
theorem dL_law_944 : decode cL_law 944 = .ok (.iconst 1, 1) := by decide +kernel
theorem dL_law_945 : decode cL_law 945 = .ok (.goto 4, 3) := by decide +kernel
theorem dL_law_948 : decode cL_law 948 = .ok (.iconst 0, 1) := by decide +kernel
theorem dL_law_949 : decode cL_law 949 = .ok (.invokevirtual 113, 3) := by decide +kernel
theorem dL_law_952 : decode cL_law 952 = .ok (.if_icmp .eq 238, 3) := by decide +kernel
theorem dL_law_955 : decode cL_law 955 = .ok (.iconst 0, 1) := by decide +kernel
theorem dL_law_956 : decode cL_law 956 = .ok (.ireturn, 1) := by decide +kernel
theorem dL_law_957 : decode cL_law 957 = .ok (.aload_n 1, 1) := by decide +kernel
theorem dL_law_958 : decode cL_law 958 = .ok (.aload_n 0, 1) := by decide +kernel
theorem dL_law_959 : decode cL_law 959 = .ok (.iload_n 3, 1) := by decide +kernel
theorem dL_law_960 : decode cL_law 960 = .ok (.iconst 1, 1) := by decide +kernel
theorem dL_law_961 : decode cL_law 961 = .ok (.iadd, 1) := by decide +kernel
theorem dL_law_962 : decode cL_law 962 = .ok (.iaload, 1) := by decide +kernel
theorem dL_law_963 : decode cL_law 963 = .ok (.aload_n 0, 1) := by decide +kernel
theorem dL_law_964 : decode cL_law 964 = .ok (.iload_n 3, 1) := by decide +kernel
theorem dL_law_965 : decode cL_law 965 = .ok (.iconst 2, 1) := by decide +kernel
theorem dL_law_966 : decode cL_law 966 = .ok (.iadd, 1) := by decide +kernel
theorem dL_law_967 : decode cL_law 967 = .ok (.iaload, 1) := by decide +kernel
theorem dL_law_968 : decode cL_law 968 = .ok (.aload_n 0, 1) := by decide +kernel
theorem dL_law_969 : decode cL_law 969 = .ok (.iload_n 3, 1) := by decide +kernel
theorem dL_law_970 : decode cL_law 970 = .ok (.iconst 3, 1) := by decide +kernel
theorem dL_law_971 : decode cL_law 971 = .ok (.iadd, 1) := by decide +kernel
theorem dL_law_972 : decode cL_law 972 = .ok (.iaload, 1) := by decide +kernel
theorem dL_law_973 : decode cL_law 973 = .ok (.ifCond .eq 7, 3) := by decide +kernel
theorem dL_law_976 : decode cL_law 976 = .ok (.iconst 1, 1) := by decide +kernel
theorem dL_law_977 : decode cL_law 977 = .ok (.goto 4, 3) := by decide +kernel
theorem dL_law_980 : decode cL_law 980 = .ok (.iconst 0, 1) := by decide +kernel
theorem dL_law_981 : decode cL_law 981 = .ok (.invokevirtual 114, 3) := by decide +kernel
theorem dL_law_984 : decode cL_law 984 = .ok (.aload_n 2, 1) := by decide +kernel
theorem dL_law_985 : decode cL_law 985 = .ok (.aload_n 0, 1) := by decide +kernel
theorem dL_law_986 : decode cL_law 986 = .ok (.iload_n 3, 1) := by decide +kernel
theorem dL_law_987 : decode cL_law 987 = .ok (.iconst 1, 1) := by decide +kernel
theorem dL_law_988 : decode cL_law 988 = .ok (.iadd, 1) := by decide +kernel
theorem dL_law_989 : decode cL_law 989 = .ok (.iaload, 1) := by decide +kernel
theorem dL_law_990 : decode cL_law 990 = .ok (.aload_n 0, 1) := by decide +kernel
theorem dL_law_991 : decode cL_law 991 = .ok (.iload_n 3, 1) := by decide +kernel
theorem dL_law_992 : decode cL_law 992 = .ok (.iconst 2, 1) := by decide +kernel
theorem dL_law_993 : decode cL_law 993 = .ok (.iadd, 1) := by decide +kernel
theorem dL_law_994 : decode cL_law 994 = .ok (.iaload, 1) := by decide +kernel
theorem dL_law_995 : decode cL_law 995 = .ok (.aload_n 0, 1) := by decide +kernel
theorem dL_law_996 : decode cL_law 996 = .ok (.iload_n 3, 1) := by decide +kernel
theorem dL_law_997 : decode cL_law 997 = .ok (.iconst 3, 1) := by decide +kernel
theorem dL_law_998 : decode cL_law 998 = .ok (.iadd, 1) := by decide +kernel
theorem dL_law_999 : decode cL_law 999 = .ok (.iaload, 1) := by decide +kernel
theorem dL_law_1000 : decode cL_law 1000 = .ok (.ifCond .eq 7, 3) := by decide +kernel
theorem dL_law_1003 : decode cL_law 1003 = .ok (.iconst 1, 1) := by decide +kernel
theorem dL_law_1004 : decode cL_law 1004 = .ok (.goto 4, 3) := by decide +kernel
theorem dL_law_1007 : decode cL_law 1007 = .ok (.iconst 0, 1) := by decide +kernel
theorem dL_law_1008 : decode cL_law 1008 = .ok (.invokevirtual 117, 3) := by decide +kernel
theorem dL_law_1011 : decode cL_law 1011 = .ok (.if_icmp .eq 179, 3) := by decide +kernel
theorem dL_law_1014 : decode cL_law 1014 = .ok (.iconst 0, 1) := by decide +kernel
theorem dL_law_1015 : decode cL_law 1015 = .ok (.ireturn, 1) := by decide +kernel
theorem dL_law_1016 : decode cL_law 1016 = .ok (.aload_n 1, 1) := by decide +kernel
theorem dL_law_1017 : decode cL_law 1017 = .ok (.invokevirtual 118, 3) := by decide +kernel
theorem dL_law_1020 : decode cL_law 1020 = .ok (.aload_n 2, 1) := by decide +kernel
theorem dL_law_1021 : decode cL_law 1021 = .ok (.invokevirtual 121, 3) := by decide +kernel
theorem dL_law_1024 : decode cL_law 1024 = .ok (.if_icmp .eq 166, 3) := by decide +kernel
theorem dL_law_1027 : decode cL_law 1027 = .ok (.iconst 0, 1) := by decide +kernel
theorem dL_law_1028 : decode cL_law 1028 = .ok (.ireturn, 1) := by decide +kernel
theorem dL_law_1029 : decode cL_law 1029 = .ok (.aload_n 1, 1) := by decide +kernel
theorem dL_law_1030 : decode cL_law 1030 = .ok (.invokevirtual 122, 3) := by decide +kernel
theorem dL_law_1033 : decode cL_law 1033 = .ok (.aload_n 2, 1) := by decide +kernel
theorem dL_law_1034 : decode cL_law 1034 = .ok (.invokevirtual 125, 3) := by decide +kernel
theorem dL_law_1037 : decode cL_law 1037 = .ok (.if_icmp .eq 153, 3) := by decide +kernel
theorem dL_law_1040 : decode cL_law 1040 = .ok (.iconst 0, 1) := by decide +kernel
theorem dL_law_1041 : decode cL_law 1041 = .ok (.ireturn, 1) := by decide +kernel
theorem dL_law_1042 : decode cL_law 1042 = .ok (.aload_n 1, 1) := by decide +kernel
theorem dL_law_1043 : decode cL_law 1043 = .ok (.aload_n 0, 1) := by decide +kernel
theorem dL_law_1044 : decode cL_law 1044 = .ok (.iload_n 3, 1) := by decide +kernel
theorem dL_law_1045 : decode cL_law 1045 = .ok (.iconst 1, 1) := by decide +kernel
theorem dL_law_1046 : decode cL_law 1046 = .ok (.iadd, 1) := by decide +kernel
theorem dL_law_1047 : decode cL_law 1047 = .ok (.iaload, 1) := by decide +kernel
theorem dL_law_1048 : decode cL_law 1048 = .ok (.aload_n 0, 1) := by decide +kernel
theorem dL_law_1049 : decode cL_law 1049 = .ok (.iload_n 3, 1) := by decide +kernel
theorem dL_law_1050 : decode cL_law 1050 = .ok (.iconst 2, 1) := by decide +kernel
theorem dL_law_1051 : decode cL_law 1051 = .ok (.iadd, 1) := by decide +kernel
theorem dL_law_1052 : decode cL_law 1052 = .ok (.iaload, 1) := by decide +kernel
theorem dL_law_1053 : decode cL_law 1053 = .ok (.invokevirtual 126, 3) := by decide +kernel
theorem dL_law_1056 : decode cL_law 1056 = .ok (.aload_n 2, 1) := by decide +kernel
theorem dL_law_1057 : decode cL_law 1057 = .ok (.aload_n 0, 1) := by decide +kernel
theorem dL_law_1058 : decode cL_law 1058 = .ok (.iload_n 3, 1) := by decide +kernel
theorem dL_law_1059 : decode cL_law 1059 = .ok (.iconst 1, 1) := by decide +kernel
theorem dL_law_1060 : decode cL_law 1060 = .ok (.iadd, 1) := by decide +kernel
theorem dL_law_1061 : decode cL_law 1061 = .ok (.iaload, 1) := by decide +kernel
theorem dL_law_1062 : decode cL_law 1062 = .ok (.aload_n 0, 1) := by decide +kernel
theorem dL_law_1063 : decode cL_law 1063 = .ok (.iload_n 3, 1) := by decide +kernel
theorem dL_law_1064 : decode cL_law 1064 = .ok (.iconst 2, 1) := by decide +kernel
theorem dL_law_1065 : decode cL_law 1065 = .ok (.iadd, 1) := by decide +kernel
theorem dL_law_1066 : decode cL_law 1066 = .ok (.iaload, 1) := by decide +kernel
theorem dL_law_1067 : decode cL_law 1067 = .ok (.invokevirtual 129, 3) := by decide +kernel
theorem dL_law_1070 : decode cL_law 1070 = .ok (.if_icmp .eq 120, 3) := by decide +kernel
theorem dL_law_1073 : decode cL_law 1073 = .ok (.iconst 0, 1) := by decide +kernel
theorem dL_law_1074 : decode cL_law 1074 = .ok (.ireturn, 1) := by decide +kernel
theorem dL_law_1075 : decode cL_law 1075 = .ok (.aload_n 1, 1) := by decide +kernel
theorem dL_law_1076 : decode cL_law 1076 = .ok (.invokevirtual 130, 3) := by decide +kernel
theorem dL_law_1079 : decode cL_law 1079 = .ok (.aload_n 2, 1) := by decide +kernel
theorem dL_law_1080 : decode cL_law 1080 = .ok (.invokevirtual 133, 3) := by decide +kernel
theorem dL_law_1083 : decode cL_law 1083 = .ok (.if_icmp .eq 107, 3) := by decide +kernel
theorem dL_law_1086 : decode cL_law 1086 = .ok (.iconst 0, 1) := by decide +kernel
theorem dL_law_1087 : decode cL_law 1087 = .ok (.ireturn, 1) := by decide +kernel
theorem dL_law_1088 : decode cL_law 1088 = .ok (.aload_n 1, 1) := by decide +kernel
theorem dL_law_1089 : decode cL_law 1089 = .ok (.aload_n 0, 1) := by decide +kernel
theorem dL_law_1090 : decode cL_law 1090 = .ok (.iload_n 3, 1) := by decide +kernel
theorem dL_law_1091 : decode cL_law 1091 = .ok (.iconst 1, 1) := by decide +kernel
theorem dL_law_1092 : decode cL_law 1092 = .ok (.iadd, 1) := by decide +kernel
theorem dL_law_1093 : decode cL_law 1093 = .ok (.iaload, 1) := by decide +kernel
theorem dL_law_1094 : decode cL_law 1094 = .ok (.invokevirtual 134, 3) := by decide +kernel
theorem dL_law_1097 : decode cL_law 1097 = .ok (.aload_n 2, 1) := by decide +kernel
theorem dL_law_1098 : decode cL_law 1098 = .ok (.aload_n 0, 1) := by decide +kernel
theorem dL_law_1099 : decode cL_law 1099 = .ok (.iload_n 3, 1) := by decide +kernel
theorem dL_law_1100 : decode cL_law 1100 = .ok (.iconst 1, 1) := by decide +kernel
theorem dL_law_1101 : decode cL_law 1101 = .ok (.iadd, 1) := by decide +kernel
theorem dL_law_1102 : decode cL_law 1102 = .ok (.iaload, 1) := by decide +kernel
theorem dL_law_1103 : decode cL_law 1103 = .ok (.invokevirtual 137, 3) := by decide +kernel
theorem dL_law_1106 : decode cL_law 1106 = .ok (.if_icmp .eq 84, 3) := by decide +kernel
theorem dL_law_1109 : decode cL_law 1109 = .ok (.iconst 0, 1) := by decide +kernel
theorem dL_law_1110 : decode cL_law 1110 = .ok (.ireturn, 1) := by decide +kernel
theorem dL_law_1111 : decode cL_law 1111 = .ok (.aload_n 1, 1) := by decide +kernel
theorem dL_law_1112 : decode cL_law 1112 = .ok (.aload_n 0, 1) := by decide +kernel
theorem dL_law_1113 : decode cL_law 1113 = .ok (.iload_n 3, 1) := by decide +kernel
theorem dL_law_1114 : decode cL_law 1114 = .ok (.iconst 1, 1) := by decide +kernel
theorem dL_law_1115 : decode cL_law 1115 = .ok (.iadd, 1) := by decide +kernel
theorem dL_law_1116 : decode cL_law 1116 = .ok (.iaload, 1) := by decide +kernel
theorem dL_law_1117 : decode cL_law 1117 = .ok (.aload_n 0, 1) := by decide +kernel
theorem dL_law_1118 : decode cL_law 1118 = .ok (.iload_n 3, 1) := by decide +kernel
theorem dL_law_1119 : decode cL_law 1119 = .ok (.iconst 2, 1) := by decide +kernel
theorem dL_law_1120 : decode cL_law 1120 = .ok (.iadd, 1) := by decide +kernel
theorem dL_law_1121 : decode cL_law 1121 = .ok (.iaload, 1) := by decide +kernel
theorem dL_law_1122 : decode cL_law 1122 = .ok (.invokevirtual 138, 3) := by decide +kernel
theorem dL_law_1125 : decode cL_law 1125 = .ok (.aload_n 2, 1) := by decide +kernel
theorem dL_law_1126 : decode cL_law 1126 = .ok (.aload_n 0, 1) := by decide +kernel
theorem dL_law_1127 : decode cL_law 1127 = .ok (.iload_n 3, 1) := by decide +kernel
theorem dL_law_1128 : decode cL_law 1128 = .ok (.iconst 1, 1) := by decide +kernel
theorem dL_law_1129 : decode cL_law 1129 = .ok (.iadd, 1) := by decide +kernel
theorem dL_law_1130 : decode cL_law 1130 = .ok (.iaload, 1) := by decide +kernel
theorem dL_law_1131 : decode cL_law 1131 = .ok (.aload_n 0, 1) := by decide +kernel
theorem dL_law_1132 : decode cL_law 1132 = .ok (.iload_n 3, 1) := by decide +kernel
theorem dL_law_1133 : decode cL_law 1133 = .ok (.iconst 2, 1) := by decide +kernel
theorem dL_law_1134 : decode cL_law 1134 = .ok (.iadd, 1) := by decide +kernel
theorem dL_law_1135 : decode cL_law 1135 = .ok (.iaload, 1) := by decide +kernel
theorem dL_law_1136 : decode cL_law 1136 = .ok (.invokevirtual 141, 3) := by decide +kernel
theorem dL_law_1139 : decode cL_law 1139 = .ok (.if_icmp .eq 51, 3) := by decide +kernel
theorem dL_law_1142 : decode cL_law 1142 = .ok (.iconst 0, 1) := by decide +kernel
theorem dL_law_1143 : decode cL_law 1143 = .ok (.ireturn, 1) := by decide +kernel
theorem dL_law_1144 : decode cL_law 1144 = .ok (.aload_n 1, 1) := by decide +kernel
theorem dL_law_1145 : decode cL_law 1145 = .ok (.aload_n 0, 1) := by decide +kernel
theorem dL_law_1146 : decode cL_law 1146 = .ok (.iload_n 3, 1) := by decide +kernel
theorem dL_law_1147 : decode cL_law 1147 = .ok (.iconst 1, 1) := by decide +kernel
theorem dL_law_1148 : decode cL_law 1148 = .ok (.iadd, 1) := by decide +kernel
theorem dL_law_1149 : decode cL_law 1149 = .ok (.iaload, 1) := by decide +kernel
theorem dL_law_1150 : decode cL_law 1150 = .ok (.invokevirtual 142, 3) := by decide +kernel
theorem dL_law_1153 : decode cL_law 1153 = .ok (.aload_n 2, 1) := by decide +kernel
theorem dL_law_1154 : decode cL_law 1154 = .ok (.aload_n 0, 1) := by decide +kernel
theorem dL_law_1155 : decode cL_law 1155 = .ok (.iload_n 3, 1) := by decide +kernel
theorem dL_law_1156 : decode cL_law 1156 = .ok (.iconst 1, 1) := by decide +kernel
theorem dL_law_1157 : decode cL_law 1157 = .ok (.iadd, 1) := by decide +kernel
theorem dL_law_1158 : decode cL_law 1158 = .ok (.iaload, 1) := by decide +kernel
theorem dL_law_1159 : decode cL_law 1159 = .ok (.invokevirtual 145, 3) := by decide +kernel
theorem dL_law_1162 : decode cL_law 1162 = .ok (.if_icmp .eq 28, 3) := by decide +kernel
theorem dL_law_1165 : decode cL_law 1165 = .ok (.iconst 0, 1) := by decide +kernel
theorem dL_law_1166 : decode cL_law 1166 = .ok (.ireturn, 1) := by decide +kernel
theorem dL_law_1167 : decode cL_law 1167 = .ok (.aload_n 1, 1) := by decide +kernel
theorem dL_law_1168 : decode cL_law 1168 = .ok (.aload_n 0, 1) := by decide +kernel
theorem dL_law_1169 : decode cL_law 1169 = .ok (.iload_n 3, 1) := by decide +kernel
theorem dL_law_1170 : decode cL_law 1170 = .ok (.iconst 1, 1) := by decide +kernel
theorem dL_law_1171 : decode cL_law 1171 = .ok (.iadd, 1) := by decide +kernel
theorem dL_law_1172 : decode cL_law 1172 = .ok (.iaload, 1) := by decide +kernel
theorem dL_law_1173 : decode cL_law 1173 = .ok (.invokevirtual 146, 3) := by decide +kernel
theorem dL_law_1176 : decode cL_law 1176 = .ok (.aload_n 2, 1) := by decide +kernel
theorem dL_law_1177 : decode cL_law 1177 = .ok (.aload_n 0, 1) := by decide +kernel
theorem dL_law_1178 : decode cL_law 1178 = .ok (.iload_n 3, 1) := by decide +kernel
theorem dL_law_1179 : decode cL_law 1179 = .ok (.iconst 1, 1) := by decide +kernel
theorem dL_law_1180 : decode cL_law 1180 = .ok (.iadd, 1) := by decide +kernel
theorem dL_law_1181 : decode cL_law 1181 = .ok (.iaload, 1) := by decide +kernel
theorem dL_law_1182 : decode cL_law 1182 = .ok (.invokevirtual 149, 3) := by decide +kernel
theorem dL_law_1185 : decode cL_law 1185 = .ok (.if_icmp .eq 5, 3) := by decide +kernel
theorem dL_law_1188 : decode cL_law 1188 = .ok (.iconst 0, 1) := by decide +kernel
theorem dL_law_1189 : decode cL_law 1189 = .ok (.ireturn, 1) := by decide +kernel
theorem dL_law_1190 : decode cL_law 1190 = .ok (.iinc 3 5, 3) := by decide +kernel
theorem dL_law_1193 : decode cL_law 1193 = .ok (.goto (-1175), 3) := by decide +kernel
theorem dL_law_1196 : decode cL_law 1196 = .ok (.iconst 1, 1) := by decide +kernel
theorem dL_law_1197 : decode cL_law 1197 = .ok (.ireturn, 1) := by decide +kernel
end
section
/-! ===== the light judgement: worlds as numbers ===== -/
abbrev wd : Type := Nat → Nat → Int
abbrev av : Type := Int ⊕ (Int ⊕ Option Nat)
abbrev vI (a : Int) : av := .inl a
abbrev vL (a : Int) : av := .inr (.inl a)
abbrev vR (k : Nat) : av := .inr (.inr (some k))
abbrev vN : av := .inr (.inr none)
def zI (a : Int) : Int32 := Int32.ofInt a
def zL (a : Int) : Int64 := Int64.ofInt a
abbrev rg (a : Int) : Prop := -2147483648 ≤ a ∧ a ≤ 2147483647
theorem zI_add (a b : Int) : zI (a + b) = zI a + zI b := Int32.ofInt_add a b
theorem zI_sub (a b : Int) : zI (a - b) = zI a - zI b := Int32.ofInt_sub a b
theorem zI_mul (a b : Int) : zI (a * b) = zI a * zI b := Int32.ofInt_mul a b
theorem zI_neg (a : Int) : zI (-a) = -zI a := Int32.ofInt_neg a
theorem zI_toInt {a : Int} (h : rg a) : (zI a).toInt = a := Int32.toInt_ofInt_of_le (by have := h.1; omega) (by have := h.2; omega)
theorem zI_of (x : Int32) : zI x.toInt = x := Int32.ofInt_toInt x
theorem zI_rg (x : Int32) : rg x.toInt := by
  have h1 := Int32.le_toInt x
  have h2 := Int32.toInt_lt x
  exact ⟨by omega, by omega⟩
theorem zI_lt {a b : Int} (ha : rg a) (hb : rg b) : zI a < zI b ↔ a < b := by rw [Int32.lt_iff_toInt_lt, zI_toInt ha, zI_toInt hb]
theorem zI_le {a b : Int} (ha : rg a) (hb : rg b) : zI a ≤ zI b ↔ a ≤ b := by rw [Int32.le_iff_toInt_le, zI_toInt ha, zI_toInt hb]
theorem zI_eq {a b : Int} (ha : rg a) (hb : rg b) : zI a = zI b ↔ a = b := by rw [← Int32.toInt_inj, zI_toInt ha, zI_toInt hb]
theorem zI_0 : zI 0 = 0 := rfl
theorem zI_in {i : Int} {n : Nat} (h0 : 0 ≤ i) (h1 : i < n) (hn : n < 2147483648) : vp_in (zI i) n := vp_in_iff.mpr (by rw [zI_toInt ⟨by omega, by omega⟩]; exact ⟨h0, h1⟩)
theorem zI_cl {i : Int} (h0 : 0 ≤ i) (h1 : i < 2147483648) : (zI i).toNatClampNeg = i.toNat := by
  show ((zI i).toInt).toNat = i.toNat
  rw [zI_toInt ⟨by omega, by omega⟩]
theorem zL_toInt {a : Int} (h : rg a) : (zL a).toInt = a := Int64.toInt_ofInt_of_le (by have := h.1; omega) (by have := h.2; omega)
def cv (ad : Nat → Nat) (v : av) : Value := match v with
  | .inl a => .int (zI a)
  | .inr (.inl a) => .long (zL a)
  | .inr (.inr r) => va_rf (r.map ad)
theorem cv_cat1 {ad : Nat → Nat} {v : av} (h : ∀ a, v ≠ vL a) : ¬ (cv ad v).category = 2 := by
  rcases v with a | a | r
  · simp [cv, Value.category]
  · exact absurd rfl (h a)
  · cases r <;> simp [cv, va_rf, Value.category]
abbrev lyE : Type := (Nat × List (Option (Option Nat))) ⊕ (Bool × Nat)
abbrev lyT : Type := List lyE
def cfv (ad : Nat → Nat) (x : Int) (o : Option (Option Nat)) : Value := match o with
  | none => .int (zI x)
  | some r => va_rf (r.map ad)
def cel (ad : Nat → Nat) (cI cZ : ClassId) (f : Nat → Int) (e : lyE) : va_E := match e with
  | .inl o => .inr (o.1, o.2.mapIdx (fun j x => cfv ad (f j) x))
  | .inr a => .inl (if a.1 then cZ else cI, a.2, .inl (fun i => zI (f i)))
def cells (lay : lyT) (ad : Nat → Nat) (cI cZ : ClassId) (w : wd) : va_W := lay.mapIdx (fun k e => (ad k, cel ad cI cZ (w k) e))
def w1 (f : Nat → Int) (j : Nat) (a : Int) : Nat → Int := fun i => if i = j then a else f i
def wst (w : wd) (k j : Nat) (a : Int) : wd := fun i => if i = k then w1 (w k) j a else w i
theorem cells_at {lay : lyT} {ad : Nat → Nat} {cI cZ : ClassId} {w : wd} {k : Nat} {e : lyE} (h : lay[k]? = some e) : (cells lay ad cI cZ w)[k]? = some (ad k, cel ad cI cZ (w k) e) := by
  simp [cells, List.getElem?_mapIdx, h]
theorem cells_set {lay : lyT} {ad : Nat → Nat} {cI cZ : ClassId} {w : wd} {k j : Nat} {a : Int} {e : lyE} (h : lay[k]? = some e) : cells lay ad cI cZ (wst w k j a) = (cells lay ad cI cZ w).set k (ad k, cel ad cI cZ (w1 (w k) j a) e) := by
  apply List.ext_getElem?
  intro i
  by_cases hi : i = k
  · subst hi
    have hl : i < (cells lay ad cI cZ w).length := by
      have := (List.getElem?_eq_some_iff.mp (cells_at (ad := ad) (cI := cI) (cZ := cZ) (w := w) h)).1
      exact this
    rw [cells_at h, List.getElem?_set_self hl]
    simp [wst]
  · rw [List.getElem?_set_ne (fun q => hi q.symm)]
    simp only [cells, List.getElem?_mapIdx, wst, if_neg hi]
theorem cel_put {ad : Nat → Nat} {cI cZ : ClassId} {f : Nat → Int} {ci j : Nat} {fs : List (Option (Option Nat))} {a : Int} (h : fs[j]? = some none) : cel ad cI cZ (w1 f j a) (.inl (ci, fs)) = .inr (ci, (fs.mapIdx (fun j x => cfv ad (f j) x)).set j (.int (zI a))) := by
  simp only [cel]
  congr 2
  apply List.ext_getElem?
  intro i
  by_cases hi : i = j
  · subst hi
    have hl : i < (fs.mapIdx (fun j x => cfv ad (f j) x)).length := by
      rw [List.length_mapIdx]
      exact (List.getElem?_eq_some_iff.mp h).1
    rw [List.getElem?_set_self hl, List.getElem?_mapIdx, h]
    simp [cfv, w1]
  · rw [List.getElem?_set_ne (fun q => hi q.symm)]
    simp only [List.getElem?_mapIdx, w1, if_neg hi]
theorem cel_ast {ad : Nat → Nat} {cI cZ : ClassId} {f : Nat → Int} {b : Bool} {n j : Nat} {a : Int} : cel ad cI cZ (w1 f j a) (.inr (b, n)) = .inl (if b then cZ else cI, n, .inl (upd (fun i => zI (f i)) j (zI a))) := by
  simp only [cel]
  congr 4
  funext i
  by_cases hi : i = j
  · subst hi
    simp [w1, upd]
  · simp [w1, upd, hi]
/-- the locals -/
def hasL (ad : Nat → Nat) (arr : Array Slot) (n : Nat) (ls : List (Option av)) : Prop := arr.size = n ∧ ls.length ≤ n ∧ lv_wf arr ∧ ∀ (k : Nat) (v : av), ls[k]? = some (some v) → arr[k]? = some (.val (cv ad v))
def prs (ad : Nat → Nat) (ls : List (Option av)) : List (Nat × Value) := (List.range ls.length).filterMap (fun k => match ls[k]? with | some (some v) => some (k, cv ad v) | _ => none)
theorem prs_mem {ad : Nat → Nat} {ls : List (Option av)} {k : Nat} {v : av} (h : ls[k]? = some (some v)) : (k, cv ad v) ∈ prs ad ls := by
  refine List.mem_filterMap.mpr ⟨k, List.mem_range.mpr (List.getElem?_eq_some_iff.mp h).1, ?_⟩
  rw [h]
theorem hasL.lv {ad : Nat → Nat} {arr : Array Slot} {n : Nat} {ls : List (Option av)} (h : hasL ad arr n ls) : lv_has arr n (prs ad ls) := by
  refine ⟨h.1, h.2.2.1, fun q hq => ?_⟩
  obtain ⟨k, -, hk⟩ := List.mem_filterMap.mp hq
  split at hk
  · rename_i v hv
    cases hk
    exact h.2.2.2 k v hv
  · cases hk
def noL (ls : List (Option av)) : Bool := ls.all (fun v => match v with | some (.inr (.inl _)) => false | _ => true)
theorem noL_at {ls : List (Option av)} (h : noL ls = true) {k : Nat} {v : av} (hk : ls[k]? = some (some v)) : ∀ a, v ≠ vL a := by
  intro a e
  subst e
  have := List.all_eq_true.mp h _ (List.mem_of_getElem? hk)
  simp at this
theorem hasL_set {ad : Nat → Nat} {arr : Array Slot} {n i : Nat} {ls : List (Option av)} {v : av} (hL : hasL ad arr n ls) (hN : noL ls = true) (hi : i < ls.length) {arr' : Array Slot} (h' : lv_has arr' n ((i, cv ad v) :: (prs ad ls).filter (fun q => !(q.1 == i) && !(q.1 + 1 == i && q.2.category == 2)))) : hasL ad arr' n (ls.set i (some v)) := by
  refine ⟨h'.1, by rw [List.length_set]; exact hL.2.1, h'.2.1, fun k u hk => ?_⟩
  by_cases e : k = i
  · subst e
    rw [List.getElem?_set_self hi] at hk
    cases hk
    exact h'.2.2 (k, cv ad v) List.mem_cons_self
  · rw [List.getElem?_set_ne (fun q => e q.symm)] at hk
    refine h'.2.2 (k, cv ad u) (List.mem_cons_of_mem _ (List.mem_filter.mpr ⟨prs_mem hk, ?_⟩))
    have h1 := cv_cat1 (ad := ad) (noL_at hN hk)
    simp [e, h1]
/-- the tables' words that any state keeps -/
def TB : List Cond := lw_tbl.filter goodWord
theorem tb_in {w : Cond} (i : Nat) (h : lw_tbl[i]? = some w) (g : goodWord w = true) : w ∈ TB := List.mem_filter.mpr ⟨List.mem_of_getElem? h, g⟩
theorem tb_good : GoodIn TB TB := fun _ h => ⟨h, good_of_word (List.mem_filter.mp h).2⟩
def isNest (w : Cond) : Bool := match w with
  | .fieldLinkNest .. => true
  | .methodLinkNest .. => true
  | _ => false
theorem nest_warm {w : Cond} (h : isNest w = true) {s U : State} (hW : s.WarmedH U.vm) (hz : va_Nw w s) : va_Nw w U := by
  cases w <;> first | exact absurd h Bool.false_ne_true | exact va_Nw.warmF hW hz | exact va_Nw.warmM hW hz
theorem nest_tab {w : Cond} (h : isNest w = true) : w.onTables = true := by
  cases w <;> first | exact absurd h Bool.false_ne_true | rfl

def nestW : List Cond := [(Cond.methodLinkNest "OneSnip" (11 : Nat) ({ cls := "OneSnip$Sheet", name := "<init>", desc := "()V" } : MethodName) "OneSnip"), (Cond.fieldLinkNest "OneSnip" (65 : Nat) "OneSnip$Sheet" "size" "I" "OneSnip"), (Cond.fieldLinkNest "OneSnip$Layout" (59 : Nat) "OneSnip$Sheet" "size" "I" "OneSnip"), (Cond.fieldLinkNest "OneSnip$Layout" (42 : Nat) "OneSnip$Sheet" "leaves" "I" "OneSnip"), (Cond.fieldLinkNest "OneSnip$Creases" (36 : Nat) "OneSnip$Sheet" "leaves" "I" "OneSnip"), (Cond.fieldLinkNest "OneSnip$Snip" (42 : Nat) "OneSnip$Sheet" "leaves" "I" "OneSnip"), (Cond.fieldLinkNest "OneSnip$Pile" (73 : Nat) "OneSnip$Sheet" "leaves" "I" "OneSnip"), (Cond.fieldLinkNest "OneSnip$Figure" (41 : Nat) "OneSnip$Sheet" "leaves" "I" "OneSnip"), (Cond.fieldLinkNest "OneSnip" (205 : Nat) "OneSnip$Sheet" "leaves" "I" "OneSnip"), (Cond.fieldLinkNest "OneSnip" (85 : Nat) "OneSnip$Pile" "made" "I" "OneSnip"), (Cond.fieldLinkNest "OneSnip" (78 : Nat) "OneSnip$Snip" "made" "Z" "OneSnip"), (Cond.fieldLinkNest "OneSnip" (179 : Nat) "OneSnip$Snip" "fallen" "I" "OneSnip"), (Cond.fieldLinkNest "OneSnip$Layout" (36 : Nat) "OneSnip$Figure" "total" "I" "OneSnip"), (Cond.fieldLinkNest "OneSnip" (203 : Nat) "OneSnip$Figure" "total" "I" "OneSnip"), (Cond.fieldLinkNest "OneSnip$Search" (77 : Nat) "OneSnip$Layout" "next" "LOneSnip$Layout;" "OneSnip"), (Cond.fieldLinkNest "OneSnip" (221 : Nat) "OneSnip$Search" "found" "I" "OneSnip"), (Cond.methodLinkNest "OneSnip$Pile" (61 : Nat) ({ cls := "OneSnip", name := "yes", desc := "(Z)I" } : MethodName) "OneSnip"), (Cond.methodLinkNest "OneSnip$Creases" (47 : Nat) ({ cls := "OneSnip", name := "yes", desc := "(Z)I" } : MethodName) "OneSnip"), (Cond.methodLinkNest "OneSnip$Snip" (53 : Nat) ({ cls := "OneSnip", name := "yes", desc := "(Z)I" } : MethodName) "OneSnip"), (Cond.methodLinkNest "OneSnip$Figure" (33 : Nat) ({ cls := "OneSnip", name := "yes", desc := "(Z)I" } : MethodName) "OneSnip"), (Cond.methodLinkNest "OneSnip$Layout" (110 : Nat) ({ cls := "OneSnip", name := "yes", desc := "(Z)I" } : MethodName) "OneSnip")]
theorem nestW_is : ∀ w ∈ nestW, isNest w = true := by decide +kernel
def Nst (s : State) : Prop := ∀ w ∈ nestW, va_Nw w s
theorem Nst.warm {s U : State} (hW : s.WarmedH U.vm) (h : Nst s) : Nst U := fun w hw => nest_warm (nestW_is w hw) hW (h w hw)
theorem Nst.same {s U : State} (e : s.vm = U.vm) (h : Nst s) : Nst U := fun w hw => va_Nw.same (nest_tab (nestW_is w hw)) e (h w hw)
/-- all that a walk has fixed -/
abbrev KT : Type := Program × Launch × Env × Room × State × MethodId × Array Value × List Frame × Method × Code × va_G × ClassId × ClassId × (Nat → Prop) × (State → Prop)
def J (κ : KT) (lay : lyT) (ad : Nat → Nat) (cn sn pc : Nat) (ls : List (Option av)) (st : List av) (w : wd) : Prop := match κ with
  | (p, l, e, R, s, m, args, below, meth, c, D, cI, cZ, A, Q) => ∀ (H : Heap) (locs : List Loc) (arr : Array Slot), va_P D vwCl (cells lay ad cI cZ w) H → va_D A (cells lay ad cI cZ w) → va_S A s.heap H locs → hasL ad arr c.maxLocals ls → W p l e R s m args below meth c H locs cn sn Q (F0 m pc arr (st.map (cv ad)))
def Okk (κ : KT) (cc : ByteArray) (own : String) (fr : Nat) : Prop := match κ with
  | (p, l, e, R, s, m, args, below, meth, c, D, cI, cZ, A, Q) => p.tables.exec = Jvm.exec ∧ c.code = cc ∧ s.vm.findClass own = some m.cls ∧ (∀ w ∈ TB, w.before args s = true) ∧ va_K D vwCl [(cI, .int), (cZ, .boolean)] s ∧ Nst s ∧ (∀ q, s.heap.size ≤ q → A q) ∧ meth.locks = false ∧ fr ≤ R.frames ∧ 40 * fr ≤ R.locals
section JROWS
variable {κ : KT} {cc : ByteArray} {own : String} {fr : Nat} {lay : lyT} {ad : Nat → Nat} {cn sn pc : Nat} {ls : List (Option av)} {st : List av} {w : wd}
theorem j_iconst (X : Okk κ cc own fr) {n : Int} (hd : decode cc pc = .ok (.iconst n, 1)) (k : J κ lay ad cn sn (pc + 1) ls (vI n :: st) w) : J κ lay ad cn sn pc ls st w := by
  obtain ⟨p, l, e, R, s, m, args, below, meth, c, D, cI, cZ, A, Q⟩ := κ
  obtain ⟨hx, hb, hown, hts, hK, hN, hA, hlk, hfr, hlo⟩ := X
  intro H locs arr hP hD hS hL
  exact lv_iconst (v := zI n) hx hb hd rfl (k H locs arr hP hD hS hL)
theorem j_bipush (X : Okk κ cc own fr) {n : Int} (hd : decode cc pc = .ok (.bipush n, 2)) (hv : (Int8.ofInt n).toInt32 = zI n) (k : J κ lay ad cn sn (pc + 2) ls (vI n :: st) w) : J κ lay ad cn sn pc ls st w := by
  obtain ⟨p, l, e, R, s, m, args, below, meth, c, D, cI, cZ, A, Q⟩ := κ
  obtain ⟨hx, hb, hown, hts, hK, hN, hA, hlk, hfr, hlo⟩ := X
  intro H locs arr hP hD hS hL
  exact lv_bipush (v := zI n) hx hb hd hv (k H locs arr hP hD hS hL)
theorem j_sipush (X : Okk κ cc own fr) {n : Int} (hd : decode cc pc = .ok (.sipush n, 3)) (hv : (Int16.ofInt n).toInt32 = zI n) (k : J κ lay ad cn sn (pc + 3) ls (vI n :: st) w) : J κ lay ad cn sn pc ls st w := by
  obtain ⟨p, l, e, R, s, m, args, below, meth, c, D, cI, cZ, A, Q⟩ := κ
  obtain ⟨hx, hb, hown, hts, hK, hN, hA, hlk, hfr, hlo⟩ := X
  intro H locs arr hP hD hS hL
  exact lv_sipush (v := zI n) hx hb hd hv (k H locs arr hP hD hS hL)
theorem j_lconst (X : Okk κ cc own fr) {n : Fin 2} (hd : decode cc pc = .ok (.lconst n, 1)) (k : J κ lay ad cn sn (pc + 1) ls (vL ((n : Nat) : Int) :: st) w) : J κ lay ad cn sn pc ls st w := by
  obtain ⟨p, l, e, R, s, m, args, below, meth, c, D, cI, cZ, A, Q⟩ := κ
  obtain ⟨hx, hb, hown, hts, hK, hN, hA, hlk, hfr, hlo⟩ := X
  intro H locs arr hP hD hS hL
  refine lv_lconst (v := zL ((n : Nat) : Int)) hx hb hd ?_ (k H locs arr hP hD hS hL)
  exact Int64.ofInt_eq_ofNat.symm
theorem j_aconst_null (X : Okk κ cc own fr) (hd : decode cc pc = .ok (.aconst_null, 1)) (k : J κ lay ad cn sn (pc + 1) ls (vN :: st) w) : J κ lay ad cn sn pc ls st w := by
  obtain ⟨p, l, e, R, s, m, args, below, meth, c, D, cI, cZ, A, Q⟩ := κ
  obtain ⟨hx, hb, hown, hts, hK, hN, hA, hlk, hfr, hlo⟩ := X
  intro H locs arr hP hD hS hL
  exact lv_null hx hb hd (k H locs arr hP hD hS hL)
theorem j_iload_n (X : Okk κ cc own fr) {i : Fin 4} {a : Int} (hd : decode cc pc = .ok (.iload_n i, 1)) (hl : ls[(i : Nat)]? = some (some (vI a))) (k : J κ lay ad cn sn (pc + 1) ls (vI a :: st) w) : J κ lay ad cn sn pc ls st w := by
  obtain ⟨p, l, e, R, s, m, args, below, meth, c, D, cI, cZ, A, Q⟩ := κ
  obtain ⟨hx, hb, hown, hts, hK, hN, hA, hlk, hfr, hlo⟩ := X
  intro H locs arr hP hD hS hL
  exact lv_iload_n hx hb hd rfl (hL.2.2.2 _ _ hl) (k H locs arr hP hD hS hL)
theorem j_iload (X : Okk κ cc own fr) {i : Nat} {a : Int} (hd : decode cc pc = .ok (.iload i, 2)) (hl : ls[i]? = some (some (vI a))) (k : J κ lay ad cn sn (pc + 2) ls (vI a :: st) w) : J κ lay ad cn sn pc ls st w := by
  obtain ⟨p, l, e, R, s, m, args, below, meth, c, D, cI, cZ, A, Q⟩ := κ
  obtain ⟨hx, hb, hown, hts, hK, hN, hA, hlk, hfr, hlo⟩ := X
  intro H locs arr hP hD hS hL
  exact lv_iload hx hb hd (hL.2.2.2 _ _ hl) (k H locs arr hP hD hS hL)
theorem j_lload_n (X : Okk κ cc own fr) {i : Fin 4} {a : Int} (hd : decode cc pc = .ok (.lload_n i, 1)) (hl : ls[(i : Nat)]? = some (some (vL a))) (k : J κ lay ad cn sn (pc + 1) ls (vL a :: st) w) : J κ lay ad cn sn pc ls st w := by
  obtain ⟨p, l, e, R, s, m, args, below, meth, c, D, cI, cZ, A, Q⟩ := κ
  obtain ⟨hx, hb, hown, hts, hK, hN, hA, hlk, hfr, hlo⟩ := X
  intro H locs arr hP hD hS hL
  exact lv_lload_n hx hb hd rfl (hL.2.2.2 _ _ hl) (k H locs arr hP hD hS hL)
theorem j_lload (X : Okk κ cc own fr) {i : Nat} {a : Int} (hd : decode cc pc = .ok (.lload i, 2)) (hl : ls[i]? = some (some (vL a))) (k : J κ lay ad cn sn (pc + 2) ls (vL a :: st) w) : J κ lay ad cn sn pc ls st w := by
  obtain ⟨p, l, e, R, s, m, args, below, meth, c, D, cI, cZ, A, Q⟩ := κ
  obtain ⟨hx, hb, hown, hts, hK, hN, hA, hlk, hfr, hlo⟩ := X
  intro H locs arr hP hD hS hL
  exact lv_lload hx hb hd (hL.2.2.2 _ _ hl) (k H locs arr hP hD hS hL)
theorem j_aload_n (X : Okk κ cc own fr) {i : Fin 4} {a : Nat} (hd : decode cc pc = .ok (.aload_n i, 1)) (hl : ls[(i : Nat)]? = some (some (vR a))) (k : J κ lay ad cn sn (pc + 1) ls (vR a :: st) w) : J κ lay ad cn sn pc ls st w := by
  obtain ⟨p, l, e, R, s, m, args, below, meth, c, D, cI, cZ, A, Q⟩ := κ
  obtain ⟨hx, hb, hown, hts, hK, hN, hA, hlk, hfr, hlo⟩ := X
  intro H locs arr hP hD hS hL
  exact lv_aload_n hx hb hd rfl (hL.2.2.2 _ _ hl) (k H locs arr hP hD hS hL)
theorem j_aload (X : Okk κ cc own fr) {i : Nat} {a : Nat} (hd : decode cc pc = .ok (.aload i, 2)) (hl : ls[i]? = some (some (vR a))) (k : J κ lay ad cn sn (pc + 2) ls (vR a :: st) w) : J κ lay ad cn sn pc ls st w := by
  obtain ⟨p, l, e, R, s, m, args, below, meth, c, D, cI, cZ, A, Q⟩ := κ
  obtain ⟨hx, hb, hown, hts, hK, hN, hA, hlk, hfr, hlo⟩ := X
  intro H locs arr hP hD hS hL
  exact lv_aload hx hb hd (hL.2.2.2 _ _ hl) (k H locs arr hP hD hS hL)
theorem j_istore_ng (X : Okk κ cc own fr) {i : Fin 4} {a : Int} {ls' : List (Option av)} (hd : decode cc pc = .ok (.istore_n i, 1)) (hn : noL ls = true) (hi : (i : Nat) < ls.length) (hs : ls.set (i : Nat) (some (vI a)) = ls') (k : J κ lay ad cn sn (pc + 1) ls' st w) : J κ lay ad cn sn pc ls (vI a :: st) w := by
  obtain ⟨p, l, e, R, s, m, args, below, meth, c, D, cI, cZ, A, Q⟩ := κ
  obtain ⟨hx, hb, hown, hts, hK, hN, hA, hlk, hfr, hlo⟩ := X
  intro H locs arr hP hD hS hL
  subst hs
  exact lv_istore_n (lv' := (_ :: _)) hx hb hd rfl hL.lv (Nat.lt_of_lt_of_le hi hL.2.1) rfl (fun arr' h' => k H locs arr' hP hD hS (hasL_set hL hn hi h'))
theorem j_istoreg (X : Okk κ cc own fr) {i : Nat} {a : Int} {ls' : List (Option av)} (hd : decode cc pc = .ok (.istore i, 2)) (hn : noL ls = true) (hi : i < ls.length) (hs : ls.set i (some (vI a)) = ls') (k : J κ lay ad cn sn (pc + 2) ls' st w) : J κ lay ad cn sn pc ls (vI a :: st) w := by
  obtain ⟨p, l, e, R, s, m, args, below, meth, c, D, cI, cZ, A, Q⟩ := κ
  obtain ⟨hx, hb, hown, hts, hK, hN, hA, hlk, hfr, hlo⟩ := X
  intro H locs arr hP hD hS hL
  subst hs
  exact lv_istore (lv' := (_ :: _)) hx hb hd hL.lv (Nat.lt_of_lt_of_le hi hL.2.1) rfl (fun arr' h' => k H locs arr' hP hD hS (hasL_set hL hn hi h'))
theorem j_astore_ng (X : Okk κ cc own fr) {i : Fin 4} {a : Nat} {ls' : List (Option av)} (hd : decode cc pc = .ok (.astore_n i, 1)) (hn : noL ls = true) (hi : (i : Nat) < ls.length) (hs : ls.set (i : Nat) (some (vR a)) = ls') (k : J κ lay ad cn sn (pc + 1) ls' st w) : J κ lay ad cn sn pc ls (vR a :: st) w := by
  obtain ⟨p, l, e, R, s, m, args, below, meth, c, D, cI, cZ, A, Q⟩ := κ
  obtain ⟨hx, hb, hown, hts, hK, hN, hA, hlk, hfr, hlo⟩ := X
  intro H locs arr hP hD hS hL
  subst hs
  exact lv_astore_n (lv' := (_ :: _)) hx hb hd rfl hL.lv (Nat.lt_of_lt_of_le hi hL.2.1) rfl (fun arr' h' => k H locs arr' hP hD hS (hasL_set hL hn hi h'))
theorem j_iincg (X : Okk κ cc own fr) {i : Nat} {n a : Int} {ls' : List (Option av)} (hd : decode cc pc = .ok (.iinc i n, 3)) (hn : noL ls = true) (hl : ls[i]? = some (some (vI a))) (hs : ls.set i (some (vI (a + n))) = ls') (k : J κ lay ad cn sn (pc + 3) ls' st w) : J κ lay ad cn sn pc ls st w := by
  obtain ⟨p, l, e, R, s, m, args, below, meth, c, D, cI, cZ, A, Q⟩ := κ
  obtain ⟨hx, hb, hown, hts, hK, hN, hA, hlk, hfr, hlo⟩ := X
  intro H locs arr hP hD hS hL
  subst hs
  have hi : i < ls.length := (List.getElem?_eq_some_iff.mp hl).1
  obtain ⟨q, hq⟩ := List.getElem?_of_mem (prs_mem (ad := ad) hl)
  exact lv_iinc (v := zI (a + n)) (lv' := (_ :: _)) hx hb hd hL.lv hq (zI_add a n).symm (Nat.lt_of_lt_of_le hi hL.2.1) rfl (fun arr' h' => k H locs arr' hP hD hS (hasL_set (v := vI (a + n)) hL hn hi h'))
theorem j_iadd (X : Okk κ cc own fr) {a b : Int} (hd : decode cc pc = .ok (.iadd, 1)) (k : J κ lay ad cn sn (pc + 1) ls (vI (a + b) :: st) w) : J κ lay ad cn sn pc ls (vI b :: vI a :: st) w := by
  obtain ⟨p, l, e, R, s, m, args, below, meth, c, D, cI, cZ, A, Q⟩ := κ
  obtain ⟨hx, hb, hown, hts, hK, hN, hA, hlk, hfr, hlo⟩ := X
  intro H locs arr hP hD hS hL
  refine lv_iadd (x := zI a) (y := zI b) hx hb hd ?_
  rw [← zI_add]
  exact k H locs arr hP hD hS hL
theorem j_isub (X : Okk κ cc own fr) {a b : Int} (hd : decode cc pc = .ok (.isub, 1)) (k : J κ lay ad cn sn (pc + 1) ls (vI (a - b) :: st) w) : J κ lay ad cn sn pc ls (vI b :: vI a :: st) w := by
  obtain ⟨p, l, e, R, s, m, args, below, meth, c, D, cI, cZ, A, Q⟩ := κ
  obtain ⟨hx, hb, hown, hts, hK, hN, hA, hlk, hfr, hlo⟩ := X
  intro H locs arr hP hD hS hL
  refine lv_isub (x := zI a) (y := zI b) hx hb hd ?_
  rw [← zI_sub]
  exact k H locs arr hP hD hS hL
theorem j_imul (X : Okk κ cc own fr) {a b : Int} (hd : decode cc pc = .ok (.imul, 1)) (k : J κ lay ad cn sn (pc + 1) ls (vI (a * b) :: st) w) : J κ lay ad cn sn pc ls (vI b :: vI a :: st) w := by
  obtain ⟨p, l, e, R, s, m, args, below, meth, c, D, cI, cZ, A, Q⟩ := κ
  obtain ⟨hx, hb, hown, hts, hK, hN, hA, hlk, hfr, hlo⟩ := X
  intro H locs arr hP hD hS hL
  refine lv_imul (x := zI a) (y := zI b) hx hb hd ?_
  rw [← zI_mul]
  exact k H locs arr hP hD hS hL
theorem j_ineg (X : Okk κ cc own fr) {a : Int} (hd : decode cc pc = .ok (.ineg, 1)) (k : J κ lay ad cn sn (pc + 1) ls (vI (-a) :: st) w) : J κ lay ad cn sn pc ls (vI a :: st) w := by
  obtain ⟨p, l, e, R, s, m, args, below, meth, c, D, cI, cZ, A, Q⟩ := κ
  obtain ⟨hx, hb, hown, hts, hK, hN, hA, hlk, hfr, hlo⟩ := X
  intro H locs arr hP hD hS hL
  refine lv_ineg (x := zI a) hx hb hd ?_
  rw [← zI_neg]
  exact k H locs arr hP hD hS hL
theorem j_iand (X : Okk κ cc own fr) {a b r : Int} (hd : decode cc pc = .ok (.iand, 1)) (hv : zI a &&& zI b = zI r) (k : J κ lay ad cn sn (pc + 1) ls (vI r :: st) w) : J κ lay ad cn sn pc ls (vI b :: vI a :: st) w := by
  obtain ⟨p, l, e, R, s, m, args, below, meth, c, D, cI, cZ, A, Q⟩ := κ
  obtain ⟨hx, hb, hown, hts, hK, hN, hA, hlk, hfr, hlo⟩ := X
  intro H locs arr hP hD hS hL
  refine lv_iand (x := zI a) (y := zI b) hx hb hd ?_
  rw [hv]
  exact k H locs arr hP hD hS hL
theorem j_ior (X : Okk κ cc own fr) {a b r : Int} (hd : decode cc pc = .ok (.ior, 1)) (hv : zI a ||| zI b = zI r) (k : J κ lay ad cn sn (pc + 1) ls (vI r :: st) w) : J κ lay ad cn sn pc ls (vI b :: vI a :: st) w := by
  obtain ⟨p, l, e, R, s, m, args, below, meth, c, D, cI, cZ, A, Q⟩ := κ
  obtain ⟨hx, hb, hown, hts, hK, hN, hA, hlk, hfr, hlo⟩ := X
  intro H locs arr hP hD hS hL
  refine lv_ior (x := zI a) (y := zI b) hx hb hd ?_
  rw [hv]
  exact k H locs arr hP hD hS hL
theorem j_ixor (X : Okk κ cc own fr) {a b r : Int} (hd : decode cc pc = .ok (.ixor, 1)) (hv : zI a ^^^ zI b = zI r) (k : J κ lay ad cn sn (pc + 1) ls (vI r :: st) w) : J κ lay ad cn sn pc ls (vI b :: vI a :: st) w := by
  obtain ⟨p, l, e, R, s, m, args, below, meth, c, D, cI, cZ, A, Q⟩ := κ
  obtain ⟨hx, hb, hown, hts, hK, hN, hA, hlk, hfr, hlo⟩ := X
  intro H locs arr hP hD hS hL
  refine lv_ixor (x := zI a) (y := zI b) hx hb hd ?_
  rw [hv]
  exact k H locs arr hP hD hS hL
theorem j_ishl (X : Okk κ cc own fr) {a b r : Int} (hd : decode cc pc = .ok (.ishl, 1)) (hv : zI a <<< (zI b &&& 31) = zI r) (k : J κ lay ad cn sn (pc + 1) ls (vI r :: st) w) : J κ lay ad cn sn pc ls (vI b :: vI a :: st) w := by
  obtain ⟨p, l, e, R, s, m, args, below, meth, c, D, cI, cZ, A, Q⟩ := κ
  obtain ⟨hx, hb, hown, hts, hK, hN, hA, hlk, hfr, hlo⟩ := X
  intro H locs arr hP hD hS hL
  refine lv_ishl (x := zI a) (y := zI b) hx hb hd ?_
  rw [hv]
  exact k H locs arr hP hD hS hL
theorem zI_tdiv {a b : Int} (ha : rg a) (hb : 0 < b) (hb2 : b ≤ 2147483647) : zI (a.tdiv b) = zI a / zI b := Int32.ofInt_tdiv (by have := ha.1; have e : Int32.minValue.toInt = -2147483648 := rfl; omega) (by have := ha.2; have e : Int32.maxValue.toInt = 2147483647 := rfl; omega) (by have e : Int32.minValue.toInt = -2147483648 := rfl; omega) (by have e : Int32.maxValue.toInt = 2147483647 := rfl; omega)
theorem zI_tmod {a b : Int} (ha : rg a) (hb : 0 < b) (hb2 : b ≤ 2147483647) : zI (a.tmod b) = zI a % zI b := Int32.ofInt_tmod (by have := ha.1; have e : Int32.minValue.toInt = -2147483648 := rfl; omega) (by have := ha.2; have e : Int32.maxValue.toInt = 2147483647 := rfl; omega) (by have e : Int32.minValue.toInt = -2147483648 := rfl; omega) (by have e : Int32.maxValue.toInt = 2147483647 := rfl; omega)
theorem j_idiv (X : Okk κ cc own fr) {a b : Int} (hd : decode cc pc = .ok (.idiv, 1)) (ha : 0 ≤ a) (ha2 : a ≤ 2147483647) (h0 : 0 < b) (h1 : b ≤ 2147483647) (k : J κ lay ad cn sn (pc + 1) ls (vI (a / b) :: st) w) : J κ lay ad cn sn pc ls (vI b :: vI a :: st) w := by
  obtain ⟨p, l, e, R, s, m, args, below, meth, c, D, cI, cZ, A, Q⟩ := κ
  obtain ⟨hx, hb, hown, hts, hK, hN, hA, hlk, hfr, hlo⟩ := X
  intro H locs arr hP hD hS hL
  have hne : ¬ zI b = 0 := fun q => by
    have := (zI_eq (a := b) (b := 0) ⟨by omega, h1⟩ ⟨by omega, by omega⟩).mp q
    omega
  refine lv_idiv (x := zI a) (y := zI b) hx hb hd hne ?_
  rw [← zI_tdiv ⟨by omega, ha2⟩ h0 h1, Int.tdiv_eq_ediv_of_nonneg ha]
  exact k H locs arr hP hD hS hL
theorem j_irem (X : Okk κ cc own fr) {a b : Int} (hd : decode cc pc = .ok (.irem, 1)) (ha : 0 ≤ a) (ha2 : a ≤ 2147483647) (h0 : 0 < b) (h1 : b ≤ 2147483647) (k : J κ lay ad cn sn (pc + 1) ls (vI (a % b) :: st) w) : J κ lay ad cn sn pc ls (vI b :: vI a :: st) w := by
  obtain ⟨p, l, e, R, s, m, args, below, meth, c, D, cI, cZ, A, Q⟩ := κ
  obtain ⟨hx, hb, hown, hts, hK, hN, hA, hlk, hfr, hlo⟩ := X
  intro H locs arr hP hD hS hL
  have hne : ¬ zI b = 0 := fun q => by
    have := (zI_eq (a := b) (b := 0) ⟨by omega, h1⟩ ⟨by omega, by omega⟩).mp q
    omega
  refine lv_irem (x := zI a) (y := zI b) hx hb hd hne ?_
  have e : zI a - zI a / zI b * zI b = zI (a % b) := by
    rw [← zI_tdiv ⟨by omega, ha2⟩ h0 h1, ← zI_mul, ← zI_sub, Int.tdiv_eq_ediv_of_nonneg ha]
    congr 1
    have := Int.mul_ediv_add_emod a b
    rw [Int.mul_comm (a / b) b]
    omega
  rw [e]
  exact k H locs arr hP hD hS hL
theorem j_i2l (X : Okk κ cc own fr) {a : Int} (hd : decode cc pc = .ok (.i2l, 1)) (ha : rg a) (k : J κ lay ad cn sn (pc + 1) ls (vL a :: st) w) : J κ lay ad cn sn pc ls (vI a :: st) w := by
  obtain ⟨p, l, e, R, s, m, args, below, meth, c, D, cI, cZ, A, Q⟩ := κ
  obtain ⟨hx, hb, hown, hts, hK, hN, hA, hlk, hfr, hlo⟩ := X
  intro H locs arr hP hD hS hL
  refine lv_i2l (v := zL a) hx hb hd ?_ (k H locs arr hP hD hS hL)
  rw [← Int64.toInt_inj, Int32.toInt_toInt64, zI_toInt ha, zL_toInt ha]
theorem j_dup (X : Okk κ cc own fr) {v : av} (hd : decode cc pc = .ok (.dup, 1)) (hc : ∀ a, v ≠ vL a) (k : J κ lay ad cn sn (pc + 1) ls (v :: v :: st) w) : J κ lay ad cn sn pc ls (v :: st) w := by
  obtain ⟨p, l, e, R, s, m, args, below, meth, c, D, cI, cZ, A, Q⟩ := κ
  obtain ⟨hx, hb, hown, hts, hK, hN, hA, hlk, hfr, hlo⟩ := X
  intro H locs arr hP hD hS hL
  exact lv_dup hx hb hd ((lv_cat _).resolve_right (cv_cat1 hc)) (k H locs arr hP hD hS hL)
theorem j_dup2 (X : Okk κ cc own fr) {u v : av} (hd : decode cc pc = .ok (.dup2, 1)) (hc : ∀ a, v ≠ vL a) (hc2 : ∀ a, u ≠ vL a) (k : J κ lay ad cn sn (pc + 1) ls (v :: u :: v :: u :: st) w) : J κ lay ad cn sn pc ls (v :: u :: st) w := by
  obtain ⟨p, l, e, R, s, m, args, below, meth, c, D, cI, cZ, A, Q⟩ := κ
  obtain ⟨hx, hb, hown, hts, hK, hN, hA, hlk, hfr, hlo⟩ := X
  intro H locs arr hP hD hS hL
  exact lv_dup2_11 hx hb hd ((lv_cat _).resolve_right (cv_cat1 hc)) ((lv_cat _).resolve_right (cv_cat1 hc2)) (k H locs arr hP hD hS hL)
theorem j_icmp_eq (X : Okk κ cc own fr) {a b : Int} {off : Int} {tgt : Nat} (hd : decode cc pc = .ok (.if_icmp .eq off, 3)) (ht : (pc : Int) + off = (tgt : Int)) (ha : rg a) (hb2 : rg b) (kt : a = b → J κ lay ad cn sn tgt ls st w) (kf : ¬ a = b → J κ lay ad cn sn (pc + 3) ls st w) : J κ lay ad cn sn pc ls (vI b :: vI a :: st) w := by
  obtain ⟨p, l, e, R, s, m, args, below, meth, c, D, cI, cZ, A, Q⟩ := κ
  obtain ⟨hx, hb, hown, hts, hK, hN, hA, hlk, hfr, hlo⟩ := X
  intro H locs arr hP hD hS hL
  exact lv_icmp_eq hx hb hd ht (fun q => kt ((zI_eq ha hb2).mp q) H locs arr hP hD hS hL) (fun q => kf (fun z => q ((zI_eq ha hb2).mpr z)) H locs arr hP hD hS hL)
theorem j_if_eq (X : Okk κ cc own fr) {a : Int} {off : Int} {tgt : Nat} (hd : decode cc pc = .ok (.ifCond .eq off, 3)) (ht : (pc : Int) + off = (tgt : Int)) (ha : rg a) (kt : a = (0 : Int) → J κ lay ad cn sn tgt ls st w) (kf : ¬ a = (0 : Int) → J κ lay ad cn sn (pc + 3) ls st w) : J κ lay ad cn sn pc ls (vI a :: st) w := by
  obtain ⟨p, l, e, R, s, m, args, below, meth, c, D, cI, cZ, A, Q⟩ := κ
  obtain ⟨hx, hb, hown, hts, hK, hN, hA, hlk, hfr, hlo⟩ := X
  intro H locs arr hP hD hS hL
  exact lv_if_eq hx hb hd ht (fun q => kt ((zI_eq (b := 0) ha (⟨by decide, by decide⟩ : rg 0)).mp q) H locs arr hP hD hS hL) (fun q => kf (fun z => q ((zI_eq (b := 0) ha (⟨by decide, by decide⟩ : rg 0)).mpr z)) H locs arr hP hD hS hL)
theorem j_icmp_ne (X : Okk κ cc own fr) {a b : Int} {off : Int} {tgt : Nat} (hd : decode cc pc = .ok (.if_icmp .ne off, 3)) (ht : (pc : Int) + off = (tgt : Int)) (ha : rg a) (hb2 : rg b) (kt : a ≠ b → J κ lay ad cn sn tgt ls st w) (kf : ¬ a ≠ b → J κ lay ad cn sn (pc + 3) ls st w) : J κ lay ad cn sn pc ls (vI b :: vI a :: st) w := by
  obtain ⟨p, l, e, R, s, m, args, below, meth, c, D, cI, cZ, A, Q⟩ := κ
  obtain ⟨hx, hb, hown, hts, hK, hN, hA, hlk, hfr, hlo⟩ := X
  intro H locs arr hP hD hS hL
  exact lv_icmp_ne hx hb hd ht (fun q => kt (fun z => q ((zI_eq ha hb2).mpr z)) H locs arr hP hD hS hL) (fun q => kf (fun z => z ((zI_eq ha hb2).mp q)) H locs arr hP hD hS hL)
theorem j_if_ne (X : Okk κ cc own fr) {a : Int} {off : Int} {tgt : Nat} (hd : decode cc pc = .ok (.ifCond .ne off, 3)) (ht : (pc : Int) + off = (tgt : Int)) (ha : rg a) (kt : a ≠ (0 : Int) → J κ lay ad cn sn tgt ls st w) (kf : ¬ a ≠ (0 : Int) → J κ lay ad cn sn (pc + 3) ls st w) : J κ lay ad cn sn pc ls (vI a :: st) w := by
  obtain ⟨p, l, e, R, s, m, args, below, meth, c, D, cI, cZ, A, Q⟩ := κ
  obtain ⟨hx, hb, hown, hts, hK, hN, hA, hlk, hfr, hlo⟩ := X
  intro H locs arr hP hD hS hL
  exact lv_if_ne hx hb hd ht (fun q => kt (fun z => q ((zI_eq (b := 0) ha (⟨by decide, by decide⟩ : rg 0)).mpr z)) H locs arr hP hD hS hL) (fun q => kf (fun z => z ((zI_eq (b := 0) ha (⟨by decide, by decide⟩ : rg 0)).mp q)) H locs arr hP hD hS hL)
theorem j_icmp_lt (X : Okk κ cc own fr) {a b : Int} {off : Int} {tgt : Nat} (hd : decode cc pc = .ok (.if_icmp .lt off, 3)) (ht : (pc : Int) + off = (tgt : Int)) (ha : rg a) (hb2 : rg b) (kt : a < b → J κ lay ad cn sn tgt ls st w) (kf : ¬ a < b → J κ lay ad cn sn (pc + 3) ls st w) : J κ lay ad cn sn pc ls (vI b :: vI a :: st) w := by
  obtain ⟨p, l, e, R, s, m, args, below, meth, c, D, cI, cZ, A, Q⟩ := κ
  obtain ⟨hx, hb, hown, hts, hK, hN, hA, hlk, hfr, hlo⟩ := X
  intro H locs arr hP hD hS hL
  exact lv_icmp_lt hx hb hd ht (fun q => kt ((zI_lt ha hb2).mp q) H locs arr hP hD hS hL) (fun q => kf (fun z => q ((zI_lt ha hb2).mpr z)) H locs arr hP hD hS hL)
theorem j_if_lt (X : Okk κ cc own fr) {a : Int} {off : Int} {tgt : Nat} (hd : decode cc pc = .ok (.ifCond .lt off, 3)) (ht : (pc : Int) + off = (tgt : Int)) (ha : rg a) (kt : a < (0 : Int) → J κ lay ad cn sn tgt ls st w) (kf : ¬ a < (0 : Int) → J κ lay ad cn sn (pc + 3) ls st w) : J κ lay ad cn sn pc ls (vI a :: st) w := by
  obtain ⟨p, l, e, R, s, m, args, below, meth, c, D, cI, cZ, A, Q⟩ := κ
  obtain ⟨hx, hb, hown, hts, hK, hN, hA, hlk, hfr, hlo⟩ := X
  intro H locs arr hP hD hS hL
  exact lv_if_lt hx hb hd ht (fun q => kt ((zI_lt (b := 0) ha (⟨by decide, by decide⟩ : rg 0)).mp q) H locs arr hP hD hS hL) (fun q => kf (fun z => q ((zI_lt (b := 0) ha (⟨by decide, by decide⟩ : rg 0)).mpr z)) H locs arr hP hD hS hL)
theorem j_icmp_ge (X : Okk κ cc own fr) {a b : Int} {off : Int} {tgt : Nat} (hd : decode cc pc = .ok (.if_icmp .ge off, 3)) (ht : (pc : Int) + off = (tgt : Int)) (ha : rg a) (hb2 : rg b) (kt : a ≥ b → J κ lay ad cn sn tgt ls st w) (kf : ¬ a ≥ b → J κ lay ad cn sn (pc + 3) ls st w) : J κ lay ad cn sn pc ls (vI b :: vI a :: st) w := by
  obtain ⟨p, l, e, R, s, m, args, below, meth, c, D, cI, cZ, A, Q⟩ := κ
  obtain ⟨hx, hb, hown, hts, hK, hN, hA, hlk, hfr, hlo⟩ := X
  intro H locs arr hP hD hS hL
  exact lv_icmp_ge hx hb hd ht (fun q => kt ((zI_le hb2 ha).mp q) H locs arr hP hD hS hL) (fun q => kf (fun z => q ((zI_le hb2 ha).mpr z)) H locs arr hP hD hS hL)
theorem j_if_ge (X : Okk κ cc own fr) {a : Int} {off : Int} {tgt : Nat} (hd : decode cc pc = .ok (.ifCond .ge off, 3)) (ht : (pc : Int) + off = (tgt : Int)) (ha : rg a) (kt : a ≥ (0 : Int) → J κ lay ad cn sn tgt ls st w) (kf : ¬ a ≥ (0 : Int) → J κ lay ad cn sn (pc + 3) ls st w) : J κ lay ad cn sn pc ls (vI a :: st) w := by
  obtain ⟨p, l, e, R, s, m, args, below, meth, c, D, cI, cZ, A, Q⟩ := κ
  obtain ⟨hx, hb, hown, hts, hK, hN, hA, hlk, hfr, hlo⟩ := X
  intro H locs arr hP hD hS hL
  exact lv_if_ge hx hb hd ht (fun q => kt ((zI_le (a := 0) (⟨by decide, by decide⟩ : rg 0) ha).mp q) H locs arr hP hD hS hL) (fun q => kf (fun z => q ((zI_le (a := 0) (⟨by decide, by decide⟩ : rg 0) ha).mpr z)) H locs arr hP hD hS hL)
theorem j_icmp_gt (X : Okk κ cc own fr) {a b : Int} {off : Int} {tgt : Nat} (hd : decode cc pc = .ok (.if_icmp .gt off, 3)) (ht : (pc : Int) + off = (tgt : Int)) (ha : rg a) (hb2 : rg b) (kt : a > b → J κ lay ad cn sn tgt ls st w) (kf : ¬ a > b → J κ lay ad cn sn (pc + 3) ls st w) : J κ lay ad cn sn pc ls (vI b :: vI a :: st) w := by
  obtain ⟨p, l, e, R, s, m, args, below, meth, c, D, cI, cZ, A, Q⟩ := κ
  obtain ⟨hx, hb, hown, hts, hK, hN, hA, hlk, hfr, hlo⟩ := X
  intro H locs arr hP hD hS hL
  exact lv_icmp_gt hx hb hd ht (fun q => kt ((zI_lt hb2 ha).mp q) H locs arr hP hD hS hL) (fun q => kf (fun z => q ((zI_lt hb2 ha).mpr z)) H locs arr hP hD hS hL)
theorem j_if_gt (X : Okk κ cc own fr) {a : Int} {off : Int} {tgt : Nat} (hd : decode cc pc = .ok (.ifCond .gt off, 3)) (ht : (pc : Int) + off = (tgt : Int)) (ha : rg a) (kt : a > (0 : Int) → J κ lay ad cn sn tgt ls st w) (kf : ¬ a > (0 : Int) → J κ lay ad cn sn (pc + 3) ls st w) : J κ lay ad cn sn pc ls (vI a :: st) w := by
  obtain ⟨p, l, e, R, s, m, args, below, meth, c, D, cI, cZ, A, Q⟩ := κ
  obtain ⟨hx, hb, hown, hts, hK, hN, hA, hlk, hfr, hlo⟩ := X
  intro H locs arr hP hD hS hL
  exact lv_if_gt hx hb hd ht (fun q => kt ((zI_lt (a := 0) (⟨by decide, by decide⟩ : rg 0) ha).mp q) H locs arr hP hD hS hL) (fun q => kf (fun z => q ((zI_lt (a := 0) (⟨by decide, by decide⟩ : rg 0) ha).mpr z)) H locs arr hP hD hS hL)
theorem j_icmp_le (X : Okk κ cc own fr) {a b : Int} {off : Int} {tgt : Nat} (hd : decode cc pc = .ok (.if_icmp .le off, 3)) (ht : (pc : Int) + off = (tgt : Int)) (ha : rg a) (hb2 : rg b) (kt : a ≤ b → J κ lay ad cn sn tgt ls st w) (kf : ¬ a ≤ b → J κ lay ad cn sn (pc + 3) ls st w) : J κ lay ad cn sn pc ls (vI b :: vI a :: st) w := by
  obtain ⟨p, l, e, R, s, m, args, below, meth, c, D, cI, cZ, A, Q⟩ := κ
  obtain ⟨hx, hb, hown, hts, hK, hN, hA, hlk, hfr, hlo⟩ := X
  intro H locs arr hP hD hS hL
  exact lv_icmp_le hx hb hd ht (fun q => kt ((zI_le ha hb2).mp q) H locs arr hP hD hS hL) (fun q => kf (fun z => q ((zI_le ha hb2).mpr z)) H locs arr hP hD hS hL)
theorem j_if_le (X : Okk κ cc own fr) {a : Int} {off : Int} {tgt : Nat} (hd : decode cc pc = .ok (.ifCond .le off, 3)) (ht : (pc : Int) + off = (tgt : Int)) (ha : rg a) (kt : a ≤ (0 : Int) → J κ lay ad cn sn tgt ls st w) (kf : ¬ a ≤ (0 : Int) → J κ lay ad cn sn (pc + 3) ls st w) : J κ lay ad cn sn pc ls (vI a :: st) w := by
  obtain ⟨p, l, e, R, s, m, args, below, meth, c, D, cI, cZ, A, Q⟩ := κ
  obtain ⟨hx, hb, hown, hts, hK, hN, hA, hlk, hfr, hlo⟩ := X
  intro H locs arr hP hD hS hL
  exact lv_if_le hx hb hd ht (fun q => kt ((zI_le (b := 0) ha (⟨by decide, by decide⟩ : rg 0)).mp q) H locs arr hP hD hS hL) (fun q => kf (fun z => q ((zI_le (b := 0) ha (⟨by decide, by decide⟩ : rg 0)).mpr z)) H locs arr hP hD hS hL)
theorem j_goto (X : Okk κ cc own fr) {off : Int} {tgt : Nat} (hd : decode cc pc = .ok (.goto off, 3)) (ht : (pc : Int) + off = (tgt : Int)) (k : J κ lay ad cn sn tgt ls st w) : J κ lay ad cn sn pc ls st w := by
  obtain ⟨p, l, e, R, s, m, args, below, meth, c, D, cI, cZ, A, Q⟩ := κ
  obtain ⟨hx, hb, hown, hts, hK, hN, hA, hlk, hfr, hlo⟩ := X
  intro H locs arr hP hD hS hL
  exact lv_goto hx hb hd ht (k H locs arr hP hD hS hL)
theorem j_ifnonnull (X : Okk κ cc own fr) {a : Nat} {off : Int} {tgt : Nat} (hd : decode cc pc = .ok (.ifnonnull off, 3)) (ht : (pc : Int) + off = (tgt : Int)) (k : J κ lay ad cn sn tgt ls st w) : J κ lay ad cn sn pc ls (vR a :: st) w := by
  obtain ⟨p, l, e, R, s, m, args, below, meth, c, D, cI, cZ, A, Q⟩ := κ
  obtain ⟨hx, hb, hown, hts, hK, hN, hA, hlk, hfr, hlo⟩ := X
  intro H locs arr hP hD hS hL
  exact lv_ifnonnull hx hb hd ht (k H locs arr hP hD hS hL)
theorem j_ifnonnull_n (X : Okk κ cc own fr) {off : Int} (hd : decode cc pc = .ok (.ifnonnull off, 3)) (k : J κ lay ad cn sn (pc + 3) ls st w) : J κ lay ad cn sn pc ls (vN :: st) w := by
  obtain ⟨p, l, e, R, s, m, args, below, meth, c, D, cI, cZ, A, Q⟩ := κ
  obtain ⟨hx, hb, hown, hts, hK, hN, hA, hlk, hfr, hlo⟩ := X
  intro H locs arr hP hD hS hL
  exact lv_ifnonnullN hx hb hd (k H locs arr hP hD hS hL)
theorem j_ifnull (X : Okk κ cc own fr) {a : Nat} {off : Int} (hd : decode cc pc = .ok (.ifnull off, 3)) (k : J κ lay ad cn sn (pc + 3) ls st w) : J κ lay ad cn sn pc ls (vR a :: st) w := by
  obtain ⟨p, l, e, R, s, m, args, below, meth, c, D, cI, cZ, A, Q⟩ := κ
  obtain ⟨hx, hb, hown, hts, hK, hN, hA, hlk, hfr, hlo⟩ := X
  intro H locs arr hP hD hS hL
  exact lv_ifnull hx hb hd (k H locs arr hP hD hS hL)
theorem j_tabIn (X : Okk κ cc own fr) {dflt lo hi : Int} {offs : Array Int} {len : Nat} {a off : Int} {tgt : Nat} (hd : decode cc pc = .ok (.tableswitch dflt lo hi offs, len)) (ha : rg a) (h1 : lo ≤ a) (h2 : a ≤ hi) (ho : offs[(a - lo).toNat]? = some off) (ht : (pc : Int) + off = (tgt : Int)) (k : J κ lay ad cn sn tgt ls st w) : J κ lay ad cn sn pc ls (vI a :: st) w := by
  obtain ⟨p, l, e, R, s, m, args, below, meth, c, D, cI, cZ, A, Q⟩ := κ
  obtain ⟨hx, hb, hown, hts, hK, hN, hA, hlk, hfr, hlo⟩ := X
  intro H locs arr hP hD hS hL
  exact lv_tableIn (x := zI a) hx hb hd (by rw [zI_toInt ha]; omega) (by rw [zI_toInt ha]; omega) (by rw [zI_toInt ha]; exact ho) ht (k H locs arr hP hD hS hL)
theorem j_tabOut (X : Okk κ cc own fr) {dflt lo hi : Int} {offs : Array Int} {len : Nat} {a : Int} {tgt : Nat} (hd : decode cc pc = .ok (.tableswitch dflt lo hi offs, len)) (ha : rg a) (h : a < lo ∨ hi < a) (ht : (pc : Int) + dflt = (tgt : Int)) (k : J κ lay ad cn sn tgt ls st w) : J κ lay ad cn sn pc ls (vI a :: st) w := by
  obtain ⟨p, l, e, R, s, m, args, below, meth, c, D, cI, cZ, A, Q⟩ := κ
  obtain ⟨hx, hb, hown, hts, hK, hN, hA, hlk, hfr, hlo⟩ := X
  intro H locs arr hP hD hS hL
  exact lv_tableOut (x := zI a) hx hb hd (by rw [zI_toInt ha]; exact h) ht (k H locs arr hP hD hS hL)
theorem j_ldc (X : Okk κ cc own fr) {i : Nat} {a : Int} (hd : decode cc pc = .ok (.ldc i, 2)) (hc : Cond.constant own i (zI a) ∈ TB) (k : J κ lay ad cn sn (pc + 2) ls (vI a :: st) w) : J κ lay ad cn sn pc ls st w := by
  obtain ⟨p, l, e, R, s, m, args, below, meth, c, D, cI, cZ, A, Q⟩ := κ
  obtain ⟨hx, hb, hown, hts, hK, hN, hA, hlk, hfr, hlo⟩ := X
  intro H locs arr hP hD hS hL
  exact lv_ldc hx hb hown (hts _ hc) hd (k H locs arr hP hD hS hL)
theorem j_ldc2 (X : Okk κ cc own fr) {i : Nat} {a : Int} (hd : decode cc pc = .ok (.ldc2_w i, 3)) (hc : Cond.constantLong own i (zL a) ∈ TB) (k : J κ lay ad cn sn (pc + 3) ls (vL a :: st) w) : J κ lay ad cn sn pc ls st w := by
  obtain ⟨p, l, e, R, s, m, args, below, meth, c, D, cI, cZ, A, Q⟩ := κ
  obtain ⟨hx, hb, hown, hts, hK, hN, hA, hlk, hfr, hlo⟩ := X
  intro H locs arr hP hD hS hL
  exact lv_ldc2 hx hb hown (hts _ hc) hd (k H locs arr hP hD hS hL)
theorem j_lcmp (X : Okk κ cc own fr) {a b : Int} (hd : decode cc pc = .ok (.lcmp, 1)) (ha : rg a) (hb2 : rg b) (k : J κ lay ad cn sn (pc + 1) ls (vI (if a < b then -1 else if a = b then 0 else 1) :: st) w) : J κ lay ad cn sn pc ls (vL b :: vL a :: st) w := by
  obtain ⟨p, l, e, R, s, m, args, below, meth, c, D, cI, cZ, A, Q⟩ := κ
  obtain ⟨hx, hb, hown, hts, hK, hN, hA, hlk, hfr, hlo⟩ := X
  intro H locs arr hP hD hS hL
  refine W.lcmp (x := zL a) (y := zL b) hx hb hd ?_
  have e : lg_cmp (zL a) (zL b) = zI (if a < b then -1 else if a = b then 0 else 1) := by
    unfold lg_cmp
    have h1 : (zL a > zL b) ↔ b < a := by show zL b < zL a ↔ _; rw [Int64.lt_iff_toInt_lt, zL_toInt ha, zL_toInt hb2]
    have h2 : (zL a = zL b) ↔ a = b := by rw [← Int64.toInt_inj, zL_toInt ha, zL_toInt hb2]
    by_cases q1 : b < a
    · rw [if_pos (h1.mpr q1), if_neg (by omega), if_neg (by omega)]; rfl
    · rw [if_neg (fun z => q1 (h1.mp z))]
      by_cases q2 : a = b
      · rw [if_pos (h2.mpr q2), if_neg (by omega), if_pos q2]; rfl
      · rw [if_neg (fun z => q2 (h2.mp z)), if_pos (by omega)]; rfl
  rw [e]
  exact k H locs arr hP hD hS hL
end JROWS
end
section
/-! ===== the light judgement: fields, arrays, ends, calls ===== -/
def FL (own : String) (idx : Nat) (C : String) (T : u_T) (N j : Nat) : Prop := j < N ∧ (∀ w ∈ u_ws C T N, w ∈ TB) ∧ (Cond.fieldLink own idx (T j).1 (T j).2.1 (T j).2.2.1 ∈ TB ∨ ∃ host, Cond.fieldLinkNest own idx (T j).1 (T j).2.1 (T j).2.2.1 host ∈ nestW)
def FF (own : String) (idx ci j : Nat) : Prop := ∃ (C : String) (T : u_T) (N : Nat), vwCl[ci]? = some (C, T, N) ∧ FL own idx C T N j
def FP (own : String) (idx ci j : Nat) (ty : FieldType) (fin : Bool) : Prop := ∃ (C : String) (T : u_T) (N : Nat) (ty0 : Nat → FieldType), vwCl[ci]? = some (C, T, N) ∧ FL own idx C T N j ∧ (∀ k, k < N → parseFieldDescriptor (T k).2.2.1 = some (ty0 k)) ∧ (∀ a, a < N → ∀ b, b < N → a ≠ b → (T a).2.1 ≠ (T b).2.1) ∧ (T j).2.2.2 = fin ∧ parseFieldDescriptor (T j).2.2.1 = some ty ∧ (fin = true → (T j).1 = own)
section JROWS2
variable {κ : KT} {cc : ByteArray} {own : String} {fr : Nat} {lay : lyT} {ad : Nat → Nat} {cn sn pc : Nat} {ls : List (Option av)} {st : List av} {w : wd}
theorem zb_nar {a : Int} (h : a = 0 ∨ a = 1) : narrow .boolean (.int (zI a)) = .int (zI a) := by
  rcases h with rfl | rfl <;> rfl
theorem zb_fit {a : Int} (h : a = 0 ∨ a = 1) : fits .boolean (.int (zI a)) = true := by
  rcases h with rfl | rfl <;> rfl
theorem zb_vp {a : Int} (h : a = 0 ∨ a = 1) : vp_nar .boolean (zI a) = zI a := by
  rcases h with rfl | rfl <;> rfl
theorem j_getI (X : Okk κ cc own fr) {idx o ci j : Nat} {fs : List (Option (Option Nat))} (hd : decode cc pc = .ok (.getfield idx, 3)) (hf : FF own idx ci j) (hl : lay[o]? = some (.inl (ci, fs))) (hj : fs[j]? = some (none)) (k : J κ lay ad cn sn (pc + 3) ls (vI (w o j) :: st) w) : J κ lay ad cn sn pc ls (vR o :: st) w := by
  obtain ⟨p, l, e, R, s, m, args, below, meth, c, D, cI, cZ, A, Q⟩ := κ
  obtain ⟨hx, hb, hown, hts, hK, hN, hA, hlk, hfr, hlo⟩ := X
  intro H locs arr hP hD hS hL
  obtain ⟨C, T, N, hc, hjN, hin, hl1 | ⟨host, hl1⟩⟩ := hf
  · exact va_get hx hb hts hin hown hK hP o (cells_at hl) hc j hjN (hts _ hl1) (fun _ q => q) (by rw [List.getElem?_mapIdx, hj]; rfl) hd (k H locs arr hP hD hS hL)
  · exact va_getN hx hb hts hin hown hK hP o (cells_at hl) hc j hjN (va_Nw.use (nest_tab (nestW_is _ hl1)) (hN _ hl1)) (fun _ q => q) (by rw [List.getElem?_mapIdx, hj]; rfl) hd (k H locs arr hP hD hS hL)
theorem j_getR (X : Okk κ cc own fr) {idx o ci j : Nat} {fs : List (Option (Option Nat))} {r : Nat} (hd : decode cc pc = .ok (.getfield idx, 3)) (hf : FF own idx ci j) (hl : lay[o]? = some (.inl (ci, fs))) (hj : fs[j]? = some (some (some r))) (k : J κ lay ad cn sn (pc + 3) ls (vR r :: st) w) : J κ lay ad cn sn pc ls (vR o :: st) w := by
  obtain ⟨p, l, e, R, s, m, args, below, meth, c, D, cI, cZ, A, Q⟩ := κ
  obtain ⟨hx, hb, hown, hts, hK, hN, hA, hlk, hfr, hlo⟩ := X
  intro H locs arr hP hD hS hL
  obtain ⟨C, T, N, hc, hjN, hin, hl1 | ⟨host, hl1⟩⟩ := hf
  · exact va_get hx hb hts hin hown hK hP o (cells_at hl) hc j hjN (hts _ hl1) (fun _ q => q) (by rw [List.getElem?_mapIdx, hj]; rfl) hd (k H locs arr hP hD hS hL)
  · exact va_getN hx hb hts hin hown hK hP o (cells_at hl) hc j hjN (va_Nw.use (nest_tab (nestW_is _ hl1)) (hN _ hl1)) (fun _ q => q) (by rw [List.getElem?_mapIdx, hj]; rfl) hd (k H locs arr hP hD hS hL)
theorem j_getN (X : Okk κ cc own fr) {idx o ci j : Nat} {fs : List (Option (Option Nat))} (hd : decode cc pc = .ok (.getfield idx, 3)) (hf : FF own idx ci j) (hl : lay[o]? = some (.inl (ci, fs))) (hj : fs[j]? = some (some none)) (k : J κ lay ad cn sn (pc + 3) ls (vN :: st) w) : J κ lay ad cn sn pc ls (vR o :: st) w := by
  obtain ⟨p, l, e, R, s, m, args, below, meth, c, D, cI, cZ, A, Q⟩ := κ
  obtain ⟨hx, hb, hown, hts, hK, hN, hA, hlk, hfr, hlo⟩ := X
  intro H locs arr hP hD hS hL
  obtain ⟨C, T, N, hc, hjN, hin, hl1 | ⟨host, hl1⟩⟩ := hf
  · exact va_get hx hb hts hin hown hK hP o (cells_at hl) hc j hjN (hts _ hl1) (fun _ q => q) (by rw [List.getElem?_mapIdx, hj]; rfl) hd (k H locs arr hP hD hS hL)
  · exact va_getN hx hb hts hin hown hK hP o (cells_at hl) hc j hjN (va_Nw.use (nest_tab (nestW_is _ hl1)) (hN _ hl1)) (fun _ q => q) (by rw [List.getElem?_mapIdx, hj]; rfl) hd (k H locs arr hP hD hS hL)
theorem j_putI (X : Okk κ cc own fr) {idx o ci j : Nat} {a : Int} {fs : List (Option (Option Nat))} (hd : decode cc pc = .ok (.putfield idx, 3)) (hf : FP own idx ci j .int false) (hl : lay[o]? = some (.inl (ci, fs))) (hj : fs[j]? = some none) (k : J κ lay ad cn sn (pc + 3) ls st (wst w o j a)) : J κ lay ad cn sn pc ls (vI a :: vR o :: st) w := by
  obtain ⟨p, l, e, R, s, m, args, below, meth, c, D, cI, cZ, A, Q⟩ := κ
  obtain ⟨hx, hb, hown, hts, hK, hN, hA, hlk, hfr, hlo⟩ := X
  intro H locs arr hP hD hS hL
  obtain ⟨C, T, N, ty0, hc, ⟨hjN, hin, hl1 | ⟨host, hl1⟩⟩, hty, hnm, hfin, hpd, -⟩ := hf
  · refine va_put hx hb hts hin ty0 hty hnm hown hK hP hD hS o (cells_at hl) hc j hjN (hts _ hl1) (fun _ q => q) hfin hpd rfl rfl (by rw [List.length_mapIdx]; exact (List.getElem?_eq_some_iff.mp hj).1) hd (fun H1 locs1 hP1 hD1 hS1 => ?_)
    have e1 := cel_put (ad := ad) (cI := cI) (cZ := cZ) (f := w o) (ci := ci) (a := a) hj
    have e2 := cells_set (ad := ad) (cI := cI) (cZ := cZ) (w := w) (j := j) (a := a) hl
    rw [e1] at e2
    exact k H1 locs1 arr (by rw [e2]; exact hP1) (by rw [e2]; exact hD1) hS1 hL
  · refine va_putN hx hb hts hin ty0 hty hnm hown hK hP hD hS o (cells_at hl) hc j hjN (va_Nw.use (nest_tab (nestW_is _ hl1)) (hN _ hl1)) (fun _ q => q) hfin hpd rfl rfl (by rw [List.length_mapIdx]; exact (List.getElem?_eq_some_iff.mp hj).1) hd (fun H1 locs1 hP1 hD1 hS1 => ?_)
    have e1 := cel_put (ad := ad) (cI := cI) (cZ := cZ) (f := w o) (ci := ci) (a := a) hj
    have e2 := cells_set (ad := ad) (cI := cI) (cZ := cZ) (w := w) (j := j) (a := a) hl
    rw [e1] at e2
    exact k H1 locs1 arr (by rw [e2]; exact hP1) (by rw [e2]; exact hD1) hS1 hL
theorem j_putZ (X : Okk κ cc own fr) {idx o ci j : Nat} {a : Int} {fs : List (Option (Option Nat))} (hd : decode cc pc = .ok (.putfield idx, 3)) (hf : FP own idx ci j .boolean false) (hl : lay[o]? = some (.inl (ci, fs))) (hj : fs[j]? = some none) (hz : a = 0 ∨ a = 1) (k : J κ lay ad cn sn (pc + 3) ls st (wst w o j a)) : J κ lay ad cn sn pc ls (vI a :: vR o :: st) w := by
  obtain ⟨p, l, e, R, s, m, args, below, meth, c, D, cI, cZ, A, Q⟩ := κ
  obtain ⟨hx, hb, hown, hts, hK, hN, hA, hlk, hfr, hlo⟩ := X
  intro H locs arr hP hD hS hL
  obtain ⟨C, T, N, ty0, hc, ⟨hjN, hin, hl1 | ⟨host, hl1⟩⟩, hty, hnm, hfin, hpd, -⟩ := hf
  · refine va_put hx hb hts hin ty0 hty hnm hown hK hP hD hS o (cells_at hl) hc j hjN (hts _ hl1) (fun _ q => q) hfin hpd (zb_nar hz) (zb_fit hz) (by rw [List.length_mapIdx]; exact (List.getElem?_eq_some_iff.mp hj).1) hd (fun H1 locs1 hP1 hD1 hS1 => ?_)
    have e1 := cel_put (ad := ad) (cI := cI) (cZ := cZ) (f := w o) (ci := ci) (a := a) hj
    have e2 := cells_set (ad := ad) (cI := cI) (cZ := cZ) (w := w) (j := j) (a := a) hl
    rw [e1] at e2
    exact k H1 locs1 arr (by rw [e2]; exact hP1) (by rw [e2]; exact hD1) hS1 hL
  · refine va_putN hx hb hts hin ty0 hty hnm hown hK hP hD hS o (cells_at hl) hc j hjN (va_Nw.use (nest_tab (nestW_is _ hl1)) (hN _ hl1)) (fun _ q => q) hfin hpd (zb_nar hz) (zb_fit hz) (by rw [List.length_mapIdx]; exact (List.getElem?_eq_some_iff.mp hj).1) hd (fun H1 locs1 hP1 hD1 hS1 => ?_)
    have e1 := cel_put (ad := ad) (cI := cI) (cZ := cZ) (f := w o) (ci := ci) (a := a) hj
    have e2 := cells_set (ad := ad) (cI := cI) (cZ := cZ) (w := w) (j := j) (a := a) hl
    rw [e1] at e2
    exact k H1 locs1 arr (by rw [e2]; exact hP1) (by rw [e2]; exact hD1) hS1 hL
theorem j_iald (X : Okk κ cc own fr) {o n : Nat} {i : Int} (hd : decode cc pc = .ok (.iaload, 1)) (hl : lay[o]? = some (.inr (false, n))) (h0 : 0 ≤ i) (h1 : i < n) (hn : n < 2147483648) (k : J κ lay ad cn sn (pc + 1) ls (vI (w o i.toNat) :: st) w) : J κ lay ad cn sn pc ls (vI i :: vR o :: st) w := by
  obtain ⟨p, l, e, R, s, m, args, below, meth, c, D, cI, cZ, A, Q⟩ := κ
  obtain ⟨hx, hb, hown, hts, hK, hN, hA, hlk, hfr, hlo⟩ := X
  intro H locs arr hP hD hS hL
  refine va_iald hx hb hK hP o 0 (cells_at hl) rfl (zI_in h0 h1 hn) hd ?_
  rw [zI_cl h0 (by omega)]
  exact k H locs arr hP hD hS hL
theorem j_zald (X : Okk κ cc own fr) {o n : Nat} {i : Int} (hd : decode cc pc = .ok (.baload, 1)) (hl : lay[o]? = some (.inr (true, n))) (h0 : 0 ≤ i) (h1 : i < n) (hn : n < 2147483648) (k : J κ lay ad cn sn (pc + 1) ls (vI (w o i.toNat) :: st) w) : J κ lay ad cn sn pc ls (vI i :: vR o :: st) w := by
  obtain ⟨p, l, e, R, s, m, args, below, meth, c, D, cI, cZ, A, Q⟩ := κ
  obtain ⟨hx, hb, hown, hts, hK, hN, hA, hlk, hfr, hlo⟩ := X
  intro H locs arr hP hD hS hL
  refine va_zald hx hb hK hP o 1 (cells_at hl) rfl (zI_in h0 h1 hn) hd ?_
  rw [zI_cl h0 (by omega)]
  exact k H locs arr hP hD hS hL
theorem j_iast (X : Okk κ cc own fr) {o n : Nat} {i a : Int} (hd : decode cc pc = .ok (.iastore, 1)) (hl : lay[o]? = some (.inr (false, n))) (h0 : 0 ≤ i) (h1 : i < n) (hn : n < 2147483648) (k : J κ lay ad cn sn (pc + 1) ls st (wst w o i.toNat a)) : J κ lay ad cn sn pc ls (vI a :: vI i :: vR o :: st) w := by
  obtain ⟨p, l, e, R, s, m, args, below, meth, c, D, cI, cZ, A, Q⟩ := κ
  obtain ⟨hx, hb, hown, hts, hK, hN, hA, hlk, hfr, hlo⟩ := X
  intro H locs arr hP hD hS hL
  refine va_iast hx hb hK hP hD hS o 0 (cells_at hl) rfl (zI_in h0 h1 hn) hd (fun H1 locs1 hP1 hD1 hS1 => ?_)
  rw [zI_cl h0 (by omega)] at hP1 hD1
  have e := cel_ast (ad := ad) (cI := cI) (cZ := cZ) (f := w o) (b := false) (n := n) (j := i.toNat) (a := a)
  have e2 := cells_set (ad := ad) (cI := cI) (cZ := cZ) (w := w) (j := i.toNat) (a := a) hl
  rw [e] at e2
  exact k H1 locs1 arr (by rw [e2]; exact hP1) (by rw [e2]; exact hD1) hS1 hL
theorem j_zast (X : Okk κ cc own fr) {o n : Nat} {i a : Int} (hd : decode cc pc = .ok (.bastore, 1)) (hl : lay[o]? = some (.inr (true, n))) (h0 : 0 ≤ i) (h1 : i < n) (hn : n < 2147483648) (hz : a = 0 ∨ a = 1) (k : J κ lay ad cn sn (pc + 1) ls st (wst w o i.toNat a)) : J κ lay ad cn sn pc ls (vI a :: vI i :: vR o :: st) w := by
  obtain ⟨p, l, e, R, s, m, args, below, meth, c, D, cI, cZ, A, Q⟩ := κ
  obtain ⟨hx, hb, hown, hts, hK, hN, hA, hlk, hfr, hlo⟩ := X
  intro H locs arr hP hD hS hL
  refine va_zast hx hb hK hP hD hS o 1 (cells_at hl) rfl (zI_in h0 h1 hn) hd (fun H1 locs1 hP1 hD1 hS1 => ?_)
  rw [zb_vp hz] at hP1 hD1
  rw [zI_cl h0 (by omega)] at hP1 hD1
  have e := cel_ast (ad := ad) (cI := cI) (cZ := cZ) (f := w o) (b := true) (n := n) (j := i.toNat) (a := a)
  have e2 := cells_set (ad := ad) (cI := cI) (cZ := cZ) (w := w) (j := i.toNat) (a := a) hl
  rw [e] at e2
  exact k H1 locs1 arr (by rw [e2]; exact hP1) (by rw [e2]; exact hD1) hS1 hL
theorem j_alen (X : Okk κ cc own fr) {o n : Nat} {b : Bool} (hd : decode cc pc = .ok (.arraylength, 1)) (hl : lay[o]? = some (.inr (b, n))) (k : J κ lay ad cn sn (pc + 1) ls (vI (n : Int) :: st) w) : J κ lay ad cn sn pc ls (vR o :: st) w := by
  obtain ⟨p, l, e, R, s, m, args, below, meth, c, D, cI, cZ, A, Q⟩ := κ
  obtain ⟨hx, hb, hown, hts, hK, hN, hA, hlk, hfr, hlo⟩ := X
  intro H locs arr hP hD hS hL
  cases b
  · exact va_alen (v := zI (n : Int)) hx hb hK hP o 0 (cells_at hl) rfl Int32.ofInt_eq_ofNat.symm hd (k H locs arr hP hD hS hL)
  · exact va_alen (v := zI (n : Int)) hx hb hK hP o 1 (cells_at hl) rfl Int32.ofInt_eq_ofNat.symm hd (k H locs arr hP hD hS hL)
def bW (D : va_G) (cI cZ : ClassId) (lay : lyT) (ad : Nat → Nat) (A : Nat → Prop) (u : wd) (t : State) : Prop := va_P D vwCl (cells lay ad cI cZ u) t.heap ∧ va_K D vwCl [(cI, .int), (cZ, .boolean)] t ∧ va_D A (cells lay ad cI cZ u)
def QI (D : va_G) (cI cZ : ClassId) (lay : lyT) (ad : Nat → Nat) (A : Nat → Prop) (P : Int → wd → Prop) : Array Value → State → Outcome → State → Prop := va_Qi (fun r u => ∃ a, r = zI a ∧ P a u) (bW D cI cZ lay ad A) A
def QV (D : va_G) (cI cZ : ClassId) (lay : lyT) (ad : Nat → Nat) (A : Nat → Prop) (P : wd → Prop) : Array Value → State → Outcome → State → Prop := va_Qv P (bW D cI cZ lay ad A) A
def ReI (κ : KT) (lay : lyT) (ad : Nat → Nat) (ty : FieldType) (P : Int → wd → Prop) : Prop := match κ with
  | (p, l, e, R, s, m, args, below, meth, c, D, cI, cZ, A, Q) => meth.sig.returnType = some ty ∧ Q = MQ below (QI D cI cZ lay ad A P) args s 0 0 A
def ReV (κ : KT) (lay : lyT) (ad : Nat → Nat) (P : wd → Prop) : Prop := match κ with
  | (p, l, e, R, s, m, args, below, meth, c, D, cI, cZ, A, Q) => meth.sig.returnType = none ∧ Q = MQ below (QV D cI cZ lay ad A P) args s 0 0 A
theorem j_ireturn (X : Okk κ cc own fr) {a : Int} {P : Int → wd → Prop} (hR : ReI κ lay ad .int P) (hd : decode cc pc = .ok (.ireturn, 1)) (hp : P a w) : J κ lay ad 0 0 pc ls [vI a] w := by
  obtain ⟨p, l, e, R, s, m, args, below, meth, c, D, cI, cZ, A, Q⟩ := κ
  obtain ⟨hx, hb, hown, hts, hK, hN, hA, hlk, hfr, hlo⟩ := X
  intro H locs arr hP hD hS hL
  obtain ⟨hr, rfl⟩ := hR
  exact W.iret hx hb hr (fun t ht hW => ⟨⟨zI a, w, rfl, ⟨a, rfl, hp⟩, by rw [ht]; exact hP, va_K.moved hW.alike hK, hD⟩, hS.F ht⟩) hS.2.2 hd hlk
theorem j_zreturn (X : Okk κ cc own fr) {a : Int} {P : Int → wd → Prop} (hR : ReI κ lay ad .boolean P) (hd : decode cc pc = .ok (.ireturn, 1)) (hz : a = 0 ∨ a = 1) (hp : P a w) : J κ lay ad 0 0 pc ls [vI a] w := by
  obtain ⟨p, l, e, R, s, m, args, below, meth, c, D, cI, cZ, A, Q⟩ := κ
  obtain ⟨hx, hb, hown, hts, hK, hN, hA, hlk, hfr, hlo⟩ := X
  intro H locs arr hP hD hS hL
  obtain ⟨hr, rfl⟩ := hR
  exact W.zret hx hb hr (zb_nar hz) (fun t ht hW => ⟨⟨zI a, w, rfl, ⟨a, rfl, hp⟩, by rw [ht]; exact hP, va_K.moved hW.alike hK, hD⟩, hS.F ht⟩) hS.2.2 hd hlk
theorem j_return (X : Okk κ cc own fr) {P : wd → Prop} (hR : ReV κ lay ad P) (hd : decode cc pc = .ok (.return_, 1)) (hp : P w) : J κ lay ad 0 0 pc ls [] w := by
  obtain ⟨p, l, e, R, s, m, args, below, meth, c, D, cI, cZ, A, Q⟩ := κ
  obtain ⟨hx, hb, hown, hts, hK, hN, hA, hlk, hfr, hlo⟩ := X
  intro H locs arr hP hD hS hL
  obtain ⟨hr, rfl⟩ := hR
  exact W.vret hx hb hr (fun t ht hW => ⟨⟨w, rfl, hp, by rw [ht]; exact hP, va_K.moved hW.alike hK, hD⟩, hS.F ht⟩) hS.2.2 hd hlk
end JROWS2
def rmD (d : Nat) : Room := { frames := d, cells := 0, slots := 0, locals := 40 * d }
def preW (D : va_G) (cI cZ : ClassId) (lay : lyT) (ad : Nat → Nat) (sz : Nat) (w : wd) (avs : List av) : Array Value → State → Prop := va_Pc (avs.map (cv ad)) (fun U => U.heap.size = sz ∧ va_P D vwCl (cells lay ad cI cZ w) U.heap ∧ va_K D vwCl [(cI, .int), (cZ, .boolean)] U ∧ va_D (fun _ => True) (cells lay ad cI cZ w) ∧ Nst U)
theorem preW_blind {D : va_G} {cI cZ : ClassId} {lay : lyT} {ad : Nat → Nat} {sz : Nat} {w : wd} {avs : List av} : FrameBlind (preW D cI cZ lay ad sz w avs) := fun a U g mk q => by
  obtain ⟨q0, q1, qP, qK, qD, qN⟩ := q
  exact ⟨q0, q1, qP, va_K.moved (u := U) (U := U.calling g mk a) (Vm.Alike.refl U.vm) qK, qD, Nst.same (s := U) (U := U.calling g mk a) rfl qN⟩
def wsY (y : MethodName) (cc : ByteArray) (nL : Nat) (rt : Option FieldType) : List Cond := Cond.code y cc nL rt :: TB
def CalI (y : MethodName) (cc : ByteArray) (nL : Nat) (ty : FieldType) (d : Nat) (lay : lyT) (w : wd) (avs : List av) (P : Int → wd → Prop) : Prop := ∀ (l : Launch) (D : va_G) (cI cZ : ClassId) (ad : Nat → Nat) (sz : Nat), Met l y (wsY y cc nL (some ty)) (rmD d) (preW D cI cZ lay ad sz w avs) (QI D cI cZ lay ad (va_A (cells lay ad cI cZ w) sz) P) 0 0 (va_A (cells lay ad cI cZ w) sz)
def CalV (y : MethodName) (cc : ByteArray) (nL : Nat) (d : Nat) (lay : lyT) (w : wd) (avs : List av) (P : wd → Prop) : Prop := ∀ (l : Launch) (D : va_G) (cI cZ : ClassId) (ad : Nat → Nat) (sz : Nat), Met l y (wsY y cc nL none) (rmD d) (preW D cI cZ lay ad sz w avs) (QV D cI cZ lay ad (va_A (cells lay ad cI cZ w) sz) P) 0 0 (va_A (cells lay ad cI cZ w) sz)
/-- the entry's locals -/
def ent (vs : List av) : List (Option av) := match vs with
  | [] => []
  | .inr (.inl a) :: r => some (vL a) :: none :: ent r
  | v :: r => some v :: ent r
theorem ent_arg {ad : Nat → Nat} : ∀ (vs : List av) (i k : Nat) (v : av), (ent vs)[k]? = some (some v) → (i + k, cv ad v) ∈ lv_args i (vs.map (cv ad))
  | [], i, k, v, h => by simp [ent] at h
  | .inl a :: r, i, k, v, h => by
    simp only [ent] at h
    simp only [List.map_cons, lv_args]
    rw [if_neg (by simp [cv, Value.category])]
    cases k with
    | zero => simp at h; subst h; exact List.mem_cons_self
    | succ k =>
      rw [List.getElem?_cons_succ] at h
      have := ent_arg (ad := ad) r (i + 1) k v h
      rw [show i + (k + 1) = i + 1 + k by omega]
      exact List.mem_cons_of_mem _ this
  | .inr (.inl a) :: r, i, k, v, h => by
    simp only [ent] at h
    simp only [List.map_cons, lv_args]
    rw [if_pos (by simp [cv, Value.category])]
    match k, h with
    | 0, h => simp at h; subst h; exact List.mem_cons_self
    | 1, h => simp at h
    | k + 2, h =>
      rw [List.getElem?_cons_succ, List.getElem?_cons_succ] at h
      have := ent_arg (ad := ad) r (i + 2) k v h
      rw [show i + (k + 2) = i + 2 + k by omega]
      exact List.mem_cons_of_mem _ this
  | .inr (.inr q) :: r, i, k, v, h => by
    simp only [ent] at h
    simp only [List.map_cons, lv_args]
    rw [if_neg (by cases q <;> simp [cv, va_rf, Value.category])]
    cases k with
    | zero => simp at h; subst h; exact List.mem_cons_self
    | succ k =>
      rw [List.getElem?_cons_succ] at h
      have := ent_arg (ad := ad) r (i + 1) k v h
      rw [show i + (k + 1) = i + 1 + k by omega]
      exact List.mem_cons_of_mem _ this
theorem ent_len {ad : Nat → Nat} : ∀ (vs : List av), (lg_sl (vs.map (cv ad))).length = (ent vs).length
  | [] => rfl
  | .inl a :: r => by
    have := ent_len (ad := ad) r
    simp [lg_sl, cv, Value.category, ent] at this ⊢
    omega
  | .inr (.inl a) :: r => by
    have := ent_len (ad := ad) r
    simp [lg_sl, cv, Value.category, ent] at this ⊢
    omega
  | .inr (.inr q) :: r => by
    have := ent_len (ad := ad) r
    cases q <;> (simp [lg_sl, cv, va_rf, Value.category, ent] at this ⊢; omega)
def entL (n : Nat) (vs : List av) : List (Option av) := ent vs ++ List.replicate (n - (ent vs).length) none
theorem entL_has {ad : Nat → Nat} {n : Nat} {vs : List av} (h : (ent vs).length ≤ n) : hasL ad ((lg_sl (vs.map (cv ad)) ++ List.replicate (n - (lg_sl (vs.map (cv ad))).length) Slot.unset).toArray) n (entL n vs) := by
  have hl := lv_entry (vs.map (cv ad)) (n := n) (by rw [ent_len]; exact h)
  refine ⟨hl.1, by simp [entL]; omega, hl.2.1, fun k v hk => ?_⟩
  have hk2 : (ent vs)[k]? = some (some v) := by
    rcases Nat.lt_or_ge k (ent vs).length with q | q
    · rw [entL, List.getElem?_append_left q] at hk
      exact hk
    · rw [entL, List.getElem?_append_right q, List.getElem?_replicate] at hk
      split at hk
      · cases hk
      · cases hk
  have := hl.2.2 _ (ent_arg (ad := ad) vs 0 k v hk2)
  simpa using this
theorem calI_intro {y : MethodName} {cc : ByteArray} {nL : Nat} {ty : FieldType} {d : Nat} {lay : lyT} {w : wd} {avs : List av} {P : Int → wd → Prop} (hy : plainName y.cls = true) (hlen : (ent avs).length ≤ nL) {ls : List (Option av)} (hls : entL nL avs = ls) (body : ∀ κ ad, Okk κ cc y.cls d → ReI κ lay ad ty P → J κ lay ad 0 0 0 ls [] w) : CalI y cc nL ty d lay w avs P := by
  intro l D cI cZ ad sz
  refine Met.ofW (cc := cc) (maxL := nL) (ret := some ty) hy rfl ?_
  intro p e s m args below meth c s₁ B hml hv
  obtain ⟨rfl, hsz, hP, hK, hD0, hN⟩ := hv
  have hts := atoms_spec (ws := wsY y cc nL (some ty)) B.pre
  have hD := hD0.self (sz := sz)
  rw [lg_entry_eq]
  have hL := entL_has (ad := ad) (n := nL) (vs := avs) hlen
  rw [hls, ← hml] at hL
  rw [← hml]
  exact body (p, l, e, rmD d, s, m, (avs.map (cv ad)).toArray, below, meth, c, D, cI, cZ, va_A (cells lay ad cI cZ w) sz, MQ below (QI D cI cZ lay ad (va_A (cells lay ad cI cZ w) sz) P) (avs.map (cv ad)).toArray s 0 0 (va_A (cells lay ad cI cZ w) sz)) ad ⟨B.exec, B.bytes, findClass_of_methodNamed B.named, fun w hw => hts w (List.mem_cons_of_mem _ hw), hK, hN, fun q hq => Or.inr (by rw [← hsz]; exact hq), B.notSynchronized, Nat.le_refl _, Nat.le_refl _⟩ ⟨B.returns, rfl⟩ s.heap [] _ hP hD va_S.rf hL
theorem calV_intro {y : MethodName} {cc : ByteArray} {nL : Nat} {d : Nat} {lay : lyT} {w : wd} {avs : List av} {P : wd → Prop} (hy : plainName y.cls = true) (hlen : (ent avs).length ≤ nL) {ls : List (Option av)} (hls : entL nL avs = ls) (body : ∀ κ ad, Okk κ cc y.cls d → ReV κ lay ad P → J κ lay ad 0 0 0 ls [] w) : CalV y cc nL d lay w avs P := by
  intro l D cI cZ ad sz
  refine Met.ofW (cc := cc) (maxL := nL) (ret := none) hy rfl ?_
  intro p e s m args below meth c s₁ B hml hv
  obtain ⟨rfl, hsz, hP, hK, hD0, hN⟩ := hv
  have hts := atoms_spec (ws := wsY y cc nL none) B.pre
  have hD := hD0.self (sz := sz)
  rw [lg_entry_eq]
  have hL := entL_has (ad := ad) (n := nL) (vs := avs) hlen
  rw [hls, ← hml] at hL
  rw [← hml]
  exact body (p, l, e, rmD d, s, m, (avs.map (cv ad)).toArray, below, meth, c, D, cI, cZ, va_A (cells lay ad cI cZ w) sz, MQ below (QV D cI cZ lay ad (va_A (cells lay ad cI cZ w) sz) P) (avs.map (cv ad)).toArray s 0 0 (va_A (cells lay ad cI cZ w) sz)) ad ⟨B.exec, B.bytes, findClass_of_methodNamed B.named, fun w hw => hts w (List.mem_cons_of_mem _ hw), hK, hN, fun q hq => Or.inr (by rw [← hsz]; exact hq), B.notSynchronized, Nat.le_refl _, Nat.le_refl _⟩ ⟨B.returns, rfl⟩ s.heap [] _ hP hD va_S.rf hL
theorem gTB {y : MethodName} {cc : ByteArray} {nL : Nat} {rt : Option FieldType} (h : Cond.code y cc nL rt ∈ TB) : GoodIn TB (wsY y cc nL rt) := fun w hw => (List.mem_cons.mp hw).elim (fun e => by rw [e]; exact tb_good _ h) (tb_good w)
/-- what a call needs of the method that it calls -/
def MF (y : MethodName) (cc : ByteArray) (nL : Nat) (rt : Option FieldType) (n : Nat) : Prop := Cond.code y cc nL rt ∈ TB ∧ Cond.initialized y.cls ∈ TB ∧ (y.cls ≠ "java/lang/invoke/MethodHandle" ∧ y.cls ≠ "java/lang/invoke/VarHandle" ∧ (parseMethodDescriptor y.desc).map (fun d => d.parameters.length) = some n) ∧ nL ≤ 21
def MV (y : MethodName) : Prop := Cond.instanceMethod y ∈ TB ∧ Cond.selects y.cls y y ∈ TB
def ML (own : String) (idx : Nat) (y : MethodName) : Prop := Cond.methodLink own idx y ∈ TB ∨ ∃ host, Cond.methodLinkNest own idx y host ∈ nestW
section JROWS3
variable {κ : KT} {cc : ByteArray} {own : String} {fr : Nat} {lay : lyT} {ad : Nat → Nat} {cn sn pc : Nat} {ls : List (Option av)} {st st0 : List av} {w : wd} {y : MethodName} {cy : ByteArray} {nLy : Nat} {ty : FieldType} {d n idx : Nat} {avs : List av}
def csOk (κ : KT) (cn sn : Nat) : Prop := match κ with
  | (p, l, e, R, s, m, args, below, meth, c, D, cI, cZ, A, Q) => cn ≤ R.cells ∧ sn ≤ R.slots
theorem csOk_0 : csOk κ 0 0 := by
  obtain ⟨p, l, e, R, s, m, args, below, meth, c, D, cI, cZ, A, Q⟩ := κ
  exact ⟨Nat.zero_le _, Nat.zero_le _⟩
theorem jc_Vi (X : Okk κ cc own fr) {P : Int → wd → Prop} (hcs : csOk κ cn sn) (hm : MF y cy nLy (some ty) n) (hv : MV y) {o ci N : Nat} {T : u_T} {fs : List (Option (Option Nat))} (hl : ML own idx y) (hd2 : d + 1 ≤ fr) (hlay : lay[o]? = some (.inl (ci, fs))) (hc : vwCl[ci]? = some (y.cls, T, N)) (hn : avs.length = n) (hst : st0 = avs.reverse ++ vR o :: st) (hr : ((st.map (cv ad)).map fun v => v.category).sum ≤ 8) (hd : decode cc pc = .ok (.invokevirtual idx, 3)) (hM : CalI y cy nLy ty d lay w (vR o :: avs) P) (k : ∀ a w', P a w' → J κ lay ad cn sn (pc + 3) ls (vI a :: st) w') : J κ lay ad cn sn pc ls st0 w := by
  obtain ⟨p, l, e, R, s, m, args, below, meth, c, D, cI, cZ, A, Q⟩ := κ
  obtain ⟨hx, hb, hown, hts, hK, hN, hA, hlk, hfr, hlo⟩ := X
  intro H locs arr hP hD hS hL
  have hFr : ∀ q, va_A (cells lay ad cI cZ w) H.size q → A q := by
    rintro q (⟨i, e0, h⟩ | h)
    · exact hD.2 i (q, e0) h
    · exact hA q (Nat.le_trans hS.1 h)
  have hM1 := hM l D cI cZ ad H.size
  rcases hl with hl1 | ⟨host, hl1⟩
  · have hcB := callB_of (R := R) (own := own) (index := idx) (rm := rmD d) (mc := 0) (ms := 0) n hts (gTB hm.1) rfl rfl rfl (hts _ hm.2.1) (hts _ hl1) hm.2.2.1 ⟨by show d + 1 ≤ R.frames; omega, by show 8 + (nLy + 11) + 40 * d ≤ R.locals; have := hm.2.2.2; omega⟩
    refine va_calli (va_runV (As := avs.map (cv ad)) (rest := st.map (cv ad)) (C := y.cls) (b := ad o) ⟨hx, hb, rfl, hown, hts⟩ hM1 ⟨hcB, hts _ hv.1, hts _ hv.2⟩ ⟨preW_blind, va_recv hK hP hc (cells_at hlay), fun U hU hW => ⟨rfl, by rw [hU], by rw [hU]; exact hP, va_K.moved hW.alike hK, hD.weaken (fun _ _ _ _ => trivial), Nst.warm hW hN⟩⟩ rfl (by rw [List.length_map]; exact hn) hL.1 (by show (st0.map (cv ad)) = _; rw [hst]; simp [List.map_append, List.map_reverse, cv, va_rf]) (lv_room hr) hd ⟨hcs.1, hcs.2⟩) hS (fun q _ h => hFr q h) hFr (fun r u t H1 locs1 ht hvm hw hB hz1 hk1 hS1 => ?_)
    obtain ⟨a, rfl, hp⟩ := hw
    obtain ⟨hP1, hK1, hD1⟩ := hB
    rw [ht] at hP1
    exact k a u hp H1 locs1 arr hP1 (hD1.weaken (fun _ q _ h => hFr q.1 h)) hS1 hL
  · have hcB := va_cnB (R := R) (own := own) (host := host) (index := idx) (rm := rmD d) (mc := 0) (ms := 0) n hts (gTB hm.1) rfl rfl rfl (hN _ hl1) (hts _ hm.2.1) hm.2.2.1 ⟨by show d + 1 ≤ R.frames; omega, by show 8 + (nLy + 11) + 40 * d ≤ R.locals; have := hm.2.2.2; omega⟩
    refine va_calli (va_runVN (As := avs.map (cv ad)) (rest := st.map (cv ad)) (C := y.cls) (b := ad o) ⟨hx, hb, rfl, hown, hts⟩ hM1 ⟨hcB, hts _ hv.1, hts _ hv.2⟩ ⟨preW_blind, va_recv hK hP hc (cells_at hlay), fun U hU hW => ⟨rfl, by rw [hU], by rw [hU]; exact hP, va_K.moved hW.alike hK, hD.weaken (fun _ _ _ _ => trivial), Nst.warm hW hN⟩⟩ rfl (by rw [List.length_map]; exact hn) hL.1 (by show (st0.map (cv ad)) = _; rw [hst]; simp [List.map_append, List.map_reverse, cv, va_rf]) (lv_room hr) hd ⟨hcs.1, hcs.2⟩) hS (fun q _ h => hFr q h) hFr (fun r u t H1 locs1 ht hvm hw hB hz1 hk1 hS1 => ?_)
    obtain ⟨a, rfl, hp⟩ := hw
    obtain ⟨hP1, hK1, hD1⟩ := hB
    rw [ht] at hP1
    exact k a u hp H1 locs1 arr hP1 (hD1.weaken (fun _ q _ h => hFr q.1 h)) hS1 hL
theorem jc_Vv (X : Okk κ cc own fr) {P : wd → Prop} (hcs : csOk κ cn sn) (hm : MF y cy nLy none n) (hv : MV y) {o ci N : Nat} {T : u_T} {fs : List (Option (Option Nat))} (hl : ML own idx y) (hd2 : d + 1 ≤ fr) (hlay : lay[o]? = some (.inl (ci, fs))) (hc : vwCl[ci]? = some (y.cls, T, N)) (hn : avs.length = n) (hst : st0 = avs.reverse ++ vR o :: st) (hr : ((st.map (cv ad)).map fun v => v.category).sum ≤ 8) (hd : decode cc pc = .ok (.invokevirtual idx, 3)) (hM : CalV y cy nLy d lay w (vR o :: avs) P) (k : ∀ w', P w' → J κ lay ad cn sn (pc + 3) ls st w') : J κ lay ad cn sn pc ls st0 w := by
  obtain ⟨p, l, e, R, s, m, args, below, meth, c, D, cI, cZ, A, Q⟩ := κ
  obtain ⟨hx, hb, hown, hts, hK, hN, hA, hlk, hfr, hlo⟩ := X
  intro H locs arr hP hD hS hL
  have hFr : ∀ q, va_A (cells lay ad cI cZ w) H.size q → A q := by
    rintro q (⟨i, e0, h⟩ | h)
    · exact hD.2 i (q, e0) h
    · exact hA q (Nat.le_trans hS.1 h)
  have hM1 := hM l D cI cZ ad H.size
  rcases hl with hl1 | ⟨host, hl1⟩
  · have hcB := callB_of (R := R) (own := own) (index := idx) (rm := rmD d) (mc := 0) (ms := 0) n hts (gTB hm.1) rfl rfl rfl (hts _ hm.2.1) (hts _ hl1) hm.2.2.1 ⟨by show d + 1 ≤ R.frames; omega, by show 8 + (nLy + 11) + 40 * d ≤ R.locals; have := hm.2.2.2; omega⟩
    refine va_callv (va_runV (As := avs.map (cv ad)) (rest := st.map (cv ad)) (C := y.cls) (b := ad o) ⟨hx, hb, rfl, hown, hts⟩ hM1 ⟨hcB, hts _ hv.1, hts _ hv.2⟩ ⟨preW_blind, va_recv hK hP hc (cells_at hlay), fun U hU hW => ⟨rfl, by rw [hU], by rw [hU]; exact hP, va_K.moved hW.alike hK, hD.weaken (fun _ _ _ _ => trivial), Nst.warm hW hN⟩⟩ rfl (by rw [List.length_map]; exact hn) hL.1 (by show (st0.map (cv ad)) = _; rw [hst]; simp [List.map_append, List.map_reverse, cv, va_rf]) (lv_room hr) hd ⟨hcs.1, hcs.2⟩) hS (fun q _ h => hFr q h) hFr (fun u t H1 locs1 ht hvm hw hB hz1 hk1 hS1 => ?_)
    obtain ⟨hP1, hK1, hD1⟩ := hB
    rw [ht] at hP1
    exact k u hw H1 locs1 arr hP1 (hD1.weaken (fun _ q _ h => hFr q.1 h)) hS1 hL
  · have hcB := va_cnB (R := R) (own := own) (host := host) (index := idx) (rm := rmD d) (mc := 0) (ms := 0) n hts (gTB hm.1) rfl rfl rfl (hN _ hl1) (hts _ hm.2.1) hm.2.2.1 ⟨by show d + 1 ≤ R.frames; omega, by show 8 + (nLy + 11) + 40 * d ≤ R.locals; have := hm.2.2.2; omega⟩
    refine va_callv (va_runVN (As := avs.map (cv ad)) (rest := st.map (cv ad)) (C := y.cls) (b := ad o) ⟨hx, hb, rfl, hown, hts⟩ hM1 ⟨hcB, hts _ hv.1, hts _ hv.2⟩ ⟨preW_blind, va_recv hK hP hc (cells_at hlay), fun U hU hW => ⟨rfl, by rw [hU], by rw [hU]; exact hP, va_K.moved hW.alike hK, hD.weaken (fun _ _ _ _ => trivial), Nst.warm hW hN⟩⟩ rfl (by rw [List.length_map]; exact hn) hL.1 (by show (st0.map (cv ad)) = _; rw [hst]; simp [List.map_append, List.map_reverse, cv, va_rf]) (lv_room hr) hd ⟨hcs.1, hcs.2⟩) hS (fun q _ h => hFr q h) hFr (fun u t H1 locs1 ht hvm hw hB hz1 hk1 hS1 => ?_)
    obtain ⟨hP1, hK1, hD1⟩ := hB
    rw [ht] at hP1
    exact k u hw H1 locs1 arr hP1 (hD1.weaken (fun _ q _ h => hFr q.1 h)) hS1 hL
theorem jc_Si (X : Okk κ cc own fr) {P : Int → wd → Prop} (hcs : csOk κ cn sn) (hm : MF y cy nLy (some ty) n) (hv : Cond.static y ∈ TB) (hl : ML own idx y) (hd2 : d + 1 ≤ fr) (hn : avs.length = n) (hst : st0 = avs.reverse ++ st) (hr : ((st.map (cv ad)).map fun v => v.category).sum ≤ 8) (hd : decode cc pc = .ok (.invokestatic idx, 3)) (hM : CalI y cy nLy ty d lay w (avs) P) (k : ∀ a w', P a w' → J κ lay ad cn sn (pc + 3) ls (vI a :: st) w') : J κ lay ad cn sn pc ls st0 w := by
  obtain ⟨p, l, e, R, s, m, args, below, meth, c, D, cI, cZ, A, Q⟩ := κ
  obtain ⟨hx, hb, hown, hts, hK, hN, hA, hlk, hfr, hlo⟩ := X
  intro H locs arr hP hD hS hL
  have hFr : ∀ q, va_A (cells lay ad cI cZ w) H.size q → A q := by
    rintro q (⟨i, e0, h⟩ | h)
    · exact hD.2 i (q, e0) h
    · exact hA q (Nat.le_trans hS.1 h)
  have hM1 := hM l D cI cZ ad H.size
  rcases hl with hl1 | ⟨host, hl1⟩
  · have hcB := callB_of (R := R) (own := own) (index := idx) (rm := rmD d) (mc := 0) (ms := 0) n hts (gTB hm.1) rfl rfl rfl (hts _ hm.2.1) (hts _ hl1) hm.2.2.1 ⟨by show d + 1 ≤ R.frames; omega, by show 8 + (nLy + 11) + 40 * d ≤ R.locals; have := hm.2.2.2; omega⟩
    refine va_calli (va_runS (As := avs.map (cv ad)) (rest := st.map (cv ad)) ⟨hx, hb, rfl, hown, hts⟩ hM1 ⟨hcB, hts _ hv⟩ ⟨preW_blind, fun U hU hW => ⟨rfl, by rw [hU], by rw [hU]; exact hP, va_K.moved hW.alike hK, hD.weaken (fun _ _ _ _ => trivial), Nst.warm hW hN⟩⟩ rfl (by rw [List.length_map]; exact hn) hL.1 (by show (st0.map (cv ad)) = _; rw [hst]; simp [List.map_append, List.map_reverse]) (lv_room hr) hd ⟨hcs.1, hcs.2⟩) hS (fun q _ h => hFr q h) hFr (fun r u t H1 locs1 ht hvm hw hB hz1 hk1 hS1 => ?_)
    obtain ⟨a, rfl, hp⟩ := hw
    obtain ⟨hP1, hK1, hD1⟩ := hB
    rw [ht] at hP1
    exact k a u hp H1 locs1 arr hP1 (hD1.weaken (fun _ q _ h => hFr q.1 h)) hS1 hL
  · have hcB := va_cnB (R := R) (own := own) (host := host) (index := idx) (rm := rmD d) (mc := 0) (ms := 0) n hts (gTB hm.1) rfl rfl rfl (hN _ hl1) (hts _ hm.2.1) hm.2.2.1 ⟨by show d + 1 ≤ R.frames; omega, by show 8 + (nLy + 11) + 40 * d ≤ R.locals; have := hm.2.2.2; omega⟩
    refine va_calli (va_runSN (As := avs.map (cv ad)) (rest := st.map (cv ad)) ⟨hx, hb, rfl, hown, hts⟩ hM1 ⟨hcB, hts _ hv, trivial⟩ ⟨preW_blind, fun U hU hW => ⟨rfl, by rw [hU], by rw [hU]; exact hP, va_K.moved hW.alike hK, hD.weaken (fun _ _ _ _ => trivial), Nst.warm hW hN⟩⟩ rfl (by rw [List.length_map]; exact hn) hL.1 (by show (st0.map (cv ad)) = _; rw [hst]; simp [List.map_append, List.map_reverse]) (lv_room hr) hd ⟨hcs.1, hcs.2⟩) hS (fun q _ h => hFr q h) hFr (fun r u t H1 locs1 ht hvm hw hB hz1 hk1 hS1 => ?_)
    obtain ⟨a, rfl, hp⟩ := hw
    obtain ⟨hP1, hK1, hD1⟩ := hB
    rw [ht] at hP1
    exact k a u hp H1 locs1 arr hP1 (hD1.weaken (fun _ q _ h => hFr q.1 h)) hS1 hL
theorem jc_Sv (X : Okk κ cc own fr) {P : wd → Prop} (hcs : csOk κ cn sn) (hm : MF y cy nLy none n) (hv : Cond.static y ∈ TB) (hl : ML own idx y) (hd2 : d + 1 ≤ fr) (hn : avs.length = n) (hst : st0 = avs.reverse ++ st) (hr : ((st.map (cv ad)).map fun v => v.category).sum ≤ 8) (hd : decode cc pc = .ok (.invokestatic idx, 3)) (hM : CalV y cy nLy d lay w (avs) P) (k : ∀ w', P w' → J κ lay ad cn sn (pc + 3) ls st w') : J κ lay ad cn sn pc ls st0 w := by
  obtain ⟨p, l, e, R, s, m, args, below, meth, c, D, cI, cZ, A, Q⟩ := κ
  obtain ⟨hx, hb, hown, hts, hK, hN, hA, hlk, hfr, hlo⟩ := X
  intro H locs arr hP hD hS hL
  have hFr : ∀ q, va_A (cells lay ad cI cZ w) H.size q → A q := by
    rintro q (⟨i, e0, h⟩ | h)
    · exact hD.2 i (q, e0) h
    · exact hA q (Nat.le_trans hS.1 h)
  have hM1 := hM l D cI cZ ad H.size
  rcases hl with hl1 | ⟨host, hl1⟩
  · have hcB := callB_of (R := R) (own := own) (index := idx) (rm := rmD d) (mc := 0) (ms := 0) n hts (gTB hm.1) rfl rfl rfl (hts _ hm.2.1) (hts _ hl1) hm.2.2.1 ⟨by show d + 1 ≤ R.frames; omega, by show 8 + (nLy + 11) + 40 * d ≤ R.locals; have := hm.2.2.2; omega⟩
    refine va_callv (va_runS (As := avs.map (cv ad)) (rest := st.map (cv ad)) ⟨hx, hb, rfl, hown, hts⟩ hM1 ⟨hcB, hts _ hv⟩ ⟨preW_blind, fun U hU hW => ⟨rfl, by rw [hU], by rw [hU]; exact hP, va_K.moved hW.alike hK, hD.weaken (fun _ _ _ _ => trivial), Nst.warm hW hN⟩⟩ rfl (by rw [List.length_map]; exact hn) hL.1 (by show (st0.map (cv ad)) = _; rw [hst]; simp [List.map_append, List.map_reverse]) (lv_room hr) hd ⟨hcs.1, hcs.2⟩) hS (fun q _ h => hFr q h) hFr (fun u t H1 locs1 ht hvm hw hB hz1 hk1 hS1 => ?_)
    obtain ⟨hP1, hK1, hD1⟩ := hB
    rw [ht] at hP1
    exact k u hw H1 locs1 arr hP1 (hD1.weaken (fun _ q _ h => hFr q.1 h)) hS1 hL
  · have hcB := va_cnB (R := R) (own := own) (host := host) (index := idx) (rm := rmD d) (mc := 0) (ms := 0) n hts (gTB hm.1) rfl rfl rfl (hN _ hl1) (hts _ hm.2.1) hm.2.2.1 ⟨by show d + 1 ≤ R.frames; omega, by show 8 + (nLy + 11) + 40 * d ≤ R.locals; have := hm.2.2.2; omega⟩
    refine va_callv (va_runSN (As := avs.map (cv ad)) (rest := st.map (cv ad)) ⟨hx, hb, rfl, hown, hts⟩ hM1 ⟨hcB, hts _ hv, trivial⟩ ⟨preW_blind, fun U hU hW => ⟨rfl, by rw [hU], by rw [hU]; exact hP, va_K.moved hW.alike hK, hD.weaken (fun _ _ _ _ => trivial), Nst.warm hW hN⟩⟩ rfl (by rw [List.length_map]; exact hn) hL.1 (by show (st0.map (cv ad)) = _; rw [hst]; simp [List.map_append, List.map_reverse]) (lv_room hr) hd ⟨hcs.1, hcs.2⟩) hS (fun q _ h => hFr q h) hFr (fun u t H1 locs1 ht hvm hw hB hz1 hk1 hS1 => ?_)
    obtain ⟨hP1, hK1, hD1⟩ := hB
    rw [ht] at hP1
    exact k u hw H1 locs1 arr hP1 (hD1.weaken (fun _ q _ h => hFr q.1 h)) hS1 hL
end JROWS3
end
section
def LAY : lyT := [.inl (7, [some (some 1), some (some 5), some (some 16), some (some 17), some (some 21), some (some 23), none]),
  .inl (5, [some (some 2), some (some 3), some (some 4), none, none]),
  .inr (false, 144),
  .inr (false, 144),
  .inr (false, 432),
  .inl (3, [some (some 1), some (some 6), some (some 7), some (some 8), some (some 9), some (some 10), some (some 11), some (some 12), some (some 13), some (some 14), some (some 15), none]),
  .inr (false, 144),
  .inr (false, 144),
  .inr (false, 144),
  .inr (false, 144),
  .inr (false, 144),
  .inr (false, 1024),
  .inr (false, 8),
  .inr (false, 8),
  .inr (false, 8),
  .inr (false, 8),
  .inl (0, [some (some 1), some (some 5)]),
  .inl (6, [some (some 1), some (some 18), some (some 19), some (some 20), none, none]),
  .inr (false, 144),
  .inr (false, 144),
  .inr (false, 144),
  .inl (1, [some (some 1), some (some 22), none]),
  .inr (false, 144),
  .inl (4, [some (some 1), some (some 21), some (some 24), some (some 52), some (some 53), none, none, none, none, none, none, none]),
  .inl (2, [some (some 25), some (some 46), some (some 47), some (some 48), some (some 49), some (some 50), some (some 51), none, none, none]),
  .inl (2, [some (some 26), some (some 40), some (some 41), some (some 42), some (some 43), some (some 44), some (some 45), none, none, none]),
  .inl (2, [some (some 27), some (some 34), some (some 35), some (some 36), some (some 37), some (some 38), some (some 39), none, none, none]),
  .inl (2, [some none, some (some 28), some (some 29), some (some 30), some (some 31), some (some 32), some (some 33), none, none, none]),
  .inr (false, 144),
  .inr (false, 144),
  .inr (false, 144),
  .inr (false, 1024),
  .inr (false, 12),
  .inr (false, 12),
  .inr (false, 144),
  .inr (false, 144),
  .inr (false, 144),
  .inr (false, 1024),
  .inr (false, 12),
  .inr (false, 12),
  .inr (false, 144),
  .inr (false, 144),
  .inr (false, 144),
  .inr (false, 1024),
  .inr (false, 12),
  .inr (false, 12),
  .inr (false, 144),
  .inr (false, 144),
  .inr (false, 144),
  .inr (false, 1024),
  .inr (false, 12),
  .inr (false, 12),
  .inr (false, 3),
  .inr (false, 4),
  .inl (8, [none, none, some (some 55), some (some 56), some (some 57), some (some 58), some (some 59), some (some 60), none, some (some 61), some (some 62), some (some 63), some (some 64), some (some 65), some (some 66), some (some 67), none, none, some (some 68), some (some 69), some (some 70), some (some 71), some (some 72), some (some 73), some (some 74), none, some (some 75), some (some 76), some (some 77), some (some 78), none, none, none, none, none]),
  .inr (false, 144),
  .inr (false, 144),
  .inr (false, 144),
  .inr (false, 144),
  .inr (true, 144),
  .inr (false, 432),
  .inr (false, 1152),
  .inr (false, 1152),
  .inr (false, 1152),
  .inr (false, 1152),
  .inr (true, 1152),
  .inr (false, 3456),
  .inr (true, 144),
  .inr (true, 144),
  .inr (true, 144),
  .inr (false, 144),
  .inr (false, 576),
  .inr (false, 576),
  .inr (false, 576),
  .inr (false, 16384),
  .inr (false, 16),
  .inr (false, 16),
  .inr (false, 4),
  .inr (false, 4)]
set_option maxRecDepth 10000 in
theorem tbt1 {w : Cond} (i : Nat) (e : tables_1_1[i]? = some w) (g : goodWord w = true) : w ∈ TB := by
  have h := List.mem_of_getElem? e
  exact List.mem_filter.mpr ⟨List.mem_append_right _ (show w ∈ tables_1_1 ++ (tables_1_2 ++ (tables_1_3 ++ (tables_1_4 ++ (tables_1_5 ++ tables_1_6)))) from List.mem_append_left _ h), g⟩
set_option maxRecDepth 10000 in
theorem tbt2 {w : Cond} (i : Nat) (e : tables_1_2[i]? = some w) (g : goodWord w = true) : w ∈ TB := by
  have h := List.mem_of_getElem? e
  exact List.mem_filter.mpr ⟨List.mem_append_right _ (show w ∈ tables_1_1 ++ (tables_1_2 ++ (tables_1_3 ++ (tables_1_4 ++ (tables_1_5 ++ tables_1_6)))) from List.mem_append_right _ (List.mem_append_left _ h)), g⟩
set_option maxRecDepth 10000 in
theorem tbt3 {w : Cond} (i : Nat) (e : tables_1_3[i]? = some w) (g : goodWord w = true) : w ∈ TB := by
  have h := List.mem_of_getElem? e
  exact List.mem_filter.mpr ⟨List.mem_append_right _ (show w ∈ tables_1_1 ++ (tables_1_2 ++ (tables_1_3 ++ (tables_1_4 ++ (tables_1_5 ++ tables_1_6)))) from List.mem_append_right _ (List.mem_append_right _ (List.mem_append_left _ h))), g⟩
set_option maxRecDepth 10000 in
theorem tbt4 {w : Cond} (i : Nat) (e : tables_1_4[i]? = some w) (g : goodWord w = true) : w ∈ TB := by
  have h := List.mem_of_getElem? e
  exact List.mem_filter.mpr ⟨List.mem_append_right _ (show w ∈ tables_1_1 ++ (tables_1_2 ++ (tables_1_3 ++ (tables_1_4 ++ (tables_1_5 ++ tables_1_6)))) from List.mem_append_right _ (List.mem_append_right _ (List.mem_append_right _ (List.mem_append_left _ h)))), g⟩
set_option maxRecDepth 10000 in
theorem tbt5 {w : Cond} (i : Nat) (e : tables_1_5[i]? = some w) (g : goodWord w = true) : w ∈ TB := by
  have h := List.mem_of_getElem? e
  exact List.mem_filter.mpr ⟨List.mem_append_right _ (show w ∈ tables_1_1 ++ (tables_1_2 ++ (tables_1_3 ++ (tables_1_4 ++ (tables_1_5 ++ tables_1_6)))) from List.mem_append_right _ (List.mem_append_right _ (List.mem_append_right _ (List.mem_append_right _ (List.mem_append_left _ h))))), g⟩
set_option maxRecDepth 10000 in
theorem tbt6 {w : Cond} (i : Nat) (e : tables_1_6[i]? = some w) (g : goodWord w = true) : w ∈ TB := by
  have h := List.mem_of_getElem? e
  exact List.mem_filter.mpr ⟨List.mem_append_right _ (show w ∈ tables_1_1 ++ (tables_1_2 ++ (tables_1_3 ++ (tables_1_4 ++ (tables_1_5 ++ tables_1_6)))) from List.mem_append_right _ (List.mem_append_right _ (List.mem_append_right _ (List.mem_append_right _ (List.mem_append_right _ (h)))))), g⟩
set_option maxRecDepth 10000 in
theorem tbp1 {y : MethodName} {n : Nat} (i : Nat) (e : lw_privs_1[i]? = some (y, n)) : Cond.selects y.cls y y ∈ TB := by
  have h := List.mem_of_getElem? e
  exact List.mem_filter.mpr ⟨List.mem_append_left _ (List.mem_map.mpr ⟨(y, n), (show (y, n) ∈ lw_privs_1 ++ (lw_privs_2 ++ (lw_privs_3 ++ (lw_privs_4))) from List.mem_append_left _ h), rfl⟩), rfl⟩
set_option maxRecDepth 10000 in
theorem tbp2 {y : MethodName} {n : Nat} (i : Nat) (e : lw_privs_2[i]? = some (y, n)) : Cond.selects y.cls y y ∈ TB := by
  have h := List.mem_of_getElem? e
  exact List.mem_filter.mpr ⟨List.mem_append_left _ (List.mem_map.mpr ⟨(y, n), (show (y, n) ∈ lw_privs_1 ++ (lw_privs_2 ++ (lw_privs_3 ++ (lw_privs_4))) from List.mem_append_right _ (List.mem_append_left _ h)), rfl⟩), rfl⟩
set_option maxRecDepth 10000 in
theorem tbp3 {y : MethodName} {n : Nat} (i : Nat) (e : lw_privs_3[i]? = some (y, n)) : Cond.selects y.cls y y ∈ TB := by
  have h := List.mem_of_getElem? e
  exact List.mem_filter.mpr ⟨List.mem_append_left _ (List.mem_map.mpr ⟨(y, n), (show (y, n) ∈ lw_privs_1 ++ (lw_privs_2 ++ (lw_privs_3 ++ (lw_privs_4))) from List.mem_append_right _ (List.mem_append_right _ (List.mem_append_left _ h))), rfl⟩), rfl⟩
set_option maxRecDepth 10000 in
theorem tbp4 {y : MethodName} {n : Nat} (i : Nat) (e : lw_privs_4[i]? = some (y, n)) : Cond.selects y.cls y y ∈ TB := by
  have h := List.mem_of_getElem? e
  exact List.mem_filter.mpr ⟨List.mem_append_left _ (List.mem_map.mpr ⟨(y, n), (show (y, n) ∈ lw_privs_1 ++ (lw_privs_2 ++ (lw_privs_3 ++ (lw_privs_4))) from List.mem_append_right _ (List.mem_append_right _ (List.mem_append_right _ (h)))), rfl⟩), rfl⟩
set_option maxRecDepth 10000 in
theorem uwk_X0_0 : u_lay RX0 TX0 0 ∈ TB := (tbt1 105 rfl rfl)
set_option maxRecDepth 10000 in
theorem uwk_X0_1 : u_lay RX0 TX0 1 ∈ TB := (tbt1 107 rfl rfl)
set_option maxRecDepth 10000 in
theorem uw_X0 : ∀ w ∈ u_ws RX0 TX0 2, w ∈ TB := by
  intro w hw
  obtain ⟨k, hk, rfl⟩ := List.mem_map.mp hw
  have hk := List.mem_range.mp hk
  match k, hk with
  | 0, _ => exact uwk_X0_0
  | 1, _ => exact uwk_X0_1
  | k + 2, h => exact absurd h (by omega)
set_option maxRecDepth 10000 in
theorem uwk_X1_0 : u_lay RX1 TX1 0 ∈ TB := (tbt1 148 rfl rfl)
set_option maxRecDepth 10000 in
theorem uwk_X1_1 : u_lay RX1 TX1 1 ∈ TB := (tbt1 150 rfl rfl)
set_option maxRecDepth 10000 in
theorem uwk_X1_2 : u_lay RX1 TX1 2 ∈ TB := (tbt1 152 rfl rfl)
set_option maxRecDepth 10000 in
theorem uw_X1 : ∀ w ∈ u_ws RX1 TX1 3, w ∈ TB := by
  intro w hw
  obtain ⟨k, hk, rfl⟩ := List.mem_map.mp hw
  have hk := List.mem_range.mp hk
  match k, hk with
  | 0, _ => exact uwk_X1_0
  | 1, _ => exact uwk_X1_1
  | 2, _ => exact uwk_X1_2
  | k + 3, h => exact absurd h (by omega)
set_option maxRecDepth 10000 in
theorem uwk_X2_0 : u_lay RX2 TX2 0 ∈ TB := (tbt1 178 rfl rfl)
set_option maxRecDepth 10000 in
theorem uwk_X2_1 : u_lay RX2 TX2 1 ∈ TB := (tbt1 180 rfl rfl)
set_option maxRecDepth 10000 in
theorem uwk_X2_2 : u_lay RX2 TX2 2 ∈ TB := (tbt1 182 rfl rfl)
set_option maxRecDepth 10000 in
theorem uwk_X2_3 : u_lay RX2 TX2 3 ∈ TB := (tbt1 184 rfl rfl)
set_option maxRecDepth 10000 in
theorem uwk_X2_4 : u_lay RX2 TX2 4 ∈ TB := (tbt1 186 rfl rfl)
set_option maxRecDepth 10000 in
theorem uwk_X2_5 : u_lay RX2 TX2 5 ∈ TB := (tbt1 188 rfl rfl)
set_option maxRecDepth 10000 in
theorem uwk_X2_6 : u_lay RX2 TX2 6 ∈ TB := (tbt1 190 rfl rfl)
set_option maxRecDepth 10000 in
theorem uwk_X2_7 : u_lay RX2 TX2 7 ∈ TB := (tbt1 192 rfl rfl)
set_option maxRecDepth 10000 in
theorem uwk_X2_8 : u_lay RX2 TX2 8 ∈ TB := (tbt1 194 rfl rfl)
set_option maxRecDepth 10000 in
theorem uwk_X2_9 : u_lay RX2 TX2 9 ∈ TB := (tbt1 196 rfl rfl)
set_option maxRecDepth 10000 in
theorem uw_X2 : ∀ w ∈ u_ws RX2 TX2 10, w ∈ TB := by
  intro w hw
  obtain ⟨k, hk, rfl⟩ := List.mem_map.mp hw
  have hk := List.mem_range.mp hk
  match k, hk with
  | 0, _ => exact uwk_X2_0
  | 1, _ => exact uwk_X2_1
  | 2, _ => exact uwk_X2_2
  | 3, _ => exact uwk_X2_3
  | 4, _ => exact uwk_X2_4
  | 5, _ => exact uwk_X2_5
  | 6, _ => exact uwk_X2_6
  | 7, _ => exact uwk_X2_7
  | 8, _ => exact uwk_X2_8
  | 9, _ => exact uwk_X2_9
  | k + 10, h => exact absurd h (by omega)
set_option maxRecDepth 10000 in
theorem uwk_X4_0 : u_lay RX4 TX4 0 ∈ TB := (tbt1 72 rfl rfl)
set_option maxRecDepth 10000 in
theorem uwk_X4_1 : u_lay RX4 TX4 1 ∈ TB := (tbt1 74 rfl rfl)
set_option maxRecDepth 10000 in
theorem uwk_X4_2 : u_lay RX4 TX4 2 ∈ TB := (tbt1 76 rfl rfl)
set_option maxRecDepth 10000 in
theorem uwk_X4_3 : u_lay RX4 TX4 3 ∈ TB := (tbt1 78 rfl rfl)
set_option maxRecDepth 10000 in
theorem uwk_X4_4 : u_lay RX4 TX4 4 ∈ TB := (tbt1 80 rfl rfl)
set_option maxRecDepth 10000 in
theorem uwk_X4_5 : u_lay RX4 TX4 5 ∈ TB := (tbt1 82 rfl rfl)
set_option maxRecDepth 10000 in
theorem uwk_X4_6 : u_lay RX4 TX4 6 ∈ TB := (tbt1 84 rfl rfl)
set_option maxRecDepth 10000 in
theorem uwk_X4_7 : u_lay RX4 TX4 7 ∈ TB := (tbt1 86 rfl rfl)
set_option maxRecDepth 10000 in
theorem uwk_X4_8 : u_lay RX4 TX4 8 ∈ TB := (tbt1 88 rfl rfl)
set_option maxRecDepth 10000 in
theorem uwk_X4_9 : u_lay RX4 TX4 9 ∈ TB := (tbt1 90 rfl rfl)
set_option maxRecDepth 10000 in
theorem uwk_X4_10 : u_lay RX4 TX4 10 ∈ TB := (tbt1 92 rfl rfl)
set_option maxRecDepth 10000 in
theorem uwk_X4_11 : u_lay RX4 TX4 11 ∈ TB := (tbt1 94 rfl rfl)
set_option maxRecDepth 10000 in
theorem uw_X4 : ∀ w ∈ u_ws RX4 TX4 12, w ∈ TB := by
  intro w hw
  obtain ⟨k, hk, rfl⟩ := List.mem_map.mp hw
  have hk := List.mem_range.mp hk
  match k, hk with
  | 0, _ => exact uwk_X4_0
  | 1, _ => exact uwk_X4_1
  | 2, _ => exact uwk_X4_2
  | 3, _ => exact uwk_X4_3
  | 4, _ => exact uwk_X4_4
  | 5, _ => exact uwk_X4_5
  | 6, _ => exact uwk_X4_6
  | 7, _ => exact uwk_X4_7
  | 8, _ => exact uwk_X4_8
  | 9, _ => exact uwk_X4_9
  | 10, _ => exact uwk_X4_10
  | 11, _ => exact uwk_X4_11
  | k + 12, h => exact absurd h (by omega)
set_option maxRecDepth 10000 in
theorem uwk_X6_0 : u_lay RX6 TX6 0 ∈ TB := (tbt1 212 rfl rfl)
set_option maxRecDepth 10000 in
theorem uwk_X6_1 : u_lay RX6 TX6 1 ∈ TB := (tbt1 214 rfl rfl)
set_option maxRecDepth 10000 in
theorem uwk_X6_2 : u_lay RX6 TX6 2 ∈ TB := (tbt1 216 rfl rfl)
set_option maxRecDepth 10000 in
theorem uwk_X6_3 : u_lay RX6 TX6 3 ∈ TB := (tbt1 218 rfl rfl)
set_option maxRecDepth 10000 in
theorem uwk_X6_4 : u_lay RX6 TX6 4 ∈ TB := (tbt1 220 rfl rfl)
set_option maxRecDepth 10000 in
theorem uwk_X6_5 : u_lay RX6 TX6 5 ∈ TB := (tbt1 222 rfl rfl)
set_option maxRecDepth 10000 in
theorem uwk_X6_6 : u_lay RX6 TX6 6 ∈ TB := (tbt1 224 rfl rfl)
set_option maxRecDepth 10000 in
theorem uwk_X6_7 : u_lay RX6 TX6 7 ∈ TB := (tbt1 226 rfl rfl)
set_option maxRecDepth 10000 in
theorem uwk_X6_8 : u_lay RX6 TX6 8 ∈ TB := (tbt1 228 rfl rfl)
set_option maxRecDepth 10000 in
theorem uwk_X6_9 : u_lay RX6 TX6 9 ∈ TB := (tbt1 230 rfl rfl)
set_option maxRecDepth 10000 in
theorem uwk_X6_10 : u_lay RX6 TX6 10 ∈ TB := (tbt1 232 rfl rfl)
set_option maxRecDepth 10000 in
theorem uwk_X6_11 : u_lay RX6 TX6 11 ∈ TB := (tbt1 234 rfl rfl)
set_option maxRecDepth 10000 in
theorem uw_X6 : ∀ w ∈ u_ws RX6 TX6 12, w ∈ TB := by
  intro w hw
  obtain ⟨k, hk, rfl⟩ := List.mem_map.mp hw
  have hk := List.mem_range.mp hk
  match k, hk with
  | 0, _ => exact uwk_X6_0
  | 1, _ => exact uwk_X6_1
  | 2, _ => exact uwk_X6_2
  | 3, _ => exact uwk_X6_3
  | 4, _ => exact uwk_X6_4
  | 5, _ => exact uwk_X6_5
  | 6, _ => exact uwk_X6_6
  | 7, _ => exact uwk_X6_7
  | 8, _ => exact uwk_X6_8
  | 9, _ => exact uwk_X6_9
  | 10, _ => exact uwk_X6_10
  | 11, _ => exact uwk_X6_11
  | k + 12, h => exact absurd h (by omega)
set_option maxRecDepth 10000 in
theorem uwk_X7_0 : u_lay RX7 TX7 0 ∈ TB := (tbt1 41 rfl rfl)
set_option maxRecDepth 10000 in
theorem uwk_X7_1 : u_lay RX7 TX7 1 ∈ TB := (tbt1 43 rfl rfl)
set_option maxRecDepth 10000 in
theorem uwk_X7_2 : u_lay RX7 TX7 2 ∈ TB := (tbt1 45 rfl rfl)
set_option maxRecDepth 10000 in
theorem uwk_X7_3 : u_lay RX7 TX7 3 ∈ TB := (tbt1 47 rfl rfl)
set_option maxRecDepth 10000 in
theorem uwk_X7_4 : u_lay RX7 TX7 4 ∈ TB := (tbt1 49 rfl rfl)
set_option maxRecDepth 10000 in
theorem uw_X7 : ∀ w ∈ u_ws RX7 TX7 5, w ∈ TB := by
  intro w hw
  obtain ⟨k, hk, rfl⟩ := List.mem_map.mp hw
  have hk := List.mem_range.mp hk
  match k, hk with
  | 0, _ => exact uwk_X7_0
  | 1, _ => exact uwk_X7_1
  | 2, _ => exact uwk_X7_2
  | 3, _ => exact uwk_X7_3
  | 4, _ => exact uwk_X7_4
  | k + 5, h => exact absurd h (by omega)
set_option maxRecDepth 10000 in
theorem uwk_X8_0 : u_lay RX8 TX8 0 ∈ TB := (tbt1 124 rfl rfl)
set_option maxRecDepth 10000 in
theorem uwk_X8_1 : u_lay RX8 TX8 1 ∈ TB := (tbt1 126 rfl rfl)
set_option maxRecDepth 10000 in
theorem uwk_X8_2 : u_lay RX8 TX8 2 ∈ TB := (tbt1 128 rfl rfl)
set_option maxRecDepth 10000 in
theorem uwk_X8_3 : u_lay RX8 TX8 3 ∈ TB := (tbt1 130 rfl rfl)
set_option maxRecDepth 10000 in
theorem uwk_X8_4 : u_lay RX8 TX8 4 ∈ TB := (tbt1 132 rfl rfl)
set_option maxRecDepth 10000 in
theorem uwk_X8_5 : u_lay RX8 TX8 5 ∈ TB := (tbt1 134 rfl rfl)
set_option maxRecDepth 10000 in
theorem uw_X8 : ∀ w ∈ u_ws RX8 TX8 6, w ∈ TB := by
  intro w hw
  obtain ⟨k, hk, rfl⟩ := List.mem_map.mp hw
  have hk := List.mem_range.mp hk
  match k, hk with
  | 0, _ => exact uwk_X8_0
  | 1, _ => exact uwk_X8_1
  | 2, _ => exact uwk_X8_2
  | 3, _ => exact uwk_X8_3
  | 4, _ => exact uwk_X8_4
  | 5, _ => exact uwk_X8_5
  | k + 6, h => exact absurd h (by omega)
set_option maxRecDepth 10000 in
theorem uwk_X9_0 : u_lay RX9 TX9 0 ∈ TB := (tbt2 112 rfl rfl)
set_option maxRecDepth 10000 in
theorem uwk_X9_1 : u_lay RX9 TX9 1 ∈ TB := (tbt2 114 rfl rfl)
set_option maxRecDepth 10000 in
theorem uwk_X9_2 : u_lay RX9 TX9 2 ∈ TB := (tbt2 116 rfl rfl)
set_option maxRecDepth 10000 in
theorem uwk_X9_3 : u_lay RX9 TX9 3 ∈ TB := (tbt2 118 rfl rfl)
set_option maxRecDepth 10000 in
theorem uwk_X9_4 : u_lay RX9 TX9 4 ∈ TB := (tbt2 120 rfl rfl)
set_option maxRecDepth 10000 in
theorem uwk_X9_5 : u_lay RX9 TX9 5 ∈ TB := (tbt2 122 rfl rfl)
set_option maxRecDepth 10000 in
theorem uwk_X9_6 : u_lay RX9 TX9 6 ∈ TB := (tbt2 124 rfl rfl)
set_option maxRecDepth 10000 in
theorem uw_X9 : ∀ w ∈ u_ws RX9 TX9 7, w ∈ TB := by
  intro w hw
  obtain ⟨k, hk, rfl⟩ := List.mem_map.mp hw
  have hk := List.mem_range.mp hk
  match k, hk with
  | 0, _ => exact uwk_X9_0
  | 1, _ => exact uwk_X9_1
  | 2, _ => exact uwk_X9_2
  | 3, _ => exact uwk_X9_3
  | 4, _ => exact uwk_X9_4
  | 5, _ => exact uwk_X9_5
  | 6, _ => exact uwk_X9_6
  | k + 7, h => exact absurd h (by omega)
set_option maxRecDepth 10000 in
theorem uwk_X10_0 : u_lay RX10 TX10 0 ∈ TB := (tbt4 204 rfl rfl)
set_option maxRecDepth 10000 in
theorem uwk_X10_1 : u_lay RX10 TX10 1 ∈ TB := (tbt4 206 rfl rfl)
set_option maxRecDepth 10000 in
theorem uwk_X10_2 : u_lay RX10 TX10 2 ∈ TB := (tbt4 208 rfl rfl)
set_option maxRecDepth 10000 in
theorem uwk_X10_3 : u_lay RX10 TX10 3 ∈ TB := (tbt4 210 rfl rfl)
set_option maxRecDepth 10000 in
theorem uwk_X10_4 : u_lay RX10 TX10 4 ∈ TB := (tbt4 212 rfl rfl)
set_option maxRecDepth 10000 in
theorem uwk_X10_5 : u_lay RX10 TX10 5 ∈ TB := (tbt4 214 rfl rfl)
set_option maxRecDepth 10000 in
theorem uwk_X10_6 : u_lay RX10 TX10 6 ∈ TB := (tbt4 216 rfl rfl)
set_option maxRecDepth 10000 in
theorem uwk_X10_7 : u_lay RX10 TX10 7 ∈ TB := (tbt4 218 rfl rfl)
set_option maxRecDepth 10000 in
theorem uwk_X10_8 : u_lay RX10 TX10 8 ∈ TB := (tbt4 220 rfl rfl)
set_option maxRecDepth 10000 in
theorem uwk_X10_9 : u_lay RX10 TX10 9 ∈ TB := (tbt4 222 rfl rfl)
set_option maxRecDepth 10000 in
theorem uwk_X10_10 : u_lay RX10 TX10 10 ∈ TB := (tbt4 224 rfl rfl)
set_option maxRecDepth 10000 in
theorem uwk_X10_11 : u_lay RX10 TX10 11 ∈ TB := (tbt4 226 rfl rfl)
set_option maxRecDepth 10000 in
theorem uwk_X10_12 : u_lay RX10 TX10 12 ∈ TB := (tbt4 228 rfl rfl)
set_option maxRecDepth 10000 in
theorem uwk_X10_13 : u_lay RX10 TX10 13 ∈ TB := (tbt4 230 rfl rfl)
set_option maxRecDepth 10000 in
theorem uwk_X10_14 : u_lay RX10 TX10 14 ∈ TB := (tbt4 232 rfl rfl)
set_option maxRecDepth 10000 in
theorem uwk_X10_15 : u_lay RX10 TX10 15 ∈ TB := (tbt4 234 rfl rfl)
set_option maxRecDepth 10000 in
theorem uwk_X10_16 : u_lay RX10 TX10 16 ∈ TB := (tbt4 236 rfl rfl)
set_option maxRecDepth 10000 in
theorem uwk_X10_17 : u_lay RX10 TX10 17 ∈ TB := (tbt4 238 rfl rfl)
set_option maxRecDepth 10000 in
theorem uwk_X10_18 : u_lay RX10 TX10 18 ∈ TB := (tbt5 0 rfl rfl)
set_option maxRecDepth 10000 in
theorem uwk_X10_19 : u_lay RX10 TX10 19 ∈ TB := (tbt5 2 rfl rfl)
set_option maxRecDepth 10000 in
theorem uwk_X10_20 : u_lay RX10 TX10 20 ∈ TB := (tbt5 4 rfl rfl)
set_option maxRecDepth 10000 in
theorem uwk_X10_21 : u_lay RX10 TX10 21 ∈ TB := (tbt5 6 rfl rfl)
set_option maxRecDepth 10000 in
theorem uwk_X10_22 : u_lay RX10 TX10 22 ∈ TB := (tbt5 8 rfl rfl)
set_option maxRecDepth 10000 in
theorem uwk_X10_23 : u_lay RX10 TX10 23 ∈ TB := (tbt5 10 rfl rfl)
set_option maxRecDepth 10000 in
theorem uwk_X10_24 : u_lay RX10 TX10 24 ∈ TB := (tbt5 12 rfl rfl)
set_option maxRecDepth 10000 in
theorem uwk_X10_25 : u_lay RX10 TX10 25 ∈ TB := (tbt5 14 rfl rfl)
set_option maxRecDepth 10000 in
theorem uwk_X10_26 : u_lay RX10 TX10 26 ∈ TB := (tbt5 16 rfl rfl)
set_option maxRecDepth 10000 in
theorem uwk_X10_27 : u_lay RX10 TX10 27 ∈ TB := (tbt5 18 rfl rfl)
set_option maxRecDepth 10000 in
theorem uwk_X10_28 : u_lay RX10 TX10 28 ∈ TB := (tbt5 20 rfl rfl)
set_option maxRecDepth 10000 in
theorem uwk_X10_29 : u_lay RX10 TX10 29 ∈ TB := (tbt5 22 rfl rfl)
set_option maxRecDepth 10000 in
theorem uwk_X10_30 : u_lay RX10 TX10 30 ∈ TB := (tbt5 24 rfl rfl)
set_option maxRecDepth 10000 in
theorem uwk_X10_31 : u_lay RX10 TX10 31 ∈ TB := (tbt5 26 rfl rfl)
set_option maxRecDepth 10000 in
theorem uwk_X10_32 : u_lay RX10 TX10 32 ∈ TB := (tbt5 28 rfl rfl)
set_option maxRecDepth 10000 in
theorem uwk_X10_33 : u_lay RX10 TX10 33 ∈ TB := (tbt5 30 rfl rfl)
set_option maxRecDepth 10000 in
theorem uwk_X10_34 : u_lay RX10 TX10 34 ∈ TB := (tbt5 32 rfl rfl)
set_option maxRecDepth 10000 in
theorem uw_X10 : ∀ w ∈ u_ws RX10 TX10 35, w ∈ TB := by
  intro w hw
  obtain ⟨k, hk, rfl⟩ := List.mem_map.mp hw
  have hk := List.mem_range.mp hk
  match k, hk with
  | 0, _ => exact uwk_X10_0
  | 1, _ => exact uwk_X10_1
  | 2, _ => exact uwk_X10_2
  | 3, _ => exact uwk_X10_3
  | 4, _ => exact uwk_X10_4
  | 5, _ => exact uwk_X10_5
  | 6, _ => exact uwk_X10_6
  | 7, _ => exact uwk_X10_7
  | 8, _ => exact uwk_X10_8
  | 9, _ => exact uwk_X10_9
  | 10, _ => exact uwk_X10_10
  | 11, _ => exact uwk_X10_11
  | 12, _ => exact uwk_X10_12
  | 13, _ => exact uwk_X10_13
  | 14, _ => exact uwk_X10_14
  | 15, _ => exact uwk_X10_15
  | 16, _ => exact uwk_X10_16
  | 17, _ => exact uwk_X10_17
  | 18, _ => exact uwk_X10_18
  | 19, _ => exact uwk_X10_19
  | 20, _ => exact uwk_X10_20
  | 21, _ => exact uwk_X10_21
  | 22, _ => exact uwk_X10_22
  | 23, _ => exact uwk_X10_23
  | 24, _ => exact uwk_X10_24
  | 25, _ => exact uwk_X10_25
  | 26, _ => exact uwk_X10_26
  | 27, _ => exact uwk_X10_27
  | 28, _ => exact uwk_X10_28
  | 29, _ => exact uwk_X10_29
  | 30, _ => exact uwk_X10_30
  | 31, _ => exact uwk_X10_31
  | 32, _ => exact uwk_X10_32
  | 33, _ => exact uwk_X10_33
  | 34, _ => exact uwk_X10_34
  | k + 35, h => exact absurd h (by omega)
set_option maxRecDepth 10000 in
theorem fl_X7_9 : FL RX7 9 RX7 TX7 5 0 := ⟨by decide, uw_X7, Or.inl (tbt1 28 rfl rfl)⟩
set_option maxRecDepth 10000 in
theorem ff_X7_9 : FF RX7 9 5 0 := ⟨RX7, TX7, 5, rfl, fl_X7_9⟩
set_option maxRecDepth 10000 in
theorem fp_X7_9 : FP RX7 9 5 0 (.array .int) true := ⟨RX7, TX7, 5, tyX7, rfl, fl_X7_9, tyX7_ok, nmX7, rfl, by decide +kernel, fun _ => rfl⟩
set_option maxRecDepth 10000 in
theorem fl_X7_15 : FL RX7 15 RX7 TX7 5 1 := ⟨by decide, uw_X7, Or.inl (tbt1 29 rfl rfl)⟩
set_option maxRecDepth 10000 in
theorem ff_X7_15 : FF RX7 15 5 1 := ⟨RX7, TX7, 5, rfl, fl_X7_15⟩
set_option maxRecDepth 10000 in
theorem fp_X7_15 : FP RX7 15 5 1 (.array .int) true := ⟨RX7, TX7, 5, tyX7, rfl, fl_X7_15, tyX7_ok, nmX7, rfl, by decide +kernel, fun _ => rfl⟩
set_option maxRecDepth 10000 in
theorem fl_X7_18 : FL RX7 18 RX7 TX7 5 2 := ⟨by decide, uw_X7, Or.inl (tbt1 30 rfl rfl)⟩
set_option maxRecDepth 10000 in
theorem ff_X7_18 : FF RX7 18 5 2 := ⟨RX7, TX7, 5, rfl, fl_X7_18⟩
set_option maxRecDepth 10000 in
theorem fp_X7_18 : FP RX7 18 5 2 (.array .int) true := ⟨RX7, TX7, 5, tyX7, rfl, fl_X7_18, tyX7_ok, nmX7, rfl, by decide +kernel, fun _ => rfl⟩
set_option maxRecDepth 10000 in
theorem fl_X7_21 : FL RX7 21 RX7 TX7 5 3 := ⟨by decide, uw_X7, Or.inl (tbt1 31 rfl rfl)⟩
set_option maxRecDepth 10000 in
theorem ff_X7_21 : FF RX7 21 5 3 := ⟨RX7, TX7, 5, rfl, fl_X7_21⟩
set_option maxRecDepth 10000 in
theorem fp_X7_21 : FP RX7 21 5 3 (.int) false := ⟨RX7, TX7, 5, tyX7, rfl, fl_X7_21, tyX7_ok, nmX7, rfl, by decide +kernel, fun h => absurd h (by decide)⟩
set_option maxRecDepth 10000 in
theorem fl_X9_65 : FL RX9 65 RX7 TX7 5 3 := ⟨by decide, uw_X7, Or.inr ⟨"OneSnip", (List.mem_of_getElem? (i := 1) rfl)⟩⟩
set_option maxRecDepth 10000 in
theorem ff_X9_65 : FF RX9 65 5 3 := ⟨RX7, TX7, 5, rfl, fl_X9_65⟩
set_option maxRecDepth 10000 in
theorem fp_X9_65 : FP RX9 65 5 3 (.int) false := ⟨RX7, TX7, 5, tyX7, rfl, fl_X9_65, tyX7_ok, nmX7, rfl, by decide +kernel, fun h => absurd h (by decide)⟩
set_option maxRecDepth 10000 in
theorem fl_X2_59 : FL RX2 59 RX7 TX7 5 3 := ⟨by decide, uw_X7, Or.inr ⟨"OneSnip", (List.mem_of_getElem? (i := 2) rfl)⟩⟩
set_option maxRecDepth 10000 in
theorem ff_X2_59 : FF RX2 59 5 3 := ⟨RX7, TX7, 5, rfl, fl_X2_59⟩
set_option maxRecDepth 10000 in
theorem fp_X2_59 : FP RX2 59 5 3 (.int) false := ⟨RX7, TX7, 5, tyX7, rfl, fl_X2_59, tyX7_ok, nmX7, rfl, by decide +kernel, fun h => absurd h (by decide)⟩
set_option maxRecDepth 10000 in
theorem fl_X2_42 : FL RX2 42 RX7 TX7 5 4 := ⟨by decide, uw_X7, Or.inr ⟨"OneSnip", (List.mem_of_getElem? (i := 3) rfl)⟩⟩
set_option maxRecDepth 10000 in
theorem ff_X2_42 : FF RX2 42 5 4 := ⟨RX7, TX7, 5, rfl, fl_X2_42⟩
set_option maxRecDepth 10000 in
theorem fp_X2_42 : FP RX2 42 5 4 (.int) false := ⟨RX7, TX7, 5, tyX7, rfl, fl_X2_42, tyX7_ok, nmX7, rfl, by decide +kernel, fun h => absurd h (by decide)⟩
set_option maxRecDepth 10000 in
theorem fl_X7_25 : FL RX7 25 RX7 TX7 5 4 := ⟨by decide, uw_X7, Or.inl (tbt1 35 rfl rfl)⟩
set_option maxRecDepth 10000 in
theorem ff_X7_25 : FF RX7 25 5 4 := ⟨RX7, TX7, 5, rfl, fl_X7_25⟩
set_option maxRecDepth 10000 in
theorem fp_X7_25 : FP RX7 25 5 4 (.int) false := ⟨RX7, TX7, 5, tyX7, rfl, fl_X7_25, tyX7_ok, nmX7, rfl, by decide +kernel, fun h => absurd h (by decide)⟩
set_option maxRecDepth 10000 in
theorem fl_X0_36 : FL RX0 36 RX7 TX7 5 4 := ⟨by decide, uw_X7, Or.inr ⟨"OneSnip", (List.mem_of_getElem? (i := 4) rfl)⟩⟩
set_option maxRecDepth 10000 in
theorem ff_X0_36 : FF RX0 36 5 4 := ⟨RX7, TX7, 5, rfl, fl_X0_36⟩
set_option maxRecDepth 10000 in
theorem fp_X0_36 : FP RX0 36 5 4 (.int) false := ⟨RX7, TX7, 5, tyX7, rfl, fl_X0_36, tyX7_ok, nmX7, rfl, by decide +kernel, fun h => absurd h (by decide)⟩
set_option maxRecDepth 10000 in
theorem fl_X8_42 : FL RX8 42 RX7 TX7 5 4 := ⟨by decide, uw_X7, Or.inr ⟨"OneSnip", (List.mem_of_getElem? (i := 5) rfl)⟩⟩
set_option maxRecDepth 10000 in
theorem ff_X8_42 : FF RX8 42 5 4 := ⟨RX7, TX7, 5, rfl, fl_X8_42⟩
set_option maxRecDepth 10000 in
theorem fp_X8_42 : FP RX8 42 5 4 (.int) false := ⟨RX7, TX7, 5, tyX7, rfl, fl_X8_42, tyX7_ok, nmX7, rfl, by decide +kernel, fun h => absurd h (by decide)⟩
set_option maxRecDepth 10000 in
theorem fl_X4_73 : FL RX4 73 RX7 TX7 5 4 := ⟨by decide, uw_X7, Or.inr ⟨"OneSnip", (List.mem_of_getElem? (i := 6) rfl)⟩⟩
set_option maxRecDepth 10000 in
theorem ff_X4_73 : FF RX4 73 5 4 := ⟨RX7, TX7, 5, rfl, fl_X4_73⟩
set_option maxRecDepth 10000 in
theorem fp_X4_73 : FP RX4 73 5 4 (.int) false := ⟨RX7, TX7, 5, tyX7, rfl, fl_X4_73, tyX7_ok, nmX7, rfl, by decide +kernel, fun h => absurd h (by decide)⟩
set_option maxRecDepth 10000 in
theorem fl_X1_41 : FL RX1 41 RX7 TX7 5 4 := ⟨by decide, uw_X7, Or.inr ⟨"OneSnip", (List.mem_of_getElem? (i := 7) rfl)⟩⟩
set_option maxRecDepth 10000 in
theorem ff_X1_41 : FF RX1 41 5 4 := ⟨RX7, TX7, 5, rfl, fl_X1_41⟩
set_option maxRecDepth 10000 in
theorem fp_X1_41 : FP RX1 41 5 4 (.int) false := ⟨RX7, TX7, 5, tyX7, rfl, fl_X1_41, tyX7_ok, nmX7, rfl, by decide +kernel, fun h => absurd h (by decide)⟩
set_option maxRecDepth 10000 in
theorem fl_X9_205 : FL RX9 205 RX7 TX7 5 4 := ⟨by decide, uw_X7, Or.inr ⟨"OneSnip", (List.mem_of_getElem? (i := 8) rfl)⟩⟩
set_option maxRecDepth 10000 in
theorem ff_X9_205 : FF RX9 205 5 4 := ⟨RX7, TX7, 5, rfl, fl_X9_205⟩
set_option maxRecDepth 10000 in
theorem fp_X9_205 : FP RX9 205 5 4 (.int) false := ⟨RX7, TX7, 5, tyX7, rfl, fl_X9_205, tyX7_ok, nmX7, rfl, by decide +kernel, fun h => absurd h (by decide)⟩
set_option maxRecDepth 10000 in
theorem fl_X4_44 : FL RX4 44 RX4 TX4 12 0 := ⟨by decide, uw_X4, Or.inl (tbt1 59 rfl rfl)⟩
set_option maxRecDepth 10000 in
theorem ff_X4_44 : FF RX4 44 3 0 := ⟨RX4, TX4, 12, rfl, fl_X4_44⟩
set_option maxRecDepth 10000 in
theorem fp_X4_44 : FP RX4 44 3 0 (.object "OneSnip$Sheet") true := ⟨RX4, TX4, 12, tyX4, rfl, fl_X4_44, tyX4_ok, nmX4, rfl, by decide +kernel, fun _ => rfl⟩
set_option maxRecDepth 10000 in
theorem fl_X4_9 : FL RX4 9 RX4 TX4 12 1 := ⟨by decide, uw_X4, Or.inl (tbt1 60 rfl rfl)⟩
set_option maxRecDepth 10000 in
theorem ff_X4_9 : FF RX4 9 3 1 := ⟨RX4, TX4, 12, rfl, fl_X4_9⟩
set_option maxRecDepth 10000 in
theorem fp_X4_9 : FP RX4 9 3 1 (.array .int) true := ⟨RX4, TX4, 12, tyX4, rfl, fl_X4_9, tyX4_ok, nmX4, rfl, by decide +kernel, fun _ => rfl⟩
set_option maxRecDepth 10000 in
theorem fl_X4_15 : FL RX4 15 RX4 TX4 12 2 := ⟨by decide, uw_X4, Or.inl (tbt1 61 rfl rfl)⟩
set_option maxRecDepth 10000 in
theorem ff_X4_15 : FF RX4 15 3 2 := ⟨RX4, TX4, 12, rfl, fl_X4_15⟩
set_option maxRecDepth 10000 in
theorem fp_X4_15 : FP RX4 15 3 2 (.array .int) true := ⟨RX4, TX4, 12, tyX4, rfl, fl_X4_15, tyX4_ok, nmX4, rfl, by decide +kernel, fun _ => rfl⟩
set_option maxRecDepth 10000 in
theorem fl_X4_18 : FL RX4 18 RX4 TX4 12 3 := ⟨by decide, uw_X4, Or.inl (tbt1 62 rfl rfl)⟩
set_option maxRecDepth 10000 in
theorem ff_X4_18 : FF RX4 18 3 3 := ⟨RX4, TX4, 12, rfl, fl_X4_18⟩
set_option maxRecDepth 10000 in
theorem fp_X4_18 : FP RX4 18 3 3 (.array .int) true := ⟨RX4, TX4, 12, tyX4, rfl, fl_X4_18, tyX4_ok, nmX4, rfl, by decide +kernel, fun _ => rfl⟩
set_option maxRecDepth 10000 in
theorem fl_X4_21 : FL RX4 21 RX4 TX4 12 4 := ⟨by decide, uw_X4, Or.inl (tbt1 63 rfl rfl)⟩
set_option maxRecDepth 10000 in
theorem ff_X4_21 : FF RX4 21 3 4 := ⟨RX4, TX4, 12, rfl, fl_X4_21⟩
set_option maxRecDepth 10000 in
theorem fp_X4_21 : FP RX4 21 3 4 (.array .int) true := ⟨RX4, TX4, 12, tyX4, rfl, fl_X4_21, tyX4_ok, nmX4, rfl, by decide +kernel, fun _ => rfl⟩
set_option maxRecDepth 10000 in
theorem fl_X4_24 : FL RX4 24 RX4 TX4 12 5 := ⟨by decide, uw_X4, Or.inl (tbt1 64 rfl rfl)⟩
set_option maxRecDepth 10000 in
theorem ff_X4_24 : FF RX4 24 3 5 := ⟨RX4, TX4, 12, rfl, fl_X4_24⟩
set_option maxRecDepth 10000 in
theorem fp_X4_24 : FP RX4 24 3 5 (.array .int) true := ⟨RX4, TX4, 12, tyX4, rfl, fl_X4_24, tyX4_ok, nmX4, rfl, by decide +kernel, fun _ => rfl⟩
set_option maxRecDepth 10000 in
theorem fl_X4_29 : FL RX4 29 RX4 TX4 12 6 := ⟨by decide, uw_X4, Or.inl (tbt1 65 rfl rfl)⟩
set_option maxRecDepth 10000 in
theorem ff_X4_29 : FF RX4 29 3 6 := ⟨RX4, TX4, 12, rfl, fl_X4_29⟩
set_option maxRecDepth 10000 in
theorem fp_X4_29 : FP RX4 29 3 6 (.array .int) true := ⟨RX4, TX4, 12, tyX4, rfl, fl_X4_29, tyX4_ok, nmX4, rfl, by decide +kernel, fun _ => rfl⟩
set_option maxRecDepth 10000 in
theorem fl_X4_32 : FL RX4 32 RX4 TX4 12 7 := ⟨by decide, uw_X4, Or.inl (tbt1 66 rfl rfl)⟩
set_option maxRecDepth 10000 in
theorem ff_X4_32 : FF RX4 32 3 7 := ⟨RX4, TX4, 12, rfl, fl_X4_32⟩
set_option maxRecDepth 10000 in
theorem fp_X4_32 : FP RX4 32 3 7 (.array .int) true := ⟨RX4, TX4, 12, tyX4, rfl, fl_X4_32, tyX4_ok, nmX4, rfl, by decide +kernel, fun _ => rfl⟩
set_option maxRecDepth 10000 in
theorem fl_X4_35 : FL RX4 35 RX4 TX4 12 8 := ⟨by decide, uw_X4, Or.inl (tbt1 67 rfl rfl)⟩
set_option maxRecDepth 10000 in
theorem ff_X4_35 : FF RX4 35 3 8 := ⟨RX4, TX4, 12, rfl, fl_X4_35⟩
set_option maxRecDepth 10000 in
theorem fp_X4_35 : FP RX4 35 3 8 (.array .int) true := ⟨RX4, TX4, 12, tyX4, rfl, fl_X4_35, tyX4_ok, nmX4, rfl, by decide +kernel, fun _ => rfl⟩
set_option maxRecDepth 10000 in
theorem fl_X4_38 : FL RX4 38 RX4 TX4 12 9 := ⟨by decide, uw_X4, Or.inl (tbt1 68 rfl rfl)⟩
set_option maxRecDepth 10000 in
theorem ff_X4_38 : FF RX4 38 3 9 := ⟨RX4, TX4, 12, rfl, fl_X4_38⟩
set_option maxRecDepth 10000 in
theorem fp_X4_38 : FP RX4 38 3 9 (.array .int) true := ⟨RX4, TX4, 12, tyX4, rfl, fl_X4_38, tyX4_ok, nmX4, rfl, by decide +kernel, fun _ => rfl⟩
set_option maxRecDepth 10000 in
theorem fl_X4_41 : FL RX4 41 RX4 TX4 12 10 := ⟨by decide, uw_X4, Or.inl (tbt1 69 rfl rfl)⟩
set_option maxRecDepth 10000 in
theorem ff_X4_41 : FF RX4 41 3 10 := ⟨RX4, TX4, 12, rfl, fl_X4_41⟩
set_option maxRecDepth 10000 in
theorem fp_X4_41 : FP RX4 41 3 10 (.array .int) true := ⟨RX4, TX4, 12, tyX4, rfl, fl_X4_41, tyX4_ok, nmX4, rfl, by decide +kernel, fun _ => rfl⟩
set_option maxRecDepth 10000 in
theorem fl_X4_48 : FL RX4 48 RX4 TX4 12 11 := ⟨by decide, uw_X4, Or.inl (tbt1 70 rfl rfl)⟩
set_option maxRecDepth 10000 in
theorem ff_X4_48 : FF RX4 48 3 11 := ⟨RX4, TX4, 12, rfl, fl_X4_48⟩
set_option maxRecDepth 10000 in
theorem fp_X4_48 : FP RX4 48 3 11 (.int) false := ⟨RX4, TX4, 12, tyX4, rfl, fl_X4_48, tyX4_ok, nmX4, rfl, by decide +kernel, fun h => absurd h (by decide)⟩
set_option maxRecDepth 10000 in
theorem fl_X9_85 : FL RX9 85 RX4 TX4 12 11 := ⟨by decide, uw_X4, Or.inr ⟨"OneSnip", (List.mem_of_getElem? (i := 9) rfl)⟩⟩
set_option maxRecDepth 10000 in
theorem ff_X9_85 : FF RX9 85 3 11 := ⟨RX4, TX4, 12, rfl, fl_X9_85⟩
set_option maxRecDepth 10000 in
theorem fp_X9_85 : FP RX9 85 3 11 (.int) false := ⟨RX4, TX4, 12, tyX4, rfl, fl_X9_85, tyX4_ok, nmX4, rfl, by decide +kernel, fun h => absurd h (by decide)⟩
set_option maxRecDepth 10000 in
theorem fl_X0_9 : FL RX0 9 RX0 TX0 2 0 := ⟨by decide, uw_X0, Or.inl (tbt1 103 rfl rfl)⟩
set_option maxRecDepth 10000 in
theorem ff_X0_9 : FF RX0 9 0 0 := ⟨RX0, TX0, 2, rfl, fl_X0_9⟩
set_option maxRecDepth 10000 in
theorem fp_X0_9 : FP RX0 9 0 0 (.object "OneSnip$Sheet") true := ⟨RX0, TX0, 2, tyX0, rfl, fl_X0_9, tyX0_ok, nmX0, rfl, by decide +kernel, fun _ => rfl⟩
set_option maxRecDepth 10000 in
theorem fl_X0_15 : FL RX0 15 RX0 TX0 2 1 := ⟨by decide, uw_X0, Or.inl (tbt1 104 rfl rfl)⟩
set_option maxRecDepth 10000 in
theorem ff_X0_15 : FF RX0 15 0 1 := ⟨RX0, TX0, 2, rfl, fl_X0_15⟩
set_option maxRecDepth 10000 in
theorem fp_X0_15 : FP RX0 15 0 1 (.object "OneSnip$Pile") true := ⟨RX0, TX0, 2, tyX0, rfl, fl_X0_15, tyX0_ok, nmX0, rfl, by decide +kernel, fun _ => rfl⟩
set_option maxRecDepth 10000 in
theorem fl_X8_21 : FL RX8 21 RX8 TX8 6 0 := ⟨by decide, uw_X8, Or.inl (tbt1 116 rfl rfl)⟩
set_option maxRecDepth 10000 in
theorem ff_X8_21 : FF RX8 21 6 0 := ⟨RX8, TX8, 6, rfl, fl_X8_21⟩
set_option maxRecDepth 10000 in
theorem fp_X8_21 : FP RX8 21 6 0 (.object "OneSnip$Sheet") true := ⟨RX8, TX8, 6, tyX8, rfl, fl_X8_21, tyX8_ok, nmX8, rfl, by decide +kernel, fun _ => rfl⟩
set_option maxRecDepth 10000 in
theorem fl_X8_9 : FL RX8 9 RX8 TX8 6 1 := ⟨by decide, uw_X8, Or.inl (tbt1 117 rfl rfl)⟩
set_option maxRecDepth 10000 in
theorem ff_X8_9 : FF RX8 9 6 1 := ⟨RX8, TX8, 6, rfl, fl_X8_9⟩
set_option maxRecDepth 10000 in
theorem fp_X8_9 : FP RX8 9 6 1 (.array .int) true := ⟨RX8, TX8, 6, tyX8, rfl, fl_X8_9, tyX8_ok, nmX8, rfl, by decide +kernel, fun _ => rfl⟩
set_option maxRecDepth 10000 in
theorem fl_X8_15 : FL RX8 15 RX8 TX8 6 2 := ⟨by decide, uw_X8, Or.inl (tbt1 118 rfl rfl)⟩
set_option maxRecDepth 10000 in
theorem ff_X8_15 : FF RX8 15 6 2 := ⟨RX8, TX8, 6, rfl, fl_X8_15⟩
set_option maxRecDepth 10000 in
theorem fp_X8_15 : FP RX8 15 6 2 (.array .int) true := ⟨RX8, TX8, 6, tyX8, rfl, fl_X8_15, tyX8_ok, nmX8, rfl, by decide +kernel, fun _ => rfl⟩
set_option maxRecDepth 10000 in
theorem fl_X8_18 : FL RX8 18 RX8 TX8 6 3 := ⟨by decide, uw_X8, Or.inl (tbt1 119 rfl rfl)⟩
set_option maxRecDepth 10000 in
theorem ff_X8_18 : FF RX8 18 6 3 := ⟨RX8, TX8, 6, rfl, fl_X8_18⟩
set_option maxRecDepth 10000 in
theorem fp_X8_18 : FP RX8 18 6 3 (.array .int) true := ⟨RX8, TX8, 6, tyX8, rfl, fl_X8_18, tyX8_ok, nmX8, rfl, by decide +kernel, fun _ => rfl⟩
set_option maxRecDepth 10000 in
theorem fl_X8_25 : FL RX8 25 RX8 TX8 6 4 := ⟨by decide, uw_X8, Or.inl (tbt1 120 rfl rfl)⟩
set_option maxRecDepth 10000 in
theorem ff_X8_25 : FF RX8 25 6 4 := ⟨RX8, TX8, 6, rfl, fl_X8_25⟩
set_option maxRecDepth 10000 in
theorem fp_X8_25 : FP RX8 25 6 4 (.boolean) false := ⟨RX8, TX8, 6, tyX8, rfl, fl_X8_25, tyX8_ok, nmX8, rfl, by decide +kernel, fun h => absurd h (by decide)⟩
set_option maxRecDepth 10000 in
theorem fl_X9_78 : FL RX9 78 RX8 TX8 6 4 := ⟨by decide, uw_X8, Or.inr ⟨"OneSnip", (List.mem_of_getElem? (i := 10) rfl)⟩⟩
set_option maxRecDepth 10000 in
theorem ff_X9_78 : FF RX9 78 6 4 := ⟨RX8, TX8, 6, rfl, fl_X9_78⟩
set_option maxRecDepth 10000 in
theorem fp_X9_78 : FP RX9 78 6 4 (.boolean) false := ⟨RX8, TX8, 6, tyX8, rfl, fl_X9_78, tyX8_ok, nmX8, rfl, by decide +kernel, fun h => absurd h (by decide)⟩
set_option maxRecDepth 10000 in
theorem fl_X8_29 : FL RX8 29 RX8 TX8 6 5 := ⟨by decide, uw_X8, Or.inl (tbt1 122 rfl rfl)⟩
set_option maxRecDepth 10000 in
theorem ff_X8_29 : FF RX8 29 6 5 := ⟨RX8, TX8, 6, rfl, fl_X8_29⟩
set_option maxRecDepth 10000 in
theorem fp_X8_29 : FP RX8 29 6 5 (.int) false := ⟨RX8, TX8, 6, tyX8, rfl, fl_X8_29, tyX8_ok, nmX8, rfl, by decide +kernel, fun h => absurd h (by decide)⟩
set_option maxRecDepth 10000 in
theorem fl_X9_179 : FL RX9 179 RX8 TX8 6 5 := ⟨by decide, uw_X8, Or.inr ⟨"OneSnip", (List.mem_of_getElem? (i := 11) rfl)⟩⟩
set_option maxRecDepth 10000 in
theorem ff_X9_179 : FF RX9 179 6 5 := ⟨RX8, TX8, 6, rfl, fl_X9_179⟩
set_option maxRecDepth 10000 in
theorem fp_X9_179 : FP RX9 179 6 5 (.int) false := ⟨RX8, TX8, 6, tyX8, rfl, fl_X9_179, tyX8_ok, nmX8, rfl, by decide +kernel, fun h => absurd h (by decide)⟩
set_option maxRecDepth 10000 in
theorem fl_X1_15 : FL RX1 15 RX1 TX1 3 0 := ⟨by decide, uw_X1, Or.inl (tbt1 143 rfl rfl)⟩
set_option maxRecDepth 10000 in
theorem ff_X1_15 : FF RX1 15 1 0 := ⟨RX1, TX1, 3, rfl, fl_X1_15⟩
set_option maxRecDepth 10000 in
theorem fp_X1_15 : FP RX1 15 1 0 (.object "OneSnip$Sheet") true := ⟨RX1, TX1, 3, tyX1, rfl, fl_X1_15, tyX1_ok, nmX1, rfl, by decide +kernel, fun _ => rfl⟩
set_option maxRecDepth 10000 in
theorem fl_X1_9 : FL RX1 9 RX1 TX1 3 1 := ⟨by decide, uw_X1, Or.inl (tbt1 144 rfl rfl)⟩
set_option maxRecDepth 10000 in
theorem ff_X1_9 : FF RX1 9 1 1 := ⟨RX1, TX1, 3, rfl, fl_X1_9⟩
set_option maxRecDepth 10000 in
theorem fp_X1_9 : FP RX1 9 1 1 (.array .int) true := ⟨RX1, TX1, 3, tyX1, rfl, fl_X1_9, tyX1_ok, nmX1, rfl, by decide +kernel, fun _ => rfl⟩
set_option maxRecDepth 10000 in
theorem fl_X2_36 : FL RX2 36 RX1 TX1 3 2 := ⟨by decide, uw_X1, Or.inr ⟨"OneSnip", (List.mem_of_getElem? (i := 12) rfl)⟩⟩
set_option maxRecDepth 10000 in
theorem ff_X2_36 : FF RX2 36 1 2 := ⟨RX1, TX1, 3, rfl, fl_X2_36⟩
set_option maxRecDepth 10000 in
theorem fp_X2_36 : FP RX2 36 1 2 (.int) false := ⟨RX1, TX1, 3, tyX1, rfl, fl_X2_36, tyX1_ok, nmX1, rfl, by decide +kernel, fun h => absurd h (by decide)⟩
set_option maxRecDepth 10000 in
theorem fl_X1_25 : FL RX1 25 RX1 TX1 3 2 := ⟨by decide, uw_X1, Or.inl (tbt1 146 rfl rfl)⟩
set_option maxRecDepth 10000 in
theorem ff_X1_25 : FF RX1 25 1 2 := ⟨RX1, TX1, 3, rfl, fl_X1_25⟩
set_option maxRecDepth 10000 in
theorem fp_X1_25 : FP RX1 25 1 2 (.int) false := ⟨RX1, TX1, 3, tyX1, rfl, fl_X1_25, tyX1_ok, nmX1, rfl, by decide +kernel, fun h => absurd h (by decide)⟩
set_option maxRecDepth 10000 in
theorem fl_X9_203 : FL RX9 203 RX1 TX1 3 2 := ⟨by decide, uw_X1, Or.inr ⟨"OneSnip", (List.mem_of_getElem? (i := 13) rfl)⟩⟩
set_option maxRecDepth 10000 in
theorem ff_X9_203 : FF RX9 203 1 2 := ⟨RX1, TX1, 3, rfl, fl_X9_203⟩
set_option maxRecDepth 10000 in
theorem fp_X9_203 : FP RX9 203 1 2 (.int) false := ⟨RX1, TX1, 3, tyX1, rfl, fl_X9_203, tyX1_ok, nmX1, rfl, by decide +kernel, fun h => absurd h (by decide)⟩
set_option maxRecDepth 10000 in
theorem fl_X2_32 : FL RX2 32 RX2 TX2 10 0 := ⟨by decide, uw_X2, Or.inl (tbt1 167 rfl rfl)⟩
set_option maxRecDepth 10000 in
theorem ff_X2_32 : FF RX2 32 2 0 := ⟨RX2, TX2, 10, rfl, fl_X2_32⟩
set_option maxRecDepth 10000 in
theorem fp_X2_32 : FP RX2 32 2 0 (.object "OneSnip$Layout") true := ⟨RX2, TX2, 10, tyX2, rfl, fl_X2_32, tyX2_ok, nmX2, rfl, by decide +kernel, fun _ => rfl⟩
set_option maxRecDepth 10000 in
theorem fl_X6_77 : FL RX6 77 RX2 TX2 10 0 := ⟨by decide, uw_X2, Or.inr ⟨"OneSnip", (List.mem_of_getElem? (i := 14) rfl)⟩⟩
set_option maxRecDepth 10000 in
theorem ff_X6_77 : FF RX6 77 2 0 := ⟨RX2, TX2, 10, rfl, fl_X6_77⟩
set_option maxRecDepth 10000 in
theorem fl_X2_9 : FL RX2 9 RX2 TX2 10 1 := ⟨by decide, uw_X2, Or.inl (tbt1 169 rfl rfl)⟩
set_option maxRecDepth 10000 in
theorem ff_X2_9 : FF RX2 9 2 1 := ⟨RX2, TX2, 10, rfl, fl_X2_9⟩
set_option maxRecDepth 10000 in
theorem fp_X2_9 : FP RX2 9 2 1 (.array .int) true := ⟨RX2, TX2, 10, tyX2, rfl, fl_X2_9, tyX2_ok, nmX2, rfl, by decide +kernel, fun _ => rfl⟩
set_option maxRecDepth 10000 in
theorem fl_X2_15 : FL RX2 15 RX2 TX2 10 2 := ⟨by decide, uw_X2, Or.inl (tbt1 170 rfl rfl)⟩
set_option maxRecDepth 10000 in
theorem ff_X2_15 : FF RX2 15 2 2 := ⟨RX2, TX2, 10, rfl, fl_X2_15⟩
set_option maxRecDepth 10000 in
theorem fp_X2_15 : FP RX2 15 2 2 (.array .int) true := ⟨RX2, TX2, 10, tyX2, rfl, fl_X2_15, tyX2_ok, nmX2, rfl, by decide +kernel, fun _ => rfl⟩
set_option maxRecDepth 10000 in
theorem fl_X2_18 : FL RX2 18 RX2 TX2 10 3 := ⟨by decide, uw_X2, Or.inl (tbt1 171 rfl rfl)⟩
set_option maxRecDepth 10000 in
theorem ff_X2_18 : FF RX2 18 2 3 := ⟨RX2, TX2, 10, rfl, fl_X2_18⟩
set_option maxRecDepth 10000 in
theorem fp_X2_18 : FP RX2 18 2 3 (.array .int) true := ⟨RX2, TX2, 10, tyX2, rfl, fl_X2_18, tyX2_ok, nmX2, rfl, by decide +kernel, fun _ => rfl⟩
set_option maxRecDepth 10000 in
theorem fl_X2_23 : FL RX2 23 RX2 TX2 10 4 := ⟨by decide, uw_X2, Or.inl (tbt1 172 rfl rfl)⟩
set_option maxRecDepth 10000 in
theorem ff_X2_23 : FF RX2 23 2 4 := ⟨RX2, TX2, 10, rfl, fl_X2_23⟩
set_option maxRecDepth 10000 in
theorem fp_X2_23 : FP RX2 23 2 4 (.array .int) true := ⟨RX2, TX2, 10, tyX2, rfl, fl_X2_23, tyX2_ok, nmX2, rfl, by decide +kernel, fun _ => rfl⟩
set_option maxRecDepth 10000 in
theorem fl_X2_26 : FL RX2 26 RX2 TX2 10 5 := ⟨by decide, uw_X2, Or.inl (tbt1 173 rfl rfl)⟩
set_option maxRecDepth 10000 in
theorem ff_X2_26 : FF RX2 26 2 5 := ⟨RX2, TX2, 10, rfl, fl_X2_26⟩
set_option maxRecDepth 10000 in
theorem fp_X2_26 : FP RX2 26 2 5 (.array .int) true := ⟨RX2, TX2, 10, tyX2, rfl, fl_X2_26, tyX2_ok, nmX2, rfl, by decide +kernel, fun _ => rfl⟩
set_option maxRecDepth 10000 in
theorem fl_X2_29 : FL RX2 29 RX2 TX2 10 6 := ⟨by decide, uw_X2, Or.inl (tbt1 174 rfl rfl)⟩
set_option maxRecDepth 10000 in
theorem ff_X2_29 : FF RX2 29 2 6 := ⟨RX2, TX2, 10, rfl, fl_X2_29⟩
set_option maxRecDepth 10000 in
theorem fp_X2_29 : FP RX2 29 2 6 (.array .int) true := ⟨RX2, TX2, 10, tyX2, rfl, fl_X2_29, tyX2_ok, nmX2, rfl, by decide +kernel, fun _ => rfl⟩
set_option maxRecDepth 10000 in
theorem fl_X2_104 : FL RX2 104 RX2 TX2 10 7 := ⟨by decide, uw_X2, Or.inl (tbt1 175 rfl rfl)⟩
set_option maxRecDepth 10000 in
theorem ff_X2_104 : FF RX2 104 2 7 := ⟨RX2, TX2, 10, rfl, fl_X2_104⟩
set_option maxRecDepth 10000 in
theorem fp_X2_104 : FP RX2 104 2 7 (.int) false := ⟨RX2, TX2, 10, tyX2, rfl, fl_X2_104, tyX2_ok, nmX2, rfl, by decide +kernel, fun h => absurd h (by decide)⟩
set_option maxRecDepth 10000 in
theorem fl_X2_107 : FL RX2 107 RX2 TX2 10 8 := ⟨by decide, uw_X2, Or.inl (tbt1 176 rfl rfl)⟩
set_option maxRecDepth 10000 in
theorem ff_X2_107 : FF RX2 107 2 8 := ⟨RX2, TX2, 10, rfl, fl_X2_107⟩
set_option maxRecDepth 10000 in
theorem fp_X2_107 : FP RX2 107 2 8 (.int) false := ⟨RX2, TX2, 10, tyX2, rfl, fl_X2_107, tyX2_ok, nmX2, rfl, by decide +kernel, fun h => absurd h (by decide)⟩
set_option maxRecDepth 10000 in
theorem fl_X2_84 : FL RX2 84 RX2 TX2 10 9 := ⟨by decide, uw_X2, Or.inl (tbt1 177 rfl rfl)⟩
set_option maxRecDepth 10000 in
theorem ff_X2_84 : FF RX2 84 2 9 := ⟨RX2, TX2, 10, rfl, fl_X2_84⟩
set_option maxRecDepth 10000 in
theorem fp_X2_84 : FP RX2 84 2 9 (.int) false := ⟨RX2, TX2, 10, tyX2, rfl, fl_X2_84, tyX2_ok, nmX2, rfl, by decide +kernel, fun h => absurd h (by decide)⟩
set_option maxRecDepth 10000 in
theorem fl_X6_27 : FL RX6 27 RX6 TX6 12 0 := ⟨by decide, uw_X6, Or.inl (tbt1 199 rfl rfl)⟩
set_option maxRecDepth 10000 in
theorem ff_X6_27 : FF RX6 27 4 0 := ⟨RX6, TX6, 12, rfl, fl_X6_27⟩
set_option maxRecDepth 10000 in
theorem fp_X6_27 : FP RX6 27 4 0 (.object "OneSnip$Sheet") true := ⟨RX6, TX6, 12, tyX6, rfl, fl_X6_27, tyX6_ok, nmX6, rfl, by decide +kernel, fun _ => rfl⟩
set_option maxRecDepth 10000 in
theorem fl_X6_31 : FL RX6 31 RX6 TX6 12 1 := ⟨by decide, uw_X6, Or.inl (tbt1 200 rfl rfl)⟩
set_option maxRecDepth 10000 in
theorem ff_X6_31 : FF RX6 31 4 1 := ⟨RX6, TX6, 12, rfl, fl_X6_31⟩
set_option maxRecDepth 10000 in
theorem fp_X6_31 : FP RX6 31 4 1 (.object "OneSnip$Figure") true := ⟨RX6, TX6, 12, tyX6, rfl, fl_X6_31, tyX6_ok, nmX6, rfl, by decide +kernel, fun _ => rfl⟩
set_option maxRecDepth 10000 in
theorem fl_X6_14 : FL RX6 14 RX6 TX6 12 2 := ⟨by decide, uw_X6, Or.inl (tbt1 201 rfl rfl)⟩
set_option maxRecDepth 10000 in
theorem ff_X6_14 : FF RX6 14 4 2 := ⟨RX6, TX6, 12, rfl, fl_X6_14⟩
set_option maxRecDepth 10000 in
theorem fp_X6_14 : FP RX6 14 4 2 (.object "OneSnip$Layout") true := ⟨RX6, TX6, 12, tyX6, rfl, fl_X6_14, tyX6_ok, nmX6, rfl, by decide +kernel, fun _ => rfl⟩
set_option maxRecDepth 10000 in
theorem fl_X6_20 : FL RX6 20 RX6 TX6 12 3 := ⟨by decide, uw_X6, Or.inl (tbt1 202 rfl rfl)⟩
set_option maxRecDepth 10000 in
theorem ff_X6_20 : FF RX6 20 4 3 := ⟨RX6, TX6, 12, rfl, fl_X6_20⟩
set_option maxRecDepth 10000 in
theorem fp_X6_20 : FP RX6 20 4 3 (.array .int) true := ⟨RX6, TX6, 12, tyX6, rfl, fl_X6_20, tyX6_ok, nmX6, rfl, by decide +kernel, fun _ => rfl⟩
set_option maxRecDepth 10000 in
theorem fl_X6_24 : FL RX6 24 RX6 TX6 12 4 := ⟨by decide, uw_X6, Or.inl (tbt1 203 rfl rfl)⟩
set_option maxRecDepth 10000 in
theorem ff_X6_24 : FF RX6 24 4 4 := ⟨RX6, TX6, 12, rfl, fl_X6_24⟩
set_option maxRecDepth 10000 in
theorem fp_X6_24 : FP RX6 24 4 4 (.array .int) true := ⟨RX6, TX6, 12, tyX6, rfl, fl_X6_24, tyX6_ok, nmX6, rfl, by decide +kernel, fun _ => rfl⟩
set_option maxRecDepth 10000 in
theorem fl_X6_66 : FL RX6 66 RX6 TX6 12 5 := ⟨by decide, uw_X6, Or.inl (tbt1 204 rfl rfl)⟩
set_option maxRecDepth 10000 in
theorem ff_X6_66 : FF RX6 66 4 5 := ⟨RX6, TX6, 12, rfl, fl_X6_66⟩
set_option maxRecDepth 10000 in
theorem fp_X6_66 : FP RX6 66 4 5 (.int) false := ⟨RX6, TX6, 12, tyX6, rfl, fl_X6_66, tyX6_ok, nmX6, rfl, by decide +kernel, fun h => absurd h (by decide)⟩
set_option maxRecDepth 10000 in
theorem fl_X6_69 : FL RX6 69 RX6 TX6 12 6 := ⟨by decide, uw_X6, Or.inl (tbt1 205 rfl rfl)⟩
set_option maxRecDepth 10000 in
theorem ff_X6_69 : FF RX6 69 4 6 := ⟨RX6, TX6, 12, rfl, fl_X6_69⟩
set_option maxRecDepth 10000 in
theorem fp_X6_69 : FP RX6 69 4 6 (.boolean) false := ⟨RX6, TX6, 12, tyX6, rfl, fl_X6_69, tyX6_ok, nmX6, rfl, by decide +kernel, fun h => absurd h (by decide)⟩
set_option maxRecDepth 10000 in
theorem fl_X6_39 : FL RX6 39 RX6 TX6 12 7 := ⟨by decide, uw_X6, Or.inl (tbt1 206 rfl rfl)⟩
set_option maxRecDepth 10000 in
theorem ff_X6_39 : FF RX6 39 4 7 := ⟨RX6, TX6, 12, rfl, fl_X6_39⟩
set_option maxRecDepth 10000 in
theorem fp_X6_39 : FP RX6 39 4 7 (.int) false := ⟨RX6, TX6, 12, tyX6, rfl, fl_X6_39, tyX6_ok, nmX6, rfl, by decide +kernel, fun h => absurd h (by decide)⟩
set_option maxRecDepth 10000 in
theorem fl_X6_42 : FL RX6 42 RX6 TX6 12 8 := ⟨by decide, uw_X6, Or.inl (tbt1 207 rfl rfl)⟩
set_option maxRecDepth 10000 in
theorem ff_X6_42 : FF RX6 42 4 8 := ⟨RX6, TX6, 12, rfl, fl_X6_42⟩
set_option maxRecDepth 10000 in
theorem fp_X6_42 : FP RX6 42 4 8 (.int) false := ⟨RX6, TX6, 12, tyX6, rfl, fl_X6_42, tyX6_ok, nmX6, rfl, by decide +kernel, fun h => absurd h (by decide)⟩
set_option maxRecDepth 10000 in
theorem fl_X9_221 : FL RX9 221 RX6 TX6 12 8 := ⟨by decide, uw_X6, Or.inr ⟨"OneSnip", (List.mem_of_getElem? (i := 15) rfl)⟩⟩
set_option maxRecDepth 10000 in
theorem ff_X9_221 : FF RX9 221 4 8 := ⟨RX6, TX6, 12, rfl, fl_X9_221⟩
set_option maxRecDepth 10000 in
theorem fp_X9_221 : FP RX9 221 4 8 (.int) false := ⟨RX6, TX6, 12, tyX6, rfl, fl_X9_221, tyX6_ok, nmX6, rfl, by decide +kernel, fun h => absurd h (by decide)⟩
set_option maxRecDepth 10000 in
theorem fl_X6_46 : FL RX6 46 RX6 TX6 12 9 := ⟨by decide, uw_X6, Or.inl (tbt1 209 rfl rfl)⟩
set_option maxRecDepth 10000 in
theorem ff_X6_46 : FF RX6 46 4 9 := ⟨RX6, TX6, 12, rfl, fl_X6_46⟩
set_option maxRecDepth 10000 in
theorem fp_X6_46 : FP RX6 46 4 9 (.int) false := ⟨RX6, TX6, 12, tyX6, rfl, fl_X6_46, tyX6_ok, nmX6, rfl, by decide +kernel, fun h => absurd h (by decide)⟩
set_option maxRecDepth 10000 in
theorem fl_X6_49 : FL RX6 49 RX6 TX6 12 10 := ⟨by decide, uw_X6, Or.inl (tbt1 210 rfl rfl)⟩
set_option maxRecDepth 10000 in
theorem ff_X6_49 : FF RX6 49 4 10 := ⟨RX6, TX6, 12, rfl, fl_X6_49⟩
set_option maxRecDepth 10000 in
theorem fp_X6_49 : FP RX6 49 4 10 (.int) false := ⟨RX6, TX6, 12, tyX6, rfl, fl_X6_49, tyX6_ok, nmX6, rfl, by decide +kernel, fun h => absurd h (by decide)⟩
set_option maxRecDepth 10000 in
theorem fl_X6_35 : FL RX6 35 RX6 TX6 12 11 := ⟨by decide, uw_X6, Or.inl (tbt1 211 rfl rfl)⟩
set_option maxRecDepth 10000 in
theorem ff_X6_35 : FF RX6 35 4 11 := ⟨RX6, TX6, 12, rfl, fl_X6_35⟩
set_option maxRecDepth 10000 in
theorem fp_X6_35 : FP RX6 35 4 11 (.int) false := ⟨RX6, TX6, 12, tyX6, rfl, fl_X6_35, tyX6_ok, nmX6, rfl, by decide +kernel, fun h => absurd h (by decide)⟩
set_option maxRecDepth 10000 in
theorem fl_X9_12 : FL RX9 12 RX9 TX9 7 0 := ⟨by decide, uw_X9, Or.inl (tbt2 105 rfl rfl)⟩
set_option maxRecDepth 10000 in
theorem ff_X9_12 : FF RX9 12 7 0 := ⟨RX9, TX9, 7, rfl, fl_X9_12⟩
set_option maxRecDepth 10000 in
theorem fp_X9_12 : FP RX9 12 7 0 (.object "OneSnip$Sheet") true := ⟨RX9, TX9, 7, tyX9, rfl, fl_X9_12, tyX9_ok, nmX9, rfl, by decide +kernel, fun _ => rfl⟩
set_option maxRecDepth 10000 in
theorem fl_X9_21 : FL RX9 21 RX9 TX9 7 1 := ⟨by decide, uw_X9, Or.inl (tbt2 106 rfl rfl)⟩
set_option maxRecDepth 10000 in
theorem ff_X9_21 : FF RX9 21 7 1 := ⟨RX9, TX9, 7, rfl, fl_X9_21⟩
set_option maxRecDepth 10000 in
theorem fp_X9_21 : FP RX9 21 7 1 (.object "OneSnip$Pile") true := ⟨RX9, TX9, 7, tyX9, rfl, fl_X9_21, tyX9_ok, nmX9, rfl, by decide +kernel, fun _ => rfl⟩
set_option maxRecDepth 10000 in
theorem fl_X9_30 : FL RX9 30 RX9 TX9 7 2 := ⟨by decide, uw_X9, Or.inl (tbt2 107 rfl rfl)⟩
set_option maxRecDepth 10000 in
theorem ff_X9_30 : FF RX9 30 7 2 := ⟨RX9, TX9, 7, rfl, fl_X9_30⟩
set_option maxRecDepth 10000 in
theorem fp_X9_30 : FP RX9 30 7 2 (.object "OneSnip$Creases") true := ⟨RX9, TX9, 7, tyX9, rfl, fl_X9_30, tyX9_ok, nmX9, rfl, by decide +kernel, fun _ => rfl⟩
set_option maxRecDepth 10000 in
theorem fl_X9_37 : FL RX9 37 RX9 TX9 7 3 := ⟨by decide, uw_X9, Or.inl (tbt2 108 rfl rfl)⟩
set_option maxRecDepth 10000 in
theorem ff_X9_37 : FF RX9 37 7 3 := ⟨RX9, TX9, 7, rfl, fl_X9_37⟩
set_option maxRecDepth 10000 in
theorem fp_X9_37 : FP RX9 37 7 3 (.object "OneSnip$Snip") true := ⟨RX9, TX9, 7, tyX9, rfl, fl_X9_37, tyX9_ok, nmX9, rfl, by decide +kernel, fun _ => rfl⟩
set_option maxRecDepth 10000 in
theorem fl_X9_44 : FL RX9 44 RX9 TX9 7 4 := ⟨by decide, uw_X9, Or.inl (tbt2 109 rfl rfl)⟩
set_option maxRecDepth 10000 in
theorem ff_X9_44 : FF RX9 44 7 4 := ⟨RX9, TX9, 7, rfl, fl_X9_44⟩
set_option maxRecDepth 10000 in
theorem fp_X9_44 : FP RX9 44 7 4 (.object "OneSnip$Figure") true := ⟨RX9, TX9, 7, tyX9, rfl, fl_X9_44, tyX9_ok, nmX9, rfl, by decide +kernel, fun _ => rfl⟩
set_option maxRecDepth 10000 in
theorem fl_X9_53 : FL RX9 53 RX9 TX9 7 5 := ⟨by decide, uw_X9, Or.inl (tbt2 110 rfl rfl)⟩
set_option maxRecDepth 10000 in
theorem ff_X9_53 : FF RX9 53 7 5 := ⟨RX9, TX9, 7, rfl, fl_X9_53⟩
set_option maxRecDepth 10000 in
theorem fp_X9_53 : FP RX9 53 7 5 (.object "OneSnip$Search") true := ⟨RX9, TX9, 7, tyX9, rfl, fl_X9_53, tyX9_ok, nmX9, rfl, by decide +kernel, fun _ => rfl⟩
set_option maxRecDepth 10000 in
theorem fl_X9_57 : FL RX9 57 RX9 TX9 7 6 := ⟨by decide, uw_X9, Or.inl (tbt2 111 rfl rfl)⟩
set_option maxRecDepth 10000 in
theorem ff_X9_57 : FF RX9 57 7 6 := ⟨RX9, TX9, 7, rfl, fl_X9_57⟩
set_option maxRecDepth 10000 in
theorem fp_X9_57 : FP RX9 57 7 6 (.int) false := ⟨RX9, TX9, 7, tyX9, rfl, fl_X9_57, tyX9_ok, nmX9, rfl, by decide +kernel, fun h => absurd h (by decide)⟩
set_option maxRecDepth 10000 in
theorem fl_X10_94 : FL RX10 94 RX10 TX10 35 0 := ⟨by decide, uw_X10, Or.inl (tbt4 169 rfl rfl)⟩
set_option maxRecDepth 10000 in
theorem ff_X10_94 : FF RX10 94 8 0 := ⟨RX10, TX10, 35, rfl, fl_X10_94⟩
set_option maxRecDepth 10000 in
theorem fp_X10_94 : FP RX10 94 8 0 (.int) false := ⟨RX10, TX10, 35, tyX10, rfl, fl_X10_94, tyX10_ok, nmX10, rfl, by decide +kernel, fun h => absurd h (by decide)⟩
set_option maxRecDepth 10000 in
theorem fl_X10_7 : FL RX10 7 RX10 TX10 35 1 := ⟨by decide, uw_X10, Or.inl (tbt4 170 rfl rfl)⟩
set_option maxRecDepth 10000 in
theorem ff_X10_7 : FF RX10 7 8 1 := ⟨RX10, TX10, 35, rfl, fl_X10_7⟩
set_option maxRecDepth 10000 in
theorem fp_X10_7 : FP RX10 7 8 1 (.int) false := ⟨RX10, TX10, 35, tyX10, rfl, fl_X10_7, tyX10_ok, nmX10, rfl, by decide +kernel, fun h => absurd h (by decide)⟩
set_option maxRecDepth 10000 in
theorem fl_X10_13 : FL RX10 13 RX10 TX10 35 2 := ⟨by decide, uw_X10, Or.inl (tbt4 171 rfl rfl)⟩
set_option maxRecDepth 10000 in
theorem ff_X10_13 : FF RX10 13 8 2 := ⟨RX10, TX10, 35, rfl, fl_X10_13⟩
set_option maxRecDepth 10000 in
theorem fp_X10_13 : FP RX10 13 8 2 (.array .int) true := ⟨RX10, TX10, 35, tyX10, rfl, fl_X10_13, tyX10_ok, nmX10, rfl, by decide +kernel, fun _ => rfl⟩
set_option maxRecDepth 10000 in
theorem fl_X10_17 : FL RX10 17 RX10 TX10 35 3 := ⟨by decide, uw_X10, Or.inl (tbt4 172 rfl rfl)⟩
set_option maxRecDepth 10000 in
theorem ff_X10_17 : FF RX10 17 8 3 := ⟨RX10, TX10, 35, rfl, fl_X10_17⟩
set_option maxRecDepth 10000 in
theorem fp_X10_17 : FP RX10 17 8 3 (.array .int) true := ⟨RX10, TX10, 35, tyX10, rfl, fl_X10_17, tyX10_ok, nmX10, rfl, by decide +kernel, fun _ => rfl⟩
set_option maxRecDepth 10000 in
theorem fl_X10_20 : FL RX10 20 RX10 TX10 35 4 := ⟨by decide, uw_X10, Or.inl (tbt4 173 rfl rfl)⟩
set_option maxRecDepth 10000 in
theorem ff_X10_20 : FF RX10 20 8 4 := ⟨RX10, TX10, 35, rfl, fl_X10_20⟩
set_option maxRecDepth 10000 in
theorem fp_X10_20 : FP RX10 20 8 4 (.array .int) true := ⟨RX10, TX10, 35, tyX10, rfl, fl_X10_20, tyX10_ok, nmX10, rfl, by decide +kernel, fun _ => rfl⟩
set_option maxRecDepth 10000 in
theorem fl_X10_23 : FL RX10 23 RX10 TX10 35 5 := ⟨by decide, uw_X10, Or.inl (tbt4 174 rfl rfl)⟩
set_option maxRecDepth 10000 in
theorem ff_X10_23 : FF RX10 23 8 5 := ⟨RX10, TX10, 35, rfl, fl_X10_23⟩
set_option maxRecDepth 10000 in
theorem fp_X10_23 : FP RX10 23 8 5 (.array .int) true := ⟨RX10, TX10, 35, tyX10, rfl, fl_X10_23, tyX10_ok, nmX10, rfl, by decide +kernel, fun _ => rfl⟩
set_option maxRecDepth 10000 in
theorem fl_X10_26 : FL RX10 26 RX10 TX10 35 6 := ⟨by decide, uw_X10, Or.inl (tbt4 175 rfl rfl)⟩
set_option maxRecDepth 10000 in
theorem ff_X10_26 : FF RX10 26 8 6 := ⟨RX10, TX10, 35, rfl, fl_X10_26⟩
set_option maxRecDepth 10000 in
theorem fp_X10_26 : FP RX10 26 8 6 (.array .boolean) true := ⟨RX10, TX10, 35, tyX10, rfl, fl_X10_26, tyX10_ok, nmX10, rfl, by decide +kernel, fun _ => rfl⟩
set_option maxRecDepth 10000 in
theorem fl_X10_30 : FL RX10 30 RX10 TX10 35 7 := ⟨by decide, uw_X10, Or.inl (tbt4 176 rfl rfl)⟩
set_option maxRecDepth 10000 in
theorem ff_X10_30 : FF RX10 30 8 7 := ⟨RX10, TX10, 35, rfl, fl_X10_30⟩
set_option maxRecDepth 10000 in
theorem fp_X10_30 : FP RX10 30 8 7 (.array .int) true := ⟨RX10, TX10, 35, tyX10, rfl, fl_X10_30, tyX10_ok, nmX10, rfl, by decide +kernel, fun _ => rfl⟩
set_option maxRecDepth 10000 in
theorem fl_X10_111 : FL RX10 111 RX10 TX10 35 8 := ⟨by decide, uw_X10, Or.inl (tbt4 177 rfl rfl)⟩
set_option maxRecDepth 10000 in
theorem ff_X10_111 : FF RX10 111 8 8 := ⟨RX10, TX10, 35, rfl, fl_X10_111⟩
set_option maxRecDepth 10000 in
theorem fp_X10_111 : FP RX10 111 8 8 (.int) false := ⟨RX10, TX10, 35, tyX10, rfl, fl_X10_111, tyX10_ok, nmX10, rfl, by decide +kernel, fun h => absurd h (by decide)⟩
set_option maxRecDepth 10000 in
theorem fl_X10_33 : FL RX10 33 RX10 TX10 35 9 := ⟨by decide, uw_X10, Or.inl (tbt4 178 rfl rfl)⟩
set_option maxRecDepth 10000 in
theorem ff_X10_33 : FF RX10 33 8 9 := ⟨RX10, TX10, 35, rfl, fl_X10_33⟩
set_option maxRecDepth 10000 in
theorem fp_X10_33 : FP RX10 33 8 9 (.array .int) true := ⟨RX10, TX10, 35, tyX10, rfl, fl_X10_33, tyX10_ok, nmX10, rfl, by decide +kernel, fun _ => rfl⟩
set_option maxRecDepth 10000 in
theorem fl_X10_36 : FL RX10 36 RX10 TX10 35 10 := ⟨by decide, uw_X10, Or.inl (tbt4 179 rfl rfl)⟩
set_option maxRecDepth 10000 in
theorem ff_X10_36 : FF RX10 36 8 10 := ⟨RX10, TX10, 35, rfl, fl_X10_36⟩
set_option maxRecDepth 10000 in
theorem fp_X10_36 : FP RX10 36 8 10 (.array .int) true := ⟨RX10, TX10, 35, tyX10, rfl, fl_X10_36, tyX10_ok, nmX10, rfl, by decide +kernel, fun _ => rfl⟩
set_option maxRecDepth 10000 in
theorem fl_X10_39 : FL RX10 39 RX10 TX10 35 11 := ⟨by decide, uw_X10, Or.inl (tbt4 180 rfl rfl)⟩
set_option maxRecDepth 10000 in
theorem ff_X10_39 : FF RX10 39 8 11 := ⟨RX10, TX10, 35, rfl, fl_X10_39⟩
set_option maxRecDepth 10000 in
theorem fp_X10_39 : FP RX10 39 8 11 (.array .int) true := ⟨RX10, TX10, 35, tyX10, rfl, fl_X10_39, tyX10_ok, nmX10, rfl, by decide +kernel, fun _ => rfl⟩
set_option maxRecDepth 10000 in
theorem fl_X10_42 : FL RX10 42 RX10 TX10 35 12 := ⟨by decide, uw_X10, Or.inl (tbt4 181 rfl rfl)⟩
set_option maxRecDepth 10000 in
theorem ff_X10_42 : FF RX10 42 8 12 := ⟨RX10, TX10, 35, rfl, fl_X10_42⟩
set_option maxRecDepth 10000 in
theorem fp_X10_42 : FP RX10 42 8 12 (.array .int) true := ⟨RX10, TX10, 35, tyX10, rfl, fl_X10_42, tyX10_ok, nmX10, rfl, by decide +kernel, fun _ => rfl⟩
set_option maxRecDepth 10000 in
theorem fl_X10_45 : FL RX10 45 RX10 TX10 35 13 := ⟨by decide, uw_X10, Or.inl (tbt4 182 rfl rfl)⟩
set_option maxRecDepth 10000 in
theorem ff_X10_45 : FF RX10 45 8 13 := ⟨RX10, TX10, 35, rfl, fl_X10_45⟩
set_option maxRecDepth 10000 in
theorem fp_X10_45 : FP RX10 45 8 13 (.array .boolean) true := ⟨RX10, TX10, 35, tyX10, rfl, fl_X10_45, tyX10_ok, nmX10, rfl, by decide +kernel, fun _ => rfl⟩
set_option maxRecDepth 10000 in
theorem fl_X10_48 : FL RX10 48 RX10 TX10 35 14 := ⟨by decide, uw_X10, Or.inl (tbt4 183 rfl rfl)⟩
set_option maxRecDepth 10000 in
theorem ff_X10_48 : FF RX10 48 8 14 := ⟨RX10, TX10, 35, rfl, fl_X10_48⟩
set_option maxRecDepth 10000 in
theorem fp_X10_48 : FP RX10 48 8 14 (.array .int) true := ⟨RX10, TX10, 35, tyX10, rfl, fl_X10_48, tyX10_ok, nmX10, rfl, by decide +kernel, fun _ => rfl⟩
set_option maxRecDepth 10000 in
theorem fl_X10_51 : FL RX10 51 RX10 TX10 35 15 := ⟨by decide, uw_X10, Or.inl (tbt4 184 rfl rfl)⟩
set_option maxRecDepth 10000 in
theorem ff_X10_51 : FF RX10 51 8 15 := ⟨RX10, TX10, 35, rfl, fl_X10_51⟩
set_option maxRecDepth 10000 in
theorem fp_X10_51 : FP RX10 51 8 15 (.array .boolean) true := ⟨RX10, TX10, 35, tyX10, rfl, fl_X10_51, tyX10_ok, nmX10, rfl, by decide +kernel, fun _ => rfl⟩
set_option maxRecDepth 10000 in
theorem fl_X10_54 : FL RX10 54 RX10 TX10 35 16 := ⟨by decide, uw_X10, Or.inl (tbt4 185 rfl rfl)⟩
set_option maxRecDepth 10000 in
theorem ff_X10_54 : FF RX10 54 8 16 := ⟨RX10, TX10, 35, rfl, fl_X10_54⟩
set_option maxRecDepth 10000 in
theorem fp_X10_54 : FP RX10 54 8 16 (.int) false := ⟨RX10, TX10, 35, tyX10, rfl, fl_X10_54, tyX10_ok, nmX10, rfl, by decide +kernel, fun h => absurd h (by decide)⟩
set_option maxRecDepth 10000 in
theorem fl_X10_114 : FL RX10 114 RX10 TX10 35 17 := ⟨by decide, uw_X10, Or.inl (tbt4 186 rfl rfl)⟩
set_option maxRecDepth 10000 in
theorem ff_X10_114 : FF RX10 114 8 17 := ⟨RX10, TX10, 35, rfl, fl_X10_114⟩
set_option maxRecDepth 10000 in
theorem fp_X10_114 : FP RX10 114 8 17 (.boolean) false := ⟨RX10, TX10, 35, tyX10, rfl, fl_X10_114, tyX10_ok, nmX10, rfl, by decide +kernel, fun h => absurd h (by decide)⟩
set_option maxRecDepth 10000 in
theorem fl_X10_57 : FL RX10 57 RX10 TX10 35 18 := ⟨by decide, uw_X10, Or.inl (tbt4 187 rfl rfl)⟩
set_option maxRecDepth 10000 in
theorem ff_X10_57 : FF RX10 57 8 18 := ⟨RX10, TX10, 35, rfl, fl_X10_57⟩
set_option maxRecDepth 10000 in
theorem fp_X10_57 : FP RX10 57 8 18 (.array .boolean) true := ⟨RX10, TX10, 35, tyX10, rfl, fl_X10_57, tyX10_ok, nmX10, rfl, by decide +kernel, fun _ => rfl⟩
set_option maxRecDepth 10000 in
theorem fl_X10_60 : FL RX10 60 RX10 TX10 35 19 := ⟨by decide, uw_X10, Or.inl (tbt4 188 rfl rfl)⟩
set_option maxRecDepth 10000 in
theorem ff_X10_60 : FF RX10 60 8 19 := ⟨RX10, TX10, 35, rfl, fl_X10_60⟩
set_option maxRecDepth 10000 in
theorem fp_X10_60 : FP RX10 60 8 19 (.array .boolean) true := ⟨RX10, TX10, 35, tyX10, rfl, fl_X10_60, tyX10_ok, nmX10, rfl, by decide +kernel, fun _ => rfl⟩
set_option maxRecDepth 10000 in
theorem fl_X10_63 : FL RX10 63 RX10 TX10 35 20 := ⟨by decide, uw_X10, Or.inl (tbt4 189 rfl rfl)⟩
set_option maxRecDepth 10000 in
theorem ff_X10_63 : FF RX10 63 8 20 := ⟨RX10, TX10, 35, rfl, fl_X10_63⟩
set_option maxRecDepth 10000 in
theorem fp_X10_63 : FP RX10 63 8 20 (.array .int) true := ⟨RX10, TX10, 35, tyX10, rfl, fl_X10_63, tyX10_ok, nmX10, rfl, by decide +kernel, fun _ => rfl⟩
set_option maxRecDepth 10000 in
theorem fl_X10_66 : FL RX10 66 RX10 TX10 35 21 := ⟨by decide, uw_X10, Or.inl (tbt4 190 rfl rfl)⟩
set_option maxRecDepth 10000 in
theorem ff_X10_66 : FF RX10 66 8 21 := ⟨RX10, TX10, 35, rfl, fl_X10_66⟩
set_option maxRecDepth 10000 in
theorem fp_X10_66 : FP RX10 66 8 21 (.array .int) true := ⟨RX10, TX10, 35, tyX10, rfl, fl_X10_66, tyX10_ok, nmX10, rfl, by decide +kernel, fun _ => rfl⟩
set_option maxRecDepth 10000 in
theorem fl_X10_69 : FL RX10 69 RX10 TX10 35 22 := ⟨by decide, uw_X10, Or.inl (tbt4 191 rfl rfl)⟩
set_option maxRecDepth 10000 in
theorem ff_X10_69 : FF RX10 69 8 22 := ⟨RX10, TX10, 35, rfl, fl_X10_69⟩
set_option maxRecDepth 10000 in
theorem fp_X10_69 : FP RX10 69 8 22 (.array .int) true := ⟨RX10, TX10, 35, tyX10, rfl, fl_X10_69, tyX10_ok, nmX10, rfl, by decide +kernel, fun _ => rfl⟩
set_option maxRecDepth 10000 in
theorem fl_X10_72 : FL RX10 72 RX10 TX10 35 23 := ⟨by decide, uw_X10, Or.inl (tbt4 192 rfl rfl)⟩
set_option maxRecDepth 10000 in
theorem ff_X10_72 : FF RX10 72 8 23 := ⟨RX10, TX10, 35, rfl, fl_X10_72⟩
set_option maxRecDepth 10000 in
theorem fp_X10_72 : FP RX10 72 8 23 (.array .int) true := ⟨RX10, TX10, 35, tyX10, rfl, fl_X10_72, tyX10_ok, nmX10, rfl, by decide +kernel, fun _ => rfl⟩
set_option maxRecDepth 10000 in
theorem fl_X10_75 : FL RX10 75 RX10 TX10 35 24 := ⟨by decide, uw_X10, Or.inl (tbt4 193 rfl rfl)⟩
set_option maxRecDepth 10000 in
theorem ff_X10_75 : FF RX10 75 8 24 := ⟨RX10, TX10, 35, rfl, fl_X10_75⟩
set_option maxRecDepth 10000 in
theorem fp_X10_75 : FP RX10 75 8 24 (.array .int) true := ⟨RX10, TX10, 35, tyX10, rfl, fl_X10_75, tyX10_ok, nmX10, rfl, by decide +kernel, fun _ => rfl⟩
set_option maxRecDepth 10000 in
theorem fl_X10_207 : FL RX10 207 RX10 TX10 35 25 := ⟨by decide, uw_X10, Or.inl (tbt4 194 rfl rfl)⟩
set_option maxRecDepth 10000 in
theorem ff_X10_207 : FF RX10 207 8 25 := ⟨RX10, TX10, 35, rfl, fl_X10_207⟩
set_option maxRecDepth 10000 in
theorem fp_X10_207 : FP RX10 207 8 25 (.int) false := ⟨RX10, TX10, 35, tyX10, rfl, fl_X10_207, tyX10_ok, nmX10, rfl, by decide +kernel, fun h => absurd h (by decide)⟩
set_option maxRecDepth 10000 in
theorem fl_X10_78 : FL RX10 78 RX10 TX10 35 26 := ⟨by decide, uw_X10, Or.inl (tbt4 195 rfl rfl)⟩
set_option maxRecDepth 10000 in
theorem ff_X10_78 : FF RX10 78 8 26 := ⟨RX10, TX10, 35, rfl, fl_X10_78⟩
set_option maxRecDepth 10000 in
theorem fp_X10_78 : FP RX10 78 8 26 (.array .int) true := ⟨RX10, TX10, 35, tyX10, rfl, fl_X10_78, tyX10_ok, nmX10, rfl, by decide +kernel, fun _ => rfl⟩
set_option maxRecDepth 10000 in
theorem fl_X10_81 : FL RX10 81 RX10 TX10 35 27 := ⟨by decide, uw_X10, Or.inl (tbt4 196 rfl rfl)⟩
set_option maxRecDepth 10000 in
theorem ff_X10_81 : FF RX10 81 8 27 := ⟨RX10, TX10, 35, rfl, fl_X10_81⟩
set_option maxRecDepth 10000 in
theorem fp_X10_81 : FP RX10 81 8 27 (.array .int) true := ⟨RX10, TX10, 35, tyX10, rfl, fl_X10_81, tyX10_ok, nmX10, rfl, by decide +kernel, fun _ => rfl⟩
set_option maxRecDepth 10000 in
theorem fl_X10_84 : FL RX10 84 RX10 TX10 35 28 := ⟨by decide, uw_X10, Or.inl (tbt4 197 rfl rfl)⟩
set_option maxRecDepth 10000 in
theorem ff_X10_84 : FF RX10 84 8 28 := ⟨RX10, TX10, 35, rfl, fl_X10_84⟩
set_option maxRecDepth 10000 in
theorem fp_X10_84 : FP RX10 84 8 28 (.array .int) true := ⟨RX10, TX10, 35, tyX10, rfl, fl_X10_84, tyX10_ok, nmX10, rfl, by decide +kernel, fun _ => rfl⟩
set_option maxRecDepth 10000 in
theorem fl_X10_87 : FL RX10 87 RX10 TX10 35 29 := ⟨by decide, uw_X10, Or.inl (tbt4 198 rfl rfl)⟩
set_option maxRecDepth 10000 in
theorem ff_X10_87 : FF RX10 87 8 29 := ⟨RX10, TX10, 35, rfl, fl_X10_87⟩
set_option maxRecDepth 10000 in
theorem fp_X10_87 : FP RX10 87 8 29 (.array .int) true := ⟨RX10, TX10, 35, tyX10, rfl, fl_X10_87, tyX10_ok, nmX10, rfl, by decide +kernel, fun _ => rfl⟩
set_option maxRecDepth 10000 in
theorem fl_X10_223 : FL RX10 223 RX10 TX10 35 30 := ⟨by decide, uw_X10, Or.inl (tbt4 199 rfl rfl)⟩
set_option maxRecDepth 10000 in
theorem ff_X10_223 : FF RX10 223 8 30 := ⟨RX10, TX10, 35, rfl, fl_X10_223⟩
set_option maxRecDepth 10000 in
theorem fp_X10_223 : FP RX10 223 8 30 (.int) false := ⟨RX10, TX10, 35, tyX10, rfl, fl_X10_223, tyX10_ok, nmX10, rfl, by decide +kernel, fun h => absurd h (by decide)⟩
set_option maxRecDepth 10000 in
theorem fl_X10_210 : FL RX10 210 RX10 TX10 35 31 := ⟨by decide, uw_X10, Or.inl (tbt4 200 rfl rfl)⟩
set_option maxRecDepth 10000 in
theorem ff_X10_210 : FF RX10 210 8 31 := ⟨RX10, TX10, 35, rfl, fl_X10_210⟩
set_option maxRecDepth 10000 in
theorem fp_X10_210 : FP RX10 210 8 31 (.int) false := ⟨RX10, TX10, 35, tyX10, rfl, fl_X10_210, tyX10_ok, nmX10, rfl, by decide +kernel, fun h => absurd h (by decide)⟩
set_option maxRecDepth 10000 in
theorem fl_X10_122 : FL RX10 122 RX10 TX10 35 32 := ⟨by decide, uw_X10, Or.inl (tbt4 201 rfl rfl)⟩
set_option maxRecDepth 10000 in
theorem ff_X10_122 : FF RX10 122 8 32 := ⟨RX10, TX10, 35, rfl, fl_X10_122⟩
set_option maxRecDepth 10000 in
theorem fp_X10_122 : FP RX10 122 8 32 (.int) false := ⟨RX10, TX10, 35, tyX10, rfl, fl_X10_122, tyX10_ok, nmX10, rfl, by decide +kernel, fun h => absurd h (by decide)⟩
set_option maxRecDepth 10000 in
theorem fl_X10_125 : FL RX10 125 RX10 TX10 35 33 := ⟨by decide, uw_X10, Or.inl (tbt4 202 rfl rfl)⟩
set_option maxRecDepth 10000 in
theorem ff_X10_125 : FF RX10 125 8 33 := ⟨RX10, TX10, 35, rfl, fl_X10_125⟩
set_option maxRecDepth 10000 in
theorem fp_X10_125 : FP RX10 125 8 33 (.int) false := ⟨RX10, TX10, 35, tyX10, rfl, fl_X10_125, tyX10_ok, nmX10, rfl, by decide +kernel, fun h => absurd h (by decide)⟩
set_option maxRecDepth 10000 in
theorem fl_X10_128 : FL RX10 128 RX10 TX10 35 34 := ⟨by decide, uw_X10, Or.inl (tbt4 203 rfl rfl)⟩
set_option maxRecDepth 10000 in
theorem ff_X10_128 : FF RX10 128 8 34 := ⟨RX10, TX10, 35, rfl, fl_X10_128⟩
set_option maxRecDepth 10000 in
theorem fp_X10_128 : FP RX10 128 8 34 (.int) false := ⟨RX10, TX10, 35, tyX10, rfl, fl_X10_128, tyX10_ok, nmX10, rfl, by decide +kernel, fun h => absurd h (by decide)⟩
set_option maxRecDepth 10000 in
theorem mf_X0_init : MF yX0_init cX0_init 3 none 2 := ⟨(tbt1 101 rfl rfl), (tbt1 4 rfl rfl), by decide +kernel, by decide⟩
set_option maxRecDepth 10000 in
theorem mi_X0_init : Cond.instanceMethod yX0_init ∈ TB := (tbt1 100 rfl rfl)
set_option maxRecDepth 10000 in
theorem mf_X0_kind : MF yX0_kind cX0_kind 5 (some .int) 2 := ⟨(tbt3 77 rfl rfl), (tbt1 4 rfl rfl), by decide +kernel, by decide⟩
set_option maxRecDepth 10000 in
theorem mv_X0_kind : MV yX0_kind := ⟨(tbt3 75 rfl rfl), (tbt3 76 rfl rfl)⟩
set_option maxRecDepth 10000 in
theorem mf_X0_total : MF yX0_total cX0_total 5 (some .int) 1 := ⟨(tbt3 94 rfl rfl), (tbt1 4 rfl rfl), by decide +kernel, by decide⟩
set_option maxRecDepth 10000 in
theorem mv_X0_total : MV yX0_total := ⟨(tbt3 92 rfl rfl), (tbt3 93 rfl rfl)⟩
set_option maxRecDepth 10000 in
theorem mf_X0_ending : MF yX0_ending cX0_ending 11 (some .int) 4 := ⟨(tbt3 112 rfl rfl), (tbt1 4 rfl rfl), by decide +kernel, by decide⟩
set_option maxRecDepth 10000 in
theorem mv_X0_ending : MV yX0_ending := ⟨(tbt3 110 rfl rfl), (tbt3 111 rfl rfl)⟩
set_option maxRecDepth 10000 in
theorem mf_X0_isFirstOf : MF yX0_isFirstOf cX0_isFirstOf 3 (some .boolean) 2 := ⟨(tbt3 98 rfl rfl), (tbt1 4 rfl rfl), by decide +kernel, by decide⟩
set_option maxRecDepth 10000 in
theorem mv_X0_isFirstOf : MV yX0_isFirstOf := ⟨(tbt3 97 rfl rfl), (tbp1 14 rfl)⟩
set_option maxRecDepth 10000 in
theorem mf_X0_endsAt : MF yX0_endsAt cX0_endsAt 11 (some .boolean) 4 := ⟨(tbt3 116 rfl rfl), (tbt1 4 rfl rfl), by decide +kernel, by decide⟩
set_option maxRecDepth 10000 in
theorem mv_X0_endsAt : MV yX0_endsAt := ⟨(tbt3 115 rfl rfl), (tbp1 15 rfl)⟩
set_option maxRecDepth 10000 in
theorem mf_X0_isCorner : MF yX0_isCorner cX0_isCorner 5 (some .boolean) 3 := ⟨(tbt3 122 rfl rfl), (tbt1 4 rfl rfl), by decide +kernel, by decide⟩
set_option maxRecDepth 10000 in
theorem ms_X0_isCorner : Cond.static yX0_isCorner ∈ TB := (tbt3 121 rfl rfl)
set_option maxRecDepth 10000 in
theorem mf_X1_init : MF yX1_init cX1_init 2 none 1 := ⟨(tbt1 141 rfl rfl), (tbt1 6 rfl rfl), by decide +kernel, by decide⟩
set_option maxRecDepth 10000 in
theorem mi_X1_init : Cond.instanceMethod yX1_init ∈ TB := (tbt1 140 rfl rfl)
set_option maxRecDepth 10000 in
theorem mf_X1_wipe : MF yX1_wipe cX1_wipe 1 none 0 := ⟨(tbt2 98 rfl rfl), (tbt1 6 rfl rfl), by decide +kernel, by decide⟩
set_option maxRecDepth 10000 in
theorem mv_X1_wipe : MV yX1_wipe := ⟨(tbt2 96 rfl rfl), (tbt2 97 rfl rfl)⟩
set_option maxRecDepth 10000 in
theorem mf_X1_has : MF yX1_has cX1_has 2 (some .boolean) 1 := ⟨(tbt3 6 rfl rfl), (tbt1 6 rfl rfl), by decide +kernel, by decide⟩
set_option maxRecDepth 10000 in
theorem mv_X1_has : MV yX1_has := ⟨(tbt3 4 rfl rfl), (tbt3 5 rfl rfl)⟩
set_option maxRecDepth 10000 in
theorem mf_X1_put : MF yX1_put cX1_put 3 none 2 := ⟨(tbt3 201 rfl rfl), (tbt1 6 rfl rfl), by decide +kernel, by decide⟩
set_option maxRecDepth 10000 in
theorem mv_X1_put : MV yX1_put := ⟨(tbt3 199 rfl rfl), (tbt3 200 rfl rfl)⟩
set_option maxRecDepth 10000 in
theorem mf_X1_first : MF yX1_first cX1_first 3 (some .int) 1 := ⟨(tbt4 17 rfl rfl), (tbt1 6 rfl rfl), by decide +kernel, by decide⟩
set_option maxRecDepth 10000 in
theorem mv_X1_first : MV yX1_first := ⟨(tbt4 15 rfl rfl), (tbt4 16 rfl rfl)⟩
set_option maxRecDepth 10000 in
theorem mf_X1_isMirror : MF yX1_isMirror cX1_isMirror 7 (some .boolean) 2 := ⟨(tbt3 225 rfl rfl), (tbt1 6 rfl rfl), by decide +kernel, by decide⟩
set_option maxRecDepth 10000 in
theorem mv_X1_isMirror : MV yX1_isMirror := ⟨(tbt3 223 rfl rfl), (tbt3 224 rfl rfl)⟩
set_option maxRecDepth 10000 in
theorem mf_X2_init : MF yX2_init cX2_init 2 none 1 := ⟨(tbt1 165 rfl rfl), (tbt1 8 rfl rfl), by decide +kernel, by decide⟩
set_option maxRecDepth 10000 in
theorem mi_X2_init : Cond.instanceMethod yX2_init ∈ TB := (tbt1 164 rfl rfl)
set_option maxRecDepth 10000 in
theorem mf_X2_load : MF yX2_load cX2_load 5 none 2 := ⟨(tbt4 13 rfl rfl), (tbt1 8 rfl rfl), by decide +kernel, by decide⟩
set_option maxRecDepth 10000 in
theorem mv_X2_load : MV yX2_load := ⟨(tbt4 11 rfl rfl), (tbt4 12 rfl rfl)⟩
set_option maxRecDepth 10000 in
theorem mf_X2_putAround : MF yX2_putAround cX2_putAround 7 none 4 := ⟨(tbt4 29 rfl rfl), (tbt1 8 rfl rfl), by decide +kernel, by decide⟩
set_option maxRecDepth 10000 in
theorem mv_X2_putAround : MV yX2_putAround := ⟨(tbt4 28 rfl rfl), (tbp2 3 rfl)⟩
set_option maxRecDepth 10000 in
theorem mf_X2_clear : MF yX2_clear cX2_clear 3 none 1 := ⟨(tbt4 21 rfl rfl), (tbt1 8 rfl rfl), by decide +kernel, by decide⟩
set_option maxRecDepth 10000 in
theorem mv_X2_clear : MV yX2_clear := ⟨(tbt4 20 rfl rfl), (tbp2 2 rfl)⟩
set_option maxRecDepth 10000 in
theorem mf_X2_put : MF yX2_put cX2_put 7 none 4 := ⟨(tbt4 47 rfl rfl), (tbt1 8 rfl rfl), by decide +kernel, by decide⟩
set_option maxRecDepth 10000 in
theorem mv_X2_put : MV yX2_put := ⟨(tbt4 46 rfl rfl), (tbp2 4 rfl)⟩
set_option maxRecDepth 10000 in
theorem mf_X2_secondKind : MF yX2_secondKind cX2_secondKind 1 (some .int) 0 := ⟨(tbt4 120 rfl rfl), (tbt1 8 rfl rfl), by decide +kernel, by decide⟩
set_option maxRecDepth 10000 in
theorem mv_X2_secondKind : MV yX2_secondKind := ⟨(tbt4 119 rfl rfl), (tbp2 12 rfl)⟩
set_option maxRecDepth 10000 in
theorem mf_X2_widen : MF yX2_widen cX2_widen 3 none 2 := ⟨(tbt4 56 rfl rfl), (tbt1 8 rfl rfl), by decide +kernel, by decide⟩
set_option maxRecDepth 10000 in
theorem mv_X2_widen : MV yX2_widen := ⟨(tbt4 55 rfl rfl), (tbp2 5 rfl)⟩
set_option maxRecDepth 10000 in
theorem mf_X2_least : MF yX2_least cX2_least 2 (some .int) 1 := ⟨(tbt4 107 rfl rfl), (tbt1 8 rfl rfl), by decide +kernel, by decide⟩
set_option maxRecDepth 10000 in
theorem mv_X2_least : MV yX2_least := ⟨(tbt4 106 rfl rfl), (tbp2 11 rfl)⟩
set_option maxRecDepth 10000 in
theorem mf_X2_greatest : MF yX2_greatest cX2_greatest 2 (some .int) 1 := ⟨(tbt4 98 rfl rfl), (tbt1 8 rfl rfl), by decide +kernel, by decide⟩
set_option maxRecDepth 10000 in
theorem mv_X2_greatest : MV yX2_greatest := ⟨(tbt4 97 rfl rfl), (tbp2 10 rfl)⟩
set_option maxRecDepth 10000 in
theorem mf_X2_row : MF yX2_row cX2_row 2 (some .int) 2 := ⟨(tbt4 51 rfl rfl), (tbt1 8 rfl rfl), by decide +kernel, by decide⟩
set_option maxRecDepth 10000 in
theorem ms_X2_row : Cond.static yX2_row ∈ TB := (tbt4 50 rfl rfl)
set_option maxRecDepth 10000 in
theorem mf_X2_firstStrip : MF yX2_firstStrip cX2_firstStrip 3 (some .int) 0 := ⟨(tbt4 103 rfl rfl), (tbt1 8 rfl rfl), by decide +kernel, by decide⟩
set_option maxRecDepth 10000 in
theorem mv_X2_firstStrip : MV yX2_firstStrip := ⟨(tbt4 101 rfl rfl), (tbt4 102 rfl rfl)⟩
set_option maxRecDepth 10000 in
theorem mf_X2_lastStrip : MF yX2_lastStrip cX2_lastStrip 3 (some .int) 0 := ⟨(tbt4 94 rfl rfl), (tbt1 8 rfl rfl), by decide +kernel, by decide⟩
set_option maxRecDepth 10000 in
theorem mv_X2_lastStrip : MV yX2_lastStrip := ⟨(tbt4 92 rfl rfl), (tbt4 93 rfl rfl)⟩
set_option maxRecDepth 10000 in
theorem mf_X2_isCrossed : MF yX2_isCrossed cX2_isCrossed 3 (some .boolean) 2 := ⟨(tbt4 112 rfl rfl), (tbt1 8 rfl rfl), by decide +kernel, by decide⟩
set_option maxRecDepth 10000 in
theorem mv_X2_isCrossed : MV yX2_isCrossed := ⟨(tbt4 110 rfl rfl), (tbt4 111 rfl rfl)⟩
set_option maxRecDepth 10000 in
theorem mf_X2_fits : MF yX2_fits cX2_fits 10 (some .boolean) 2 := ⟨(tbt4 116 rfl rfl), (tbt1 8 rfl rfl), by decide +kernel, by decide⟩
set_option maxRecDepth 10000 in
theorem mv_X2_fits : MV yX2_fits := ⟨(tbt4 114 rfl rfl), (tbt4 115 rfl rfl)⟩
set_option maxRecDepth 10000 in
theorem mf_X2_turnInto : MF yX2_turnInto cX2_turnInto 12 none 5 := ⟨(tbt4 128 rfl rfl), (tbt1 8 rfl rfl), by decide +kernel, by decide⟩
set_option maxRecDepth 10000 in
theorem mv_X2_turnInto : MV yX2_turnInto := ⟨(tbt4 126 rfl rfl), (tbt4 127 rfl rfl)⟩
set_option maxRecDepth 10000 in
theorem mf_X2_isEntangled : MF yX2_isEntangled cX2_isEntangled 2 (some .boolean) 0 := ⟨(tbt4 133 rfl rfl), (tbt1 8 rfl rfl), by decide +kernel, by decide⟩
set_option maxRecDepth 10000 in
theorem mv_X2_isEntangled : MV yX2_isEntangled := ⟨(tbt4 132 rfl rfl), (tbp2 13 rfl)⟩
set_option maxRecDepth 10000 in
theorem mf_X2_cuts : MF yX2_cuts cX2_cuts 4 (some .int) 0 := ⟨(tbt4 73 rfl rfl), (tbt1 8 rfl rfl), by decide +kernel, by decide⟩
set_option maxRecDepth 10000 in
theorem mv_X2_cuts : MV yX2_cuts := ⟨(tbt4 71 rfl rfl), (tbt4 72 rfl rfl)⟩
set_option maxRecDepth 10000 in
theorem mf_X2_firstCut : MF yX2_firstCut cX2_firstCut 5 (some .int) 0 := ⟨(tbt4 87 rfl rfl), (tbt1 8 rfl rfl), by decide +kernel, by decide⟩
set_option maxRecDepth 10000 in
theorem mv_X2_firstCut : MV yX2_firstCut := ⟨(tbt4 85 rfl rfl), (tbt4 86 rfl rfl)⟩
set_option maxRecDepth 10000 in
theorem mf_X2_firstCut_ : MF yX2_firstCut_ cX2_firstCut_ 4 (some .int) 2 := ⟨(tbt4 81 rfl rfl), (tbt1 8 rfl rfl), by decide +kernel, by decide⟩
set_option maxRecDepth 10000 in
theorem mv_X2_firstCut_ : MV yX2_firstCut_ := ⟨(tbt4 80 rfl rfl), (tbp2 9 rfl)⟩
set_option maxRecDepth 10000 in
theorem mf_X2_lastCut : MF yX2_lastCut cX2_lastCut 4 (some .int) 2 := ⟨(tbt4 77 rfl rfl), (tbt1 8 rfl rfl), by decide +kernel, by decide⟩
set_option maxRecDepth 10000 in
theorem mv_X2_lastCut : MV yX2_lastCut := ⟨(tbt4 76 rfl rfl), (tbp2 8 rfl)⟩
set_option maxRecDepth 10000 in
theorem mf_X3_isLine : MF yX3_isLine cX3_isLine 2 (some .boolean) 2 := ⟨(tbt2 137 rfl rfl), (tbt1 11 rfl rfl), by decide +kernel, by decide⟩
set_option maxRecDepth 10000 in
theorem ms_X3_isLine : Cond.static yX3_isLine ∈ TB := (tbt2 136 rfl rfl)
set_option maxRecDepth 10000 in
theorem mf_X3_isSide : MF yX3_isSide cX3_isSide 1 (some .boolean) 1 := ⟨(tbt2 140 rfl rfl), (tbt1 11 rfl rfl), by decide +kernel, by decide⟩
set_option maxRecDepth 10000 in
theorem ms_X3_isSide : Cond.static yX3_isSide ∈ TB := (tbt2 139 rfl rfl)
set_option maxRecDepth 10000 in
theorem mf_X3_strip : MF yX3_strip cX3_strip 4 (some .int) 4 := ⟨(tbt2 167 rfl rfl), (tbt1 11 rfl rfl), by decide +kernel, by decide⟩
set_option maxRecDepth 10000 in
theorem ms_X3_strip : Cond.static yX3_strip ∈ TB := (tbt2 166 rfl rfl)
set_option maxRecDepth 10000 in
theorem mf_X3_isOn : MF yX3_isOn cX3_isOn 3 (some .boolean) 3 := ⟨(tbt2 170 rfl rfl), (tbt1 11 rfl rfl), by decide +kernel, by decide⟩
set_option maxRecDepth 10000 in
theorem ms_X3_isOn : Cond.static yX3_isOn ∈ TB := (tbt2 169 rfl rfl)
set_option maxRecDepth 10000 in
theorem mf_X3_mirrorX : MF yX3_mirrorX cX3_mirrorX 4 (some .int) 4 := ⟨(tbt2 192 rfl rfl), (tbt1 11 rfl rfl), by decide +kernel, by decide⟩
set_option maxRecDepth 10000 in
theorem ms_X3_mirrorX : Cond.static yX3_mirrorX ∈ TB := (tbt2 191 rfl rfl)
set_option maxRecDepth 10000 in
theorem mf_X3_mirrorY : MF yX3_mirrorY cX3_mirrorY 4 (some .int) 4 := ⟨(tbt2 195 rfl rfl), (tbt1 11 rfl rfl), by decide +kernel, by decide⟩
set_option maxRecDepth 10000 in
theorem ms_X3_mirrorY : Cond.static yX3_mirrorY ∈ TB := (tbt2 194 rfl rfl)
set_option maxRecDepth 10000 in
theorem mf_X3_mirrorQuarter : MF yX3_mirrorQuarter cX3_mirrorQuarter 2 (some .int) 2 := ⟨(tbt2 198 rfl rfl), (tbt1 11 rfl rfl), by decide +kernel, by decide⟩
set_option maxRecDepth 10000 in
theorem ms_X3_mirrorQuarter : Cond.static yX3_mirrorQuarter ∈ TB := (tbt2 197 rfl rfl)
set_option maxRecDepth 10000 in
theorem mf_X3_touches : MF yX3_touches cX3_touches 5 (some .boolean) 5 := ⟨(tbt3 141 rfl rfl), (tbt1 11 rfl rfl), by decide +kernel, by decide⟩
set_option maxRecDepth 10000 in
theorem ms_X3_touches : Cond.static yX3_touches ∈ TB := (tbt3 140 rfl rfl)
set_option maxRecDepth 10000 in
theorem mf_X3_spot : MF yX3_spot cX3_spot 3 (some .int) 3 := ⟨(tbt2 66 rfl rfl), (tbt1 11 rfl rfl), by decide +kernel, by decide⟩
set_option maxRecDepth 10000 in
theorem ms_X3_spot : Cond.static yX3_spot ∈ TB := (tbt2 65 rfl rfl)
set_option maxRecDepth 10000 in
theorem mf_X4_init : MF yX4_init cX4_init 2 none 1 := ⟨(tbt1 57 rfl rfl), (tbt1 3 rfl rfl), by decide +kernel, by decide⟩
set_option maxRecDepth 10000 in
theorem mi_X4_init : Cond.instanceMethod yX4_init ∈ TB := (tbt1 56 rfl rfl)
set_option maxRecDepth 10000 in
theorem mf_X4_flatten : MF yX4_flatten cX4_flatten 1 none 0 := ⟨(tbt2 28 rfl rfl), (tbt1 3 rfl rfl), by decide +kernel, by decide⟩
set_option maxRecDepth 10000 in
theorem mv_X4_flatten : MV yX4_flatten := ⟨(tbt2 26 rfl rfl), (tbt2 27 rfl rfl)⟩
set_option maxRecDepth 10000 in
theorem mf_X4_add : MF yX4_add cX4_add 5 none 4 := ⟨(tbt2 177 rfl rfl), (tbt1 3 rfl rfl), by decide +kernel, by decide⟩
set_option maxRecDepth 10000 in
theorem mv_X4_add : MV yX4_add := ⟨(tbt2 175 rfl rfl), (tbt2 176 rfl rfl)⟩
set_option maxRecDepth 10000 in
theorem mf_X4_undo : MF yX4_undo cX4_undo 2 none 0 := ⟨(tbt2 226 rfl rfl), (tbt1 3 rfl rfl), by decide +kernel, by decide⟩
set_option maxRecDepth 10000 in
theorem mv_X4_undo : MV yX4_undo := ⟨(tbt2 224 rfl rfl), (tbt2 225 rfl rfl)⟩
set_option maxRecDepth 10000 in
theorem mf_X4_spread : MF yX4_spread cX4_spread 2 none 0 := ⟨(tbt2 32 rfl rfl), (tbt1 3 rfl rfl), by decide +kernel, by decide⟩
set_option maxRecDepth 10000 in
theorem mv_X4_spread : MV yX4_spread := ⟨(tbt2 31 rfl rfl), (tbp1 3 rfl)⟩
set_option maxRecDepth 10000 in
theorem mf_X4_turn : MF yX4_turn cX4_turn 6 none 4 := ⟨(tbt2 181 rfl rfl), (tbt1 3 rfl rfl), by decide +kernel, by decide⟩
set_option maxRecDepth 10000 in
theorem mv_X4_turn : MV yX4_turn := ⟨(tbt2 180 rfl rfl), (tbp1 8 rfl)⟩
set_option maxRecDepth 10000 in
theorem mf_X4_layerBehind : MF yX4_layerBehind cX4_layerBehind 8 (some .int) 5 := ⟨(tbt2 185 rfl rfl), (tbt1 3 rfl rfl), by decide +kernel, by decide⟩
set_option maxRecDepth 10000 in
theorem mv_X4_layerBehind : MV yX4_layerBehind := ⟨(tbt2 184 rfl rfl), (tbp1 9 rfl)⟩
set_option maxRecDepth 10000 in
theorem mf_X4_flip : MF yX4_flip cX4_flip 6 none 3 := ⟨(tbt2 210 rfl rfl), (tbt1 3 rfl rfl), by decide +kernel, by decide⟩
set_option maxRecDepth 10000 in
theorem mv_X4_flip : MV yX4_flip := ⟨(tbt2 209 rfl rfl), (tbp1 11 rfl)⟩
set_option maxRecDepth 10000 in
theorem mf_X4_measure : MF yX4_measure cX4_measure 3 none 0 := ⟨(tbt2 52 rfl rfl), (tbt1 3 rfl rfl), by decide +kernel, by decide⟩
set_option maxRecDepth 10000 in
theorem mv_X4_measure : MV yX4_measure := ⟨(tbt2 51 rfl rfl), (tbp1 4 rfl)⟩
set_option maxRecDepth 10000 in
theorem mf_X4_spot : MF yX4_spot cX4_spot 2 (some .int) 1 := ⟨(tbt2 62 rfl rfl), (tbt1 3 rfl rfl), by decide +kernel, by decide⟩
set_option maxRecDepth 10000 in
theorem mv_X4_spot : MV yX4_spot := ⟨(tbt2 61 rfl rfl), (tbp1 5 rfl)⟩
set_option maxRecDepth 10000 in
theorem mf_X4_mirrorSpot : MF yX4_mirrorSpot cX4_mirrorSpot 6 (some .int) 3 := ⟨(tbt2 189 rfl rfl), (tbt1 3 rfl rfl), by decide +kernel, by decide⟩
set_option maxRecDepth 10000 in
theorem mv_X4_mirrorSpot : MV yX4_mirrorSpot := ⟨(tbt2 188 rfl rfl), (tbp1 10 rfl)⟩
set_option maxRecDepth 10000 in
theorem mf_X4_x : MF yX4_x cX4_x 2 (some .int) 1 := ⟨(tbt2 156 rfl rfl), (tbt1 3 rfl rfl), by decide +kernel, by decide⟩
set_option maxRecDepth 10000 in
theorem mv_X4_x : MV yX4_x := ⟨(tbt2 154 rfl rfl), (tbt2 155 rfl rfl)⟩
set_option maxRecDepth 10000 in
theorem mf_X4_y : MF yX4_y cX4_y 2 (some .int) 1 := ⟨(tbt2 160 rfl rfl), (tbt1 3 rfl rfl), by decide +kernel, by decide⟩
set_option maxRecDepth 10000 in
theorem mv_X4_y : MV yX4_y := ⟨(tbt2 158 rfl rfl), (tbt2 159 rfl rfl)⟩
set_option maxRecDepth 10000 in
theorem mf_X4_quarter : MF yX4_quarter cX4_quarter 2 (some .int) 1 := ⟨(tbt2 164 rfl rfl), (tbt1 3 rfl rfl), by decide +kernel, by decide⟩
set_option maxRecDepth 10000 in
theorem mv_X4_quarter : MV yX4_quarter := ⟨(tbt2 162 rfl rfl), (tbt2 163 rfl rfl)⟩
set_option maxRecDepth 10000 in
theorem mf_X4_layer : MF yX4_layer cX4_layer 2 (some .int) 1 := ⟨(tbt2 206 rfl rfl), (tbt1 3 rfl rfl), by decide +kernel, by decide⟩
set_option maxRecDepth 10000 in
theorem mv_X4_layer : MV yX4_layer := ⟨(tbt2 204 rfl rfl), (tbt2 205 rfl rfl)⟩
set_option maxRecDepth 10000 in
theorem mf_X4_isUp : MF yX4_isUp cX4_isUp 2 (some .boolean) 1 := ⟨(tbt2 214 rfl rfl), (tbt1 3 rfl rfl), by decide +kernel, by decide⟩
set_option maxRecDepth 10000 in
theorem mv_X4_isUp : MV yX4_isUp := ⟨(tbt2 212 rfl rfl), (tbt2 213 rfl rfl)⟩
set_option maxRecDepth 10000 in
theorem mf_X4_heightOver : MF yX4_heightOver cX4_heightOver 2 (some .int) 1 := ⟨(tbt2 202 rfl rfl), (tbt1 3 rfl rfl), by decide +kernel, by decide⟩
set_option maxRecDepth 10000 in
theorem mv_X4_heightOver : MV yX4_heightOver := ⟨(tbt2 200 rfl rfl), (tbt2 201 rfl rfl)⟩
set_option maxRecDepth 10000 in
theorem mf_X4_isOn : MF yX4_isOn cX4_isOn 5 (some .boolean) 4 := ⟨(tbt2 152 rfl rfl), (tbt1 3 rfl rfl), by decide +kernel, by decide⟩
set_option maxRecDepth 10000 in
theorem mv_X4_isOn : MV yX4_isOn := ⟨(tbt2 150 rfl rfl), (tbt2 151 rfl rfl)⟩
set_option maxRecDepth 10000 in
theorem mf_X4_lying : MF yX4_lying cX4_lying 6 (some .int) 3 := ⟨(tbt2 148 rfl rfl), (tbt1 3 rfl rfl), by decide +kernel, by decide⟩
set_option maxRecDepth 10000 in
theorem mv_X4_lying : MV yX4_lying := ⟨(tbt2 146 rfl rfl), (tbt2 147 rfl rfl)⟩
set_option maxRecDepth 10000 in
theorem mf_X4_isCrossed : MF yX4_isCrossed cX4_isCrossed 4 (some .boolean) 2 := ⟨(tbt2 144 rfl rfl), (tbt1 3 rfl rfl), by decide +kernel, by decide⟩
set_option maxRecDepth 10000 in
theorem mv_X4_isCrossed : MV yX4_isCrossed := ⟨(tbt2 142 rfl rfl), (tbt2 143 rfl rfl)⟩
set_option maxRecDepth 10000 in
theorem mf_X4_find : MF yX4_find cX4_find 6 (some .int) 4 := ⟨(tbt3 15 rfl rfl), (tbt1 3 rfl rfl), by decide +kernel, by decide⟩
set_option maxRecDepth 10000 in
theorem mv_X4_find : MV yX4_find := ⟨(tbt3 13 rfl rfl), (tbt3 14 rfl rfl)⟩
set_option maxRecDepth 10000 in
theorem mf_X4_taken : MF yX4_taken cX4_taken 3 (some .int) 0 := ⟨(tbt2 218 rfl rfl), (tbt1 3 rfl rfl), by decide +kernel, by decide⟩
set_option maxRecDepth 10000 in
theorem mv_X4_taken : MV yX4_taken := ⟨(tbt2 216 rfl rfl), (tbt2 217 rfl rfl)⟩
set_option maxRecDepth 10000 in
theorem mf_X4_highest : MF yX4_highest cX4_highest 3 (some .int) 0 := ⟨(tbt3 28 rfl rfl), (tbt1 3 rfl rfl), by decide +kernel, by decide⟩
set_option maxRecDepth 10000 in
theorem mv_X4_highest : MV yX4_highest := ⟨(tbt3 26 rfl rfl), (tbt3 27 rfl rfl)⟩
set_option maxRecDepth 10000 in
theorem mf_X4_heightOn : MF yX4_heightOn cX4_heightOn 5 (some .int) 2 := ⟨(tbt3 138 rfl rfl), (tbt1 3 rfl rfl), by decide +kernel, by decide⟩
set_option maxRecDepth 10000 in
theorem mv_X4_heightOn : MV yX4_heightOn := ⟨(tbt3 136 rfl rfl), (tbt3 137 rfl rfl)⟩
set_option maxRecDepth 10000 in
theorem mf_X4_turnedDown : MF yX4_turnedDown cX4_turnedDown 3 (some .int) 0 := ⟨(tbt4 154 rfl rfl), (tbt1 3 rfl rfl), by decide +kernel, by decide⟩
set_option maxRecDepth 10000 in
theorem mv_X4_turnedDown : MV yX4_turnedDown := ⟨(tbt4 152 rfl rfl), (tbt4 153 rfl rfl)⟩
set_option maxRecDepth 10000 in
theorem mf_X4_leastX : MF yX4_leastX cX4_leastX 1 (some .int) 0 := ⟨(tbt3 39 rfl rfl), (tbt1 3 rfl rfl), by decide +kernel, by decide⟩
set_option maxRecDepth 10000 in
theorem mv_X4_leastX : MV yX4_leastX := ⟨(tbt3 37 rfl rfl), (tbt3 38 rfl rfl)⟩
set_option maxRecDepth 10000 in
theorem mf_X4_greatestX : MF yX4_greatestX cX4_greatestX 1 (some .int) 0 := ⟨(tbt3 50 rfl rfl), (tbt1 3 rfl rfl), by decide +kernel, by decide⟩
set_option maxRecDepth 10000 in
theorem mv_X4_greatestX : MV yX4_greatestX := ⟨(tbt3 48 rfl rfl), (tbt3 49 rfl rfl)⟩
set_option maxRecDepth 10000 in
theorem mf_X4_leastY : MF yX4_leastY cX4_leastY 1 (some .int) 0 := ⟨(tbt3 58 rfl rfl), (tbt1 3 rfl rfl), by decide +kernel, by decide⟩
set_option maxRecDepth 10000 in
theorem mv_X4_leastY : MV yX4_leastY := ⟨(tbt3 56 rfl rfl), (tbt3 57 rfl rfl)⟩
set_option maxRecDepth 10000 in
theorem mf_X4_greatestY : MF yX4_greatestY cX4_greatestY 1 (some .int) 0 := ⟨(tbt3 62 rfl rfl), (tbt1 3 rfl rfl), by decide +kernel, by decide⟩
set_option maxRecDepth 10000 in
theorem mv_X4_greatestY : MV yX4_greatestY := ⟨(tbt3 60 rfl rfl), (tbt3 61 rfl rfl)⟩
set_option maxRecDepth 10000 in
theorem mf_X4_least : MF yX4_least cX4_least 4 (some .int) 1 := ⟨(tbt3 43 rfl rfl), (tbt1 3 rfl rfl), by decide +kernel, by decide⟩
set_option maxRecDepth 10000 in
theorem mv_X4_least : MV yX4_least := ⟨(tbt3 42 rfl rfl), (tbp1 12 rfl)⟩
set_option maxRecDepth 10000 in
theorem mf_X4_greatest : MF yX4_greatest cX4_greatest 4 (some .int) 1 := ⟨(tbt3 54 rfl rfl), (tbt1 3 rfl rfl), by decide +kernel, by decide⟩
set_option maxRecDepth 10000 in
theorem mv_X4_greatest : MV yX4_greatest := ⟨(tbt3 53 rfl rfl), (tbp1 13 rfl)⟩
set_option maxRecDepth 10000 in
theorem mf_X5_get : MF yX5_get cX5_get 2 (some .int) 2 := ⟨(tbt2 39 rfl rfl), (tbt1 9 rfl rfl), by decide +kernel, by decide⟩
set_option maxRecDepth 10000 in
theorem ms_X5_get : Cond.static yX5_get ∈ TB := (tbt2 38 rfl rfl)
set_option maxRecDepth 10000 in
theorem mf_X5_put : MF yX5_put cX5_put 3 none 3 := ⟨(tbt2 15 rfl rfl), (tbt1 9 rfl rfl), by decide +kernel, by decide⟩
set_option maxRecDepth 10000 in
theorem ms_X5_put : Cond.static yX5_put ∈ TB := (tbt2 14 rfl rfl)
set_option maxRecDepth 10000 in
theorem mf_X5_fill : MF yX5_fill cX5_fill 2 none 2 := ⟨(tbt2 55 rfl rfl), (tbt1 9 rfl rfl), by decide +kernel, by decide⟩
set_option maxRecDepth 10000 in
theorem ms_X5_fill : Cond.static yX5_fill ∈ TB := (tbt2 54 rfl rfl)
set_option maxRecDepth 10000 in
theorem mf_X6_init : MF yX6_init cX6_init 3 none 2 := ⟨(tbt1 159 rfl rfl), (tbt1 7 rfl rfl), by decide +kernel, by decide⟩
set_option maxRecDepth 10000 in
theorem mi_X6_init : Cond.instanceMethod yX6_init ∈ TB := (tbt1 158 rfl rfl)
set_option maxRecDepth 10000 in
theorem mf_X6_forget : MF yX6_forget cX6_forget 1 none 0 := ⟨(tbt2 103 rfl rfl), (tbt1 7 rfl rfl), by decide +kernel, by decide⟩
set_option maxRecDepth 10000 in
theorem mv_X6_forget : MV yX6_forget := ⟨(tbt2 101 rfl rfl), (tbt2 102 rfl rfl)⟩
set_option maxRecDepth 10000 in
theorem mf_X6_solve : MF yX6_solve cX6_solve 2 (some .int) 1 := ⟨(tbt4 9 rfl rfl), (tbt1 7 rfl rfl), by decide +kernel, by decide⟩
set_option maxRecDepth 10000 in
theorem mv_X6_solve : MV yX6_solve := ⟨(tbt4 7 rfl rfl), (tbt4 8 rfl rfl)⟩
set_option maxRecDepth 10000 in
theorem mf_X6_told : MF yX6_told cX6_told 3 (some .int) 2 := ⟨(tbt4 141 rfl rfl), (tbt1 7 rfl rfl), by decide +kernel, by decide⟩
set_option maxRecDepth 10000 in
theorem mv_X6_told : MV yX6_told := ⟨(tbt4 139 rfl rfl), (tbt4 140 rfl rfl)⟩
set_option maxRecDepth 10000 in
theorem mf_X6_tryRows : MF yX6_tryRows cX6_tryRows 2 none 1 := ⟨(tbt4 62 rfl rfl), (tbt1 7 rfl rfl), by decide +kernel, by decide⟩
set_option maxRecDepth 10000 in
theorem mv_X6_tryRows : MV yX6_tryRows := ⟨(tbt4 61 rfl rfl), (tbp2 6 rfl)⟩
set_option maxRecDepth 10000 in
theorem mf_X6_lengthen : MF yX6_lengthen cX6_lengthen 11 none 3 := ⟨(tbt4 65 rfl rfl), (tbt1 7 rfl rfl), by decide +kernel, by decide⟩
set_option maxRecDepth 10000 in
theorem ms_X6_lengthen : Cond.static yX6_lengthen ∈ TB := (tbt4 64 rfl rfl)
set_option maxRecDepth 10000 in
theorem mf_X6_weigh : MF yX6_weigh cX6_weigh 4 none 1 := ⟨(tbt4 69 rfl rfl), (tbt1 7 rfl rfl), by decide +kernel, by decide⟩
set_option maxRecDepth 10000 in
theorem mv_X6_weigh : MV yX6_weigh := ⟨(tbt4 68 rfl rfl), (tbp2 7 rfl)⟩
set_option maxRecDepth 10000 in
theorem mf_X6_tell : MF yX6_tell cX6_tell 3 (some .int) 3 := ⟨(tbt4 90 rfl rfl), (tbt1 7 rfl rfl), by decide +kernel, by decide⟩
set_option maxRecDepth 10000 in
theorem ms_X6_tell : Cond.static yX6_tell ∈ TB := (tbt4 89 rfl rfl)
set_option maxRecDepth 10000 in
theorem mf_X7_init : MF yX7_init cX7_init 1 none 0 := ⟨(tbt1 26 rfl rfl), (tbt1 2 rfl rfl), by decide +kernel, by decide⟩
set_option maxRecDepth 10000 in
theorem mi_X7_init : Cond.instanceMethod yX7_init ∈ TB := (tbt1 25 rfl rfl)
set_option maxRecDepth 10000 in
theorem mf_X7_resize : MF yX7_resize cX7_resize 5 none 1 := ⟨(tbt2 4 rfl rfl), (tbt1 2 rfl rfl), by decide +kernel, by decide⟩
set_option maxRecDepth 10000 in
theorem mv_X7_resize : MV yX7_resize := ⟨(tbt2 2 rfl rfl), (tbt2 3 rfl rfl)⟩
set_option maxRecDepth 10000 in
theorem mf_X7_place : MF yX7_place cX7_place 5 none 3 := ⟨(tbt2 8 rfl rfl), (tbt1 2 rfl rfl), by decide +kernel, by decide⟩
set_option maxRecDepth 10000 in
theorem mv_X7_place : MV yX7_place := ⟨(tbt2 7 rfl rfl), (tbp1 1 rfl)⟩
set_option maxRecDepth 10000 in
theorem mf_X7_across : MF yX7_across cX7_across 6 (some .int) 3 := ⟨(tbt2 19 rfl rfl), (tbt1 2 rfl rfl), by decide +kernel, by decide⟩
set_option maxRecDepth 10000 in
theorem mv_X7_across : MV yX7_across := ⟨(tbt2 18 rfl rfl), (tbp1 2 rfl)⟩
set_option maxRecDepth 10000 in
theorem mf_X7_has : MF yX7_has cX7_has 2 (some .boolean) 1 := ⟨(tbt2 234 rfl rfl), (tbt1 2 rfl rfl), by decide +kernel, by decide⟩
set_option maxRecDepth 10000 in
theorem mv_X7_has : MV yX7_has := ⟨(tbt2 232 rfl rfl), (tbt2 233 rfl rfl)⟩
set_option maxRecDepth 10000 in
theorem mf_X7_hasCell : MF yX7_hasCell cX7_hasCell 3 (some .boolean) 2 := ⟨(tbt2 23 rfl rfl), (tbt1 2 rfl rfl), by decide +kernel, by decide⟩
set_option maxRecDepth 10000 in
theorem mv_X7_hasCell : MV yX7_hasCell := ⟨(tbt2 21 rfl rfl), (tbt2 22 rfl rfl)⟩
set_option maxRecDepth 10000 in
theorem mf_X7_hasPoint : MF yX7_hasPoint cX7_hasPoint 4 (some .boolean) 3 := ⟨(tbt3 108 rfl rfl), (tbt1 2 rfl rfl), by decide +kernel, by decide⟩
set_option maxRecDepth 10000 in
theorem mv_X7_hasPoint : MV yX7_hasPoint := ⟨(tbt3 106 rfl rfl), (tbt3 107 rfl rfl)⟩
set_option maxRecDepth 10000 in
theorem mf_X7_leaf : MF yX7_leaf cX7_leaf 4 (some .int) 3 := ⟨(tbt2 12 rfl rfl), (tbt1 2 rfl rfl), by decide +kernel, by decide⟩
set_option maxRecDepth 10000 in
theorem mv_X7_leaf : MV yX7_leaf := ⟨(tbt2 10 rfl rfl), (tbt2 11 rfl rfl)⟩
set_option maxRecDepth 10000 in
theorem mf_X7_x : MF yX7_x cX7_x 2 (some .int) 1 := ⟨(tbt2 36 rfl rfl), (tbt1 2 rfl rfl), by decide +kernel, by decide⟩
set_option maxRecDepth 10000 in
theorem mv_X7_x : MV yX7_x := ⟨(tbt2 34 rfl rfl), (tbt2 35 rfl rfl)⟩
set_option maxRecDepth 10000 in
theorem mf_X7_y : MF yX7_y cX7_y 2 (some .int) 1 := ⟨(tbt2 44 rfl rfl), (tbt1 2 rfl rfl), by decide +kernel, by decide⟩
set_option maxRecDepth 10000 in
theorem mv_X7_y : MV yX7_y := ⟨(tbt2 42 rfl rfl), (tbt2 43 rfl rfl)⟩
set_option maxRecDepth 10000 in
theorem mf_X7_quarter : MF yX7_quarter cX7_quarter 2 (some .int) 1 := ⟨(tbt2 48 rfl rfl), (tbt1 2 rfl rfl), by decide +kernel, by decide⟩
set_option maxRecDepth 10000 in
theorem mv_X7_quarter : MV yX7_quarter := ⟨(tbt2 46 rfl rfl), (tbt2 47 rfl rfl)⟩
set_option maxRecDepth 10000 in
theorem mf_X7_distance : MF yX7_distance cX7_distance 3 (some .int) 2 := ⟨(tbt4 34 rfl rfl), (tbt1 2 rfl rfl), by decide +kernel, by decide⟩
set_option maxRecDepth 10000 in
theorem mv_X7_distance : MV yX7_distance := ⟨(tbt4 32 rfl rfl), (tbt4 33 rfl rfl)⟩
set_option maxRecDepth 10000 in
theorem mf_X7_beside : MF yX7_beside cX7_beside 3 (some .int) 2 := ⟨(tbt2 90 rfl rfl), (tbt1 2 rfl rfl), by decide +kernel, by decide⟩
set_option maxRecDepth 10000 in
theorem mv_X7_beside : MV yX7_beside := ⟨(tbt2 88 rfl rfl), (tbt2 89 rfl rfl)⟩
set_option maxRecDepth 10000 in
theorem mf_X8_init : MF yX8_init cX8_init 2 none 1 := ⟨(tbt1 114 rfl rfl), (tbt1 5 rfl rfl), by decide +kernel, by decide⟩
set_option maxRecDepth 10000 in
theorem mi_X8_init : Cond.instanceMethod yX8_init ∈ TB := (tbt1 113 rfl rfl)
set_option maxRecDepth 10000 in
theorem mf_X8_mend : MF yX8_mend cX8_mend 1 none 0 := ⟨(tbt2 70 rfl rfl), (tbt1 5 rfl rfl), by decide +kernel, by decide⟩
set_option maxRecDepth 10000 in
theorem mv_X8_mend : MV yX8_mend := ⟨(tbt2 68 rfl rfl), (tbt2 69 rfl rfl)⟩
set_option maxRecDepth 10000 in
theorem mf_X8_drop : MF yX8_drop cX8_drop 7 none 4 := ⟨(tbt3 154 rfl rfl), (tbt1 5 rfl rfl), by decide +kernel, by decide⟩
set_option maxRecDepth 10000 in
theorem mv_X8_drop : MV yX8_drop := ⟨(tbt3 152 rfl rfl), (tbt3 153 rfl rfl)⟩
set_option maxRecDepth 10000 in
theorem mf_X8_isDown : MF yX8_isDown cX8_isDown 2 (some .boolean) 1 := ⟨(tbt2 94 rfl rfl), (tbt1 5 rfl rfl), by decide +kernel, by decide⟩
set_option maxRecDepth 10000 in
theorem mv_X8_isDown : MV yX8_isDown := ⟨(tbt2 92 rfl rfl), (tbt2 93 rfl rfl)⟩
set_option maxRecDepth 10000 in
theorem mf_X8_leastOf : MF yX8_leastOf cX8_leastOf 2 (some .int) 1 := ⟨(tbt2 80 rfl rfl), (tbt1 5 rfl rfl), by decide +kernel, by decide⟩
set_option maxRecDepth 10000 in
theorem mv_X8_leastOf : MV yX8_leastOf := ⟨(tbt2 78 rfl rfl), (tbt2 79 rfl rfl)⟩
set_option maxRecDepth 10000 in
theorem mf_X8_part : MF yX8_part cX8_part 2 none 0 := ⟨(tbt2 75 rfl rfl), (tbt1 5 rfl rfl), by decide +kernel, by decide⟩
set_option maxRecDepth 10000 in
theorem mv_X8_part : MV yX8_part := ⟨(tbt2 74 rfl rfl), (tbp1 6 rfl)⟩
set_option maxRecDepth 10000 in
theorem mf_X8_gather : MF yX8_gather cX8_gather 7 none 1 := ⟨(tbt2 85 rfl rfl), (tbt1 5 rfl rfl), by decide +kernel, by decide⟩
set_option maxRecDepth 10000 in
theorem mv_X8_gather : MV yX8_gather := ⟨(tbt2 84 rfl rfl), (tbp1 7 rfl)⟩
set_option maxRecDepth 10000 in
theorem mf_X8_total : MF yX8_total cX8_total 4 (some .int) 1 := ⟨(tbt3 164 rfl rfl), (tbt1 5 rfl rfl), by decide +kernel, by decide⟩
set_option maxRecDepth 10000 in
theorem mv_X8_total : MV yX8_total := ⟨(tbt3 162 rfl rfl), (tbt3 163 rfl rfl)⟩
set_option maxRecDepth 10000 in
theorem mf_X8_inner : MF yX8_inner cX8_inner 3 (some .int) 0 := ⟨(tbt3 172 rfl rfl), (tbt1 5 rfl rfl), by decide +kernel, by decide⟩
set_option maxRecDepth 10000 in
theorem mv_X8_inner : MV yX8_inner := ⟨(tbt3 170 rfl rfl), (tbt3 171 rfl rfl)⟩
set_option maxRecDepth 10000 in
theorem mf_X8_reachesOut : MF yX8_reachesOut cX8_reachesOut 3 (some .boolean) 1 := ⟨(tbt3 176 rfl rfl), (tbt1 5 rfl rfl), by decide +kernel, by decide⟩
set_option maxRecDepth 10000 in
theorem mv_X8_reachesOut : MV yX8_reachesOut := ⟨(tbt3 175 rfl rfl), (tbp2 0 rfl)⟩
set_option maxRecDepth 10000 in
theorem mf_X8_border : MF yX8_border cX8_border 5 (some .int) 1 := ⟨(tbt3 184 rfl rfl), (tbt1 5 rfl rfl), by decide +kernel, by decide⟩
set_option maxRecDepth 10000 in
theorem mv_X8_border : MV yX8_border := ⟨(tbt3 182 rfl rfl), (tbt3 183 rfl rfl)⟩
set_option maxRecDepth 10000 in
theorem mf_X9_init : MF yX9_init cX9_init 1 none 0 := ⟨(tbt1 18 rfl rfl), (tbt1 1 rfl rfl), by decide +kernel, by decide⟩
set_option maxRecDepth 10000 in
theorem mi_X9_init : Cond.instanceMethod yX9_init ∈ TB := (tbt1 17 rfl rfl)
set_option maxRecDepth 10000 in
theorem mf_X9_sheet : MF yX9_sheet cX9_sheet 3 (some .int) 1 := ⟨(tbt2 130 rfl rfl), (tbt1 1 rfl rfl), by decide +kernel, by decide⟩
set_option maxRecDepth 10000 in
theorem mv_X9_sheet : MV yX9_sheet := ⟨(tbt2 128 rfl rfl), (tbt2 129 rfl rfl)⟩
set_option maxRecDepth 10000 in
theorem mf_X9_fold : MF yX9_fold cX9_fold 5 (some .int) 4 := ⟨(tbt2 134 rfl rfl), (tbt1 1 rfl rfl), by decide +kernel, by decide⟩
set_option maxRecDepth 10000 in
theorem mv_X9_fold : MV yX9_fold := ⟨(tbt2 132 rfl rfl), (tbt2 133 rfl rfl)⟩
set_option maxRecDepth 10000 in
theorem mf_X9_unfold : MF yX9_unfold cX9_unfold 1 (some .int) 0 := ⟨(tbt2 222 rfl rfl), (tbt1 1 rfl rfl), by decide +kernel, by decide⟩
set_option maxRecDepth 10000 in
theorem mv_X9_unfold : MV yX9_unfold := ⟨(tbt2 220 rfl rfl), (tbt2 221 rfl rfl)⟩
set_option maxRecDepth 10000 in
theorem mf_X9_facet : MF yX9_facet cX9_facet 3 (some .int) 2 := ⟨(tbt2 230 rfl rfl), (tbt1 1 rfl rfl), by decide +kernel, by decide⟩
set_option maxRecDepth 10000 in
theorem mv_X9_facet : MV yX9_facet := ⟨(tbt2 228 rfl rfl), (tbt2 229 rfl rfl)⟩
set_option maxRecDepth 10000 in
theorem mf_X9_at : MF yX9_at cX9_at 5 (some .int) 4 := ⟨(tbt3 11 rfl rfl), (tbt1 1 rfl rfl), by decide +kernel, by decide⟩
set_option maxRecDepth 10000 in
theorem mv_X9_at : MV yX9_at := ⟨(tbt3 9 rfl rfl), (tbt3 10 rfl rfl)⟩
set_option maxRecDepth 10000 in
theorem mf_X9_places : MF yX9_places cX9_places 1 (some .int) 0 := ⟨(tbt3 20 rfl rfl), (tbt1 1 rfl rfl), by decide +kernel, by decide⟩
set_option maxRecDepth 10000 in
theorem mv_X9_places : MV yX9_places := ⟨(tbt3 18 rfl rfl), (tbt3 19 rfl rfl)⟩
set_option maxRecDepth 10000 in
theorem mf_X9_deepest : MF yX9_deepest cX9_deepest 1 (some .int) 0 := ⟨(tbt3 24 rfl rfl), (tbt1 1 rfl rfl), by decide +kernel, by decide⟩
set_option maxRecDepth 10000 in
theorem mv_X9_deepest : MV yX9_deepest := ⟨(tbt3 22 rfl rfl), (tbt3 23 rfl rfl)⟩
set_option maxRecDepth 10000 in
theorem mf_X9_reach : MF yX9_reach cX9_reach 2 (some .int) 1 := ⟨(tbt3 35 rfl rfl), (tbt1 1 rfl rfl), by decide +kernel, by decide⟩
set_option maxRecDepth 10000 in
theorem mv_X9_reach : MV yX9_reach := ⟨(tbt3 33 rfl rfl), (tbt3 34 rfl rfl)⟩
set_option maxRecDepth 10000 in
theorem mf_X9_folds : MF yX9_folds cX9_folds 1 (some .int) 0 := ⟨(tbt3 66 rfl rfl), (tbt1 1 rfl rfl), by decide +kernel, by decide⟩
set_option maxRecDepth 10000 in
theorem mv_X9_folds : MV yX9_folds := ⟨(tbt3 64 rfl rfl), (tbt3 65 rfl rfl)⟩
set_option maxRecDepth 10000 in
theorem mf_X9_crease : MF yX9_crease cX9_crease 3 (some .int) 2 := ⟨(tbt3 70 rfl rfl), (tbt1 1 rfl rfl), by decide +kernel, by decide⟩
set_option maxRecDepth 10000 in
theorem mv_X9_crease : MV yX9_crease := ⟨(tbt3 68 rfl rfl), (tbt3 69 rfl rfl)⟩
set_option maxRecDepth 10000 in
theorem mf_X9_neighbour : MF yX9_neighbour cX9_neighbour 3 (some .int) 2 := ⟨(tbt3 85 rfl rfl), (tbt1 1 rfl rfl), by decide +kernel, by decide⟩
set_option maxRecDepth 10000 in
theorem mv_X9_neighbour : MV yX9_neighbour := ⟨(tbt3 83 rfl rfl), (tbt3 84 rfl rfl)⟩
set_option maxRecDepth 10000 in
theorem mf_X9_creases : MF yX9_creases cX9_creases 2 (some .int) 1 := ⟨(tbt3 90 rfl rfl), (tbt1 1 rfl rfl), by decide +kernel, by decide⟩
set_option maxRecDepth 10000 in
theorem mv_X9_creases : MV yX9_creases := ⟨(tbt3 88 rfl rfl), (tbt3 89 rfl rfl)⟩
set_option maxRecDepth 10000 in
theorem mf_X9_balance : MF yX9_balance cX9_balance 4 (some .int) 3 := ⟨(tbt3 104 rfl rfl), (tbt1 1 rfl rfl), by decide +kernel, by decide⟩
set_option maxRecDepth 10000 in
theorem mv_X9_balance : MV yX9_balance := ⟨(tbt3 102 rfl rfl), (tbt3 103 rfl rfl)⟩
set_option maxRecDepth 10000 in
theorem mf_X9_degree : MF yX9_degree cX9_degree 4 (some .int) 3 := ⟨(tbt3 126 rfl rfl), (tbt1 1 rfl rfl), by decide +kernel, by decide⟩
set_option maxRecDepth 10000 in
theorem mv_X9_degree : MV yX9_degree := ⟨(tbt3 124 rfl rfl), (tbt3 125 rfl rfl)⟩
set_option maxRecDepth 10000 in
theorem mf_X9_knife : MF yX9_knife cX9_knife 3 (some .int) 1 := ⟨(tbt3 130 rfl rfl), (tbt1 1 rfl rfl), by decide +kernel, by decide⟩
set_option maxRecDepth 10000 in
theorem mv_X9_knife : MV yX9_knife := ⟨(tbt3 128 rfl rfl), (tbt3 129 rfl rfl)⟩
set_option maxRecDepth 10000 in
theorem mf_X9_thickness : MF yX9_thickness cX9_thickness 3 (some .int) 2 := ⟨(tbt3 134 rfl rfl), (tbt1 1 rfl rfl), by decide +kernel, by decide⟩
set_option maxRecDepth 10000 in
theorem mv_X9_thickness : MV yX9_thickness := ⟨(tbt3 132 rfl rfl), (tbt3 133 rfl rfl)⟩
set_option maxRecDepth 10000 in
theorem mf_X9_would : MF yX9_would cX9_would 4 (some .int) 3 := ⟨(tbt3 145 rfl rfl), (tbt1 1 rfl rfl), by decide +kernel, by decide⟩
set_option maxRecDepth 10000 in
theorem mv_X9_would : MV yX9_would := ⟨(tbt3 143 rfl rfl), (tbt3 144 rfl rfl)⟩
set_option maxRecDepth 10000 in
theorem mf_X9_cut : MF yX9_cut cX9_cut 4 (some .int) 3 := ⟨(tbt3 150 rfl rfl), (tbt1 1 rfl rfl), by decide +kernel, by decide⟩
set_option maxRecDepth 10000 in
theorem mv_X9_cut : MV yX9_cut := ⟨(tbt3 148 rfl rfl), (tbt3 149 rfl rfl)⟩
set_option maxRecDepth 10000 in
theorem mf_X9_pieces : MF yX9_pieces cX9_pieces 2 (some .int) 1 := ⟨(tbt3 160 rfl rfl), (tbt1 1 rfl rfl), by decide +kernel, by decide⟩
set_option maxRecDepth 10000 in
theorem mv_X9_pieces : MV yX9_pieces := ⟨(tbt3 158 rfl rfl), (tbt3 159 rfl rfl)⟩
set_option maxRecDepth 10000 in
theorem mf_X9_holes : MF yX9_holes cX9_holes 1 (some .int) 0 := ⟨(tbt3 168 rfl rfl), (tbt1 1 rfl rfl), by decide +kernel, by decide⟩
set_option maxRecDepth 10000 in
theorem mv_X9_holes : MV yX9_holes := ⟨(tbt3 166 rfl rfl), (tbt3 167 rfl rfl)⟩
set_option maxRecDepth 10000 in
theorem mf_X9_rims : MF yX9_rims cX9_rims 2 (some .int) 1 := ⟨(tbt3 180 rfl rfl), (tbt1 1 rfl rfl), by decide +kernel, by decide⟩
set_option maxRecDepth 10000 in
theorem mv_X9_rims : MV yX9_rims := ⟨(tbt3 178 rfl rfl), (tbt3 179 rfl rfl)⟩
set_option maxRecDepth 10000 in
theorem mf_X9_piece : MF yX9_piece cX9_piece 2 (some .int) 1 := ⟨(tbt3 188 rfl rfl), (tbt1 1 rfl rfl), by decide +kernel, by decide⟩
set_option maxRecDepth 10000 in
theorem mv_X9_piece : MV yX9_piece := ⟨(tbt3 186 rfl rfl), (tbt3 187 rfl rfl)⟩
set_option maxRecDepth 10000 in
theorem mf_X9_mark : MF yX9_mark cX9_mark 4 (some .int) 2 := ⟨(tbt3 193 rfl rfl), (tbt1 1 rfl rfl), by decide +kernel, by decide⟩
set_option maxRecDepth 10000 in
theorem mv_X9_mark : MV yX9_mark := ⟨(tbt3 191 rfl rfl), (tbt3 192 rfl rfl)⟩
set_option maxRecDepth 10000 in
theorem mf_X9_markCell : MF yX9_markCell cX9_markCell 5 (some .int) 3 := ⟨(tbt3 207 rfl rfl), (tbt1 1 rfl rfl), by decide +kernel, by decide⟩
set_option maxRecDepth 10000 in
theorem mv_X9_markCell : MV yX9_markCell := ⟨(tbt3 205 rfl rfl), (tbt3 206 rfl rfl)⟩
set_option maxRecDepth 10000 in
theorem mf_X9_take : MF yX9_take cX9_take 2 (some .int) 0 := ⟨(tbt3 213 rfl rfl), (tbt1 1 rfl rfl), by decide +kernel, by decide⟩
set_option maxRecDepth 10000 in
theorem mv_X9_take : MV yX9_take := ⟨(tbt3 211 rfl rfl), (tbt3 212 rfl rfl)⟩
set_option maxRecDepth 10000 in
theorem mf_X9_same : MF yX9_same cX9_same 2 (some .int) 0 := ⟨(tbt3 217 rfl rfl), (tbt1 1 rfl rfl), by decide +kernel, by decide⟩
set_option maxRecDepth 10000 in
theorem mv_X9_same : MV yX9_same := ⟨(tbt3 215 rfl rfl), (tbt3 216 rfl rfl)⟩
set_option maxRecDepth 10000 in
theorem mf_X9_mirror : MF yX9_mirror cX9_mirror 3 (some .int) 2 := ⟨(tbt3 221 rfl rfl), (tbt1 1 rfl rfl), by decide +kernel, by decide⟩
set_option maxRecDepth 10000 in
theorem mv_X9_mirror : MV yX9_mirror := ⟨(tbt3 219 rfl rfl), (tbt3 220 rfl rfl)⟩
set_option maxRecDepth 10000 in
theorem mf_X9_mirrors : MF yX9_mirrors cX9_mirrors 4 (some .int) 0 := ⟨(tbt3 238 rfl rfl), (tbt1 1 rfl rfl), by decide +kernel, by decide⟩
set_option maxRecDepth 10000 in
theorem mv_X9_mirrors : MV yX9_mirrors := ⟨(tbt3 236 rfl rfl), (tbt3 237 rfl rfl)⟩
set_option maxRecDepth 10000 in
theorem mf_X9_fewest : MF yX9_fewest cX9_fewest 2 (some .int) 1 := ⟨(tbt4 2 rfl rfl), (tbt1 1 rfl rfl), by decide +kernel, by decide⟩
set_option maxRecDepth 10000 in
theorem mv_X9_fewest : MV yX9_fewest := ⟨(tbt4 0 rfl rfl), (tbt4 1 rfl rfl)⟩
set_option maxRecDepth 10000 in
theorem mf_X9_way : MF yX9_way cX9_way 4 (some .int) 2 := ⟨(tbt4 137 rfl rfl), (tbt1 1 rfl rfl), by decide +kernel, by decide⟩
set_option maxRecDepth 10000 in
theorem mv_X9_way : MV yX9_way := ⟨(tbt4 135 rfl rfl), (tbt4 136 rfl rfl)⟩
set_option maxRecDepth 10000 in
theorem mf_X9_ways : MF yX9_ways cX9_ways 3 (some .int) 1 := ⟨(tbt4 145 rfl rfl), (tbt1 1 rfl rfl), by decide +kernel, by decide⟩
set_option maxRecDepth 10000 in
theorem mv_X9_ways : MV yX9_ways := ⟨(tbt4 143 rfl rfl), (tbt4 144 rfl rfl)⟩
set_option maxRecDepth 10000 in
theorem mf_X9_count : MF yX9_count cX9_count 2 (some .int) 1 := ⟨(tbt4 150 rfl rfl), (tbt1 1 rfl rfl), by decide +kernel, by decide⟩
set_option maxRecDepth 10000 in
theorem mv_X9_count : MV yX9_count := ⟨(tbt4 148 rfl rfl), (tbt4 149 rfl rfl)⟩
set_option maxRecDepth 10000 in
theorem mf_X9_begin : MF yX9_begin cX9_begin 2 none 1 := ⟨(tbt2 0 rfl rfl), (tbt1 1 rfl rfl), by decide +kernel, by decide⟩
set_option maxRecDepth 10000 in
theorem mv_X9_begin : MV yX9_begin := ⟨(tbt1 239 rfl rfl), (tbp1 0 rfl)⟩
set_option maxRecDepth 10000 in
theorem mf_X9_draw : MF yX9_draw cX9_draw 3 none 2 := ⟨(tbt3 197 rfl rfl), (tbt1 1 rfl rfl), by decide +kernel, by decide⟩
set_option maxRecDepth 10000 in
theorem mv_X9_draw : MV yX9_draw := ⟨(tbt3 196 rfl rfl), (tbp2 1 rfl)⟩
set_option maxRecDepth 10000 in
theorem mf_X9_yes : MF yX9_yes cX9_yes 1 (some .int) 1 := ⟨(tbt2 173 rfl rfl), (tbt1 1 rfl rfl), by decide +kernel, by decide⟩
set_option maxRecDepth 10000 in
theorem ms_X9_yes : Cond.static yX9_yes ∈ TB := (tbt2 172 rfl rfl)
set_option maxRecDepth 10000 in
theorem mf_X9_isEdge : MF yX9_isEdge cX9_isEdge 1 (some .boolean) 1 := ⟨(tbt3 73 rfl rfl), (tbt1 1 rfl rfl), by decide +kernel, by decide⟩
set_option maxRecDepth 10000 in
theorem ms_X9_isEdge : Cond.static yX9_isEdge ∈ TB := (tbt3 72 rfl rfl)
set_option maxRecDepth 10000 in
theorem mf_X9_isWayLength : MF yX9_isWayLength cX9_isWayLength 1 (some .boolean) 1 := ⟨(tbt4 5 rfl rfl), (tbt1 1 rfl rfl), by decide +kernel, by decide⟩
set_option maxRecDepth 10000 in
theorem ms_X9_isWayLength : Cond.static yX9_isWayLength ∈ TB := (tbt4 4 rfl rfl)
set_option maxRecDepth 10000 in
theorem mf_X10_init : MF yX10_init cX10_init 1 none 0 := ⟨(tbt4 159 rfl rfl), (tbt1 12 rfl rfl), by decide +kernel, by decide⟩
set_option maxRecDepth 10000 in
theorem mi_X10_init : Cond.instanceMethod yX10_init ∈ TB := (tbt4 158 rfl rfl)
set_option maxRecDepth 10000 in
theorem mf_X10_in : MF yX10_in cX10_in 6 (some .boolean) 3 := ⟨(tbt5 43 rfl rfl), (tbt1 12 rfl rfl), by decide +kernel, by decide⟩
set_option maxRecDepth 10000 in
theorem ms_X10_in : Cond.static yX10_in ∈ TB := (tbt5 42 rfl rfl)
set_option maxRecDepth 10000 in
theorem mf_X10_facets : MF yX10_facets cX10_facets 1 (some .int) 0 := ⟨(tbt4 168 rfl rfl), (tbt1 12 rfl rfl), by decide +kernel, by decide⟩
set_option maxRecDepth 10000 in
theorem mv_X10_facets : MV yX10_facets := ⟨(tbt4 167 rfl rfl), (tbp2 15 rfl)⟩
set_option maxRecDepth 10000 in
theorem mf_X10_noFacet : MF yX10_noFacet cX10_noFacet 2 (some .boolean) 1 := ⟨(tbt5 92 rfl rfl), (tbt1 12 rfl rfl), by decide +kernel, by decide⟩
set_option maxRecDepth 10000 in
theorem mv_X10_noFacet : MV yX10_noFacet := ⟨(tbt5 91 rfl rfl), (tbp3 5 rfl)⟩
set_option maxRecDepth 10000 in
theorem mf_X10_noLine : MF yX10_noLine cX10_noLine 2 (some .boolean) 2 := ⟨(tbt5 50 rfl rfl), (tbt1 12 rfl rfl), by decide +kernel, by decide⟩
set_option maxRecDepth 10000 in
theorem ms_X10_noLine : Cond.static yX10_noLine ∈ TB := (tbt5 49 rfl rfl)
set_option maxRecDepth 10000 in
theorem mf_X10_begin : MF yX10_begin cX10_begin 4 none 1 := ⟨(tbt4 164 rfl rfl), (tbt1 12 rfl rfl), by decide +kernel, by decide⟩
set_option maxRecDepth 10000 in
theorem mv_X10_begin : MV yX10_begin := ⟨(tbt4 163 rfl rfl), (tbp2 14 rfl)⟩
set_option maxRecDepth 10000 in
theorem mf_X10_along : MF yX10_along cX10_along 8 (some .int) 4 := ⟨(tbt5 59 rfl rfl), (tbt1 12 rfl rfl), by decide +kernel, by decide⟩
set_option maxRecDepth 10000 in
theorem ms_X10_along : Cond.static yX10_along ∈ TB := (tbt5 58 rfl rfl)
set_option maxRecDepth 10000 in
theorem mf_X10_sideOf : MF yX10_sideOf cX10_sideOf 5 (some .int) 5 := ⟨(tbt5 56 rfl rfl), (tbt1 12 rfl rfl), by decide +kernel, by decide⟩
set_option maxRecDepth 10000 in
theorem ms_X10_sideOf : Cond.static yX10_sideOf ∈ TB := (tbt5 55 rfl rfl)
set_option maxRecDepth 10000 in
theorem mf_X10_turn : MF yX10_turn cX10_turn 6 none 5 := ⟨(tbt5 72 rfl rfl), (tbt1 12 rfl rfl), by decide +kernel, by decide⟩
set_option maxRecDepth 10000 in
theorem mv_X10_turn : MV yX10_turn := ⟨(tbt5 71 rfl rfl), (tbp3 2 rfl)⟩
set_option maxRecDepth 10000 in
theorem mf_X10_isThere : MF yX10_isThere cX10_isThere 5 (some .boolean) 4 := ⟨(tbt5 76 rfl rfl), (tbt1 12 rfl rfl), by decide +kernel, by decide⟩
set_option maxRecDepth 10000 in
theorem mv_X10_isThere : MV yX10_isThere := ⟨(tbt5 75 rfl rfl), (tbp3 3 rfl)⟩
set_option maxRecDepth 10000 in
theorem mf_X10_deepOf : MF yX10_deepOf cX10_deepOf 6 (some .int) 3 := ⟨(tbt5 96 rfl rfl), (tbt1 12 rfl rfl), by decide +kernel, by decide⟩
set_option maxRecDepth 10000 in
theorem mv_X10_deepOf : MV yX10_deepOf := ⟨(tbt5 95 rfl rfl), (tbp3 6 rfl)⟩
set_option maxRecDepth 10000 in
theorem mf_X10_placesOf : MF yX10_placesOf cX10_placesOf 3 (some .int) 0 := ⟨(tbt5 80 rfl rfl), (tbt1 12 rfl rfl), by decide +kernel, by decide⟩
set_option maxRecDepth 10000 in
theorem mv_X10_placesOf : MV yX10_placesOf := ⟨(tbt5 79 rfl rfl), (tbp3 4 rfl)⟩
set_option maxRecDepth 10000 in
theorem mf_X10_nextTo : MF yX10_nextTo cX10_nextTo 6 (some .int) 2 := ⟨(tbt5 67 rfl rfl), (tbt1 12 rfl rfl), by decide +kernel, by decide⟩
set_option maxRecDepth 10000 in
theorem mv_X10_nextTo : MV yX10_nextTo := ⟨(tbt5 66 rfl rfl), (tbp3 1 rfl)⟩
set_option maxRecDepth 10000 in
theorem mf_X10_sheet : MF yX10_sheet cX10_sheet 3 (some .int) 1 := ⟨(tbt5 39 rfl rfl), (tbt1 12 rfl rfl), by decide +kernel, by decide⟩
set_option maxRecDepth 10000 in
theorem mv_X10_sheet : MV yX10_sheet := ⟨(tbt5 37 rfl rfl), (tbt5 38 rfl rfl)⟩
set_option maxRecDepth 10000 in
theorem mf_X10_keep : MF yX10_keep cX10_keep 4 none 0 := ⟨(tbt5 63 rfl rfl), (tbt1 12 rfl rfl), by decide +kernel, by decide⟩
set_option maxRecDepth 10000 in
theorem mv_X10_keep : MV yX10_keep := ⟨(tbt5 62 rfl rfl), (tbp3 0 rfl)⟩
set_option maxRecDepth 10000 in
theorem mf_X10_fold : MF yX10_fold cX10_fold 12 (some .int) 4 := ⟨(tbt5 47 rfl rfl), (tbt1 12 rfl rfl), by decide +kernel, by decide⟩
set_option maxRecDepth 10000 in
theorem mv_X10_fold : MV yX10_fold := ⟨(tbt5 45 rfl rfl), (tbt5 46 rfl rfl)⟩
set_option maxRecDepth 10000 in
theorem mf_X10_unfold : MF yX10_unfold cX10_unfold 4 (some .int) 0 := ⟨(tbt5 84 rfl rfl), (tbt1 12 rfl rfl), by decide +kernel, by decide⟩
set_option maxRecDepth 10000 in
theorem mv_X10_unfold : MV yX10_unfold := ⟨(tbt5 82 rfl rfl), (tbt5 83 rfl rfl)⟩
set_option maxRecDepth 10000 in
theorem mf_X10_facet : MF yX10_facet cX10_facet 3 (some .int) 2 := ⟨(tbt5 88 rfl rfl), (tbt1 12 rfl rfl), by decide +kernel, by decide⟩
set_option maxRecDepth 10000 in
theorem mv_X10_facet : MV yX10_facet := ⟨(tbt5 86 rfl rfl), (tbt5 87 rfl rfl)⟩
set_option maxRecDepth 10000 in
theorem mf_X10_at : MF yX10_at cX10_at 6 (some .int) 4 := ⟨(tbt5 100 rfl rfl), (tbt1 12 rfl rfl), by decide +kernel, by decide⟩
set_option maxRecDepth 10000 in
theorem mv_X10_at : MV yX10_at := ⟨(tbt5 98 rfl rfl), (tbt5 99 rfl rfl)⟩
set_option maxRecDepth 10000 in
theorem mf_X10_places : MF yX10_places cX10_places 1 (some .int) 0 := ⟨(tbt5 104 rfl rfl), (tbt1 12 rfl rfl), by decide +kernel, by decide⟩
set_option maxRecDepth 10000 in
theorem mv_X10_places : MV yX10_places := ⟨(tbt5 102 rfl rfl), (tbt5 103 rfl rfl)⟩
set_option maxRecDepth 10000 in
theorem mf_X10_deepest : MF yX10_deepest cX10_deepest 3 (some .int) 0 := ⟨(tbt5 108 rfl rfl), (tbt1 12 rfl rfl), by decide +kernel, by decide⟩
set_option maxRecDepth 10000 in
theorem mv_X10_deepest : MV yX10_deepest := ⟨(tbt5 106 rfl rfl), (tbt5 107 rfl rfl)⟩
set_option maxRecDepth 10000 in
theorem mf_X10_reach : MF yX10_reach cX10_reach 5 (some .int) 1 := ⟨(tbt5 112 rfl rfl), (tbt1 12 rfl rfl), by decide +kernel, by decide⟩
set_option maxRecDepth 10000 in
theorem mv_X10_reach : MV yX10_reach := ⟨(tbt5 110 rfl rfl), (tbt5 111 rfl rfl)⟩
set_option maxRecDepth 10000 in
theorem mf_X10_folds : MF yX10_folds cX10_folds 1 (some .int) 0 := ⟨(tbt5 116 rfl rfl), (tbt1 12 rfl rfl), by decide +kernel, by decide⟩
set_option maxRecDepth 10000 in
theorem mv_X10_folds : MV yX10_folds := ⟨(tbt5 114 rfl rfl), (tbt5 115 rfl rfl)⟩
set_option maxRecDepth 10000 in
theorem mf_X10_crease : MF yX10_crease cX10_crease 3 (some .int) 2 := ⟨(tbt5 120 rfl rfl), (tbt1 12 rfl rfl), by decide +kernel, by decide⟩
set_option maxRecDepth 10000 in
theorem mv_X10_crease : MV yX10_crease := ⟨(tbt5 118 rfl rfl), (tbt5 119 rfl rfl)⟩
set_option maxRecDepth 10000 in
theorem mf_X10_neighbour : MF yX10_neighbour cX10_neighbour 3 (some .int) 2 := ⟨(tbt5 125 rfl rfl), (tbt1 12 rfl rfl), by decide +kernel, by decide⟩
set_option maxRecDepth 10000 in
theorem mv_X10_neighbour : MV yX10_neighbour := ⟨(tbt5 123 rfl rfl), (tbt5 124 rfl rfl)⟩
set_option maxRecDepth 10000 in
theorem mf_X10_creases : MF yX10_creases cX10_creases 6 (some .int) 1 := ⟨(tbt5 129 rfl rfl), (tbt1 12 rfl rfl), by decide +kernel, by decide⟩
set_option maxRecDepth 10000 in
theorem mv_X10_creases : MV yX10_creases := ⟨(tbt5 127 rfl rfl), (tbt5 128 rfl rfl)⟩
set_option maxRecDepth 10000 in
theorem mf_X10_slant : MF yX10_slant cX10_slant 4 (some .int) 3 := ⟨(tbt5 145 rfl rfl), (tbt1 12 rfl rfl), by decide +kernel, by decide⟩
set_option maxRecDepth 10000 in
theorem mv_X10_slant : MV yX10_slant := ⟨(tbt5 144 rfl rfl), (tbp3 9 rfl)⟩
set_option maxRecDepth 10000 in
theorem mf_X10_outer : MF yX10_outer cX10_outer 4 (some .int) 3 := ⟨(tbt5 149 rfl rfl), (tbt1 12 rfl rfl), by decide +kernel, by decide⟩
set_option maxRecDepth 10000 in
theorem mv_X10_outer : MV yX10_outer := ⟨(tbt5 148 rfl rfl), (tbp3 10 rfl)⟩
set_option maxRecDepth 10000 in
theorem mf_X10_ends : MF yX10_ends cX10_ends 5 (some .int) 4 := ⟨(tbt5 141 rfl rfl), (tbt1 12 rfl rfl), by decide +kernel, by decide⟩
set_option maxRecDepth 10000 in
theorem mv_X10_ends : MV yX10_ends := ⟨(tbt5 140 rfl rfl), (tbp3 8 rfl)⟩
set_option maxRecDepth 10000 in
theorem mf_X10_noPoint : MF yX10_noPoint cX10_noPoint 5 (some .boolean) 3 := ⟨(tbt5 137 rfl rfl), (tbt1 12 rfl rfl), by decide +kernel, by decide⟩
set_option maxRecDepth 10000 in
theorem mv_X10_noPoint : MV yX10_noPoint := ⟨(tbt5 136 rfl rfl), (tbp3 7 rfl)⟩
set_option maxRecDepth 10000 in
theorem mf_X10_balance : MF yX10_balance cX10_balance 7 (some .int) 3 := ⟨(tbt5 133 rfl rfl), (tbt1 12 rfl rfl), by decide +kernel, by decide⟩
set_option maxRecDepth 10000 in
theorem mv_X10_balance : MV yX10_balance := ⟨(tbt5 131 rfl rfl), (tbt5 132 rfl rfl)⟩
set_option maxRecDepth 10000 in
theorem mf_X10_degree : MF yX10_degree cX10_degree 6 (some .int) 3 := ⟨(tbt5 153 rfl rfl), (tbt1 12 rfl rfl), by decide +kernel, by decide⟩
set_option maxRecDepth 10000 in
theorem mv_X10_degree : MV yX10_degree := ⟨(tbt5 151 rfl rfl), (tbt5 152 rfl rfl)⟩
set_option maxRecDepth 10000 in
theorem mf_X10_knife : MF yX10_knife cX10_knife 3 (some .int) 1 := ⟨(tbt5 157 rfl rfl), (tbt1 12 rfl rfl), by decide +kernel, by decide⟩
set_option maxRecDepth 10000 in
theorem mv_X10_knife : MV yX10_knife := ⟨(tbt5 155 rfl rfl), (tbt5 156 rfl rfl)⟩
set_option maxRecDepth 10000 in
theorem mf_X10_touches : MF yX10_touches cX10_touches 5 (some .boolean) 3 := ⟨(tbt5 170 rfl rfl), (tbt1 12 rfl rfl), by decide +kernel, by decide⟩
set_option maxRecDepth 10000 in
theorem mv_X10_touches : MV yX10_touches := ⟨(tbt5 169 rfl rfl), (tbp3 12 rfl)⟩
set_option maxRecDepth 10000 in
theorem mf_X10_thickOf : MF yX10_thickOf cX10_thickOf 5 (some .int) 2 := ⟨(tbt5 166 rfl rfl), (tbt1 12 rfl rfl), by decide +kernel, by decide⟩
set_option maxRecDepth 10000 in
theorem mv_X10_thickOf : MV yX10_thickOf := ⟨(tbt5 165 rfl rfl), (tbp3 11 rfl)⟩
set_option maxRecDepth 10000 in
theorem mf_X10_thickness : MF yX10_thickness cX10_thickness 3 (some .int) 2 := ⟨(tbt5 162 rfl rfl), (tbt1 12 rfl rfl), by decide +kernel, by decide⟩
set_option maxRecDepth 10000 in
theorem mv_X10_thickness : MV yX10_thickness := ⟨(tbt5 160 rfl rfl), (tbt5 161 rfl rfl)⟩
set_option maxRecDepth 10000 in
theorem mf_X10_fallsOf : MF yX10_fallsOf cX10_fallsOf 6 (some .int) 3 := ⟨(tbt5 178 rfl rfl), (tbt1 12 rfl rfl), by decide +kernel, by decide⟩
set_option maxRecDepth 10000 in
theorem mv_X10_fallsOf : MV yX10_fallsOf := ⟨(tbt5 177 rfl rfl), (tbp3 13 rfl)⟩
set_option maxRecDepth 10000 in
theorem mf_X10_would : MF yX10_would cX10_would 4 (some .int) 3 := ⟨(tbt5 174 rfl rfl), (tbt1 12 rfl rfl), by decide +kernel, by decide⟩
set_option maxRecDepth 10000 in
theorem mv_X10_would : MV yX10_would := ⟨(tbt5 172 rfl rfl), (tbt5 173 rfl rfl)⟩
set_option maxRecDepth 10000 in
theorem mf_X10_cut : MF yX10_cut cX10_cut 5 (some .int) 3 := ⟨(tbt5 182 rfl rfl), (tbt1 12 rfl rfl), by decide +kernel, by decide⟩
set_option maxRecDepth 10000 in
theorem mv_X10_cut : MV yX10_cut := ⟨(tbt5 180 rfl rfl), (tbt5 181 rfl rfl)⟩
set_option maxRecDepth 10000 in
theorem mf_X10_hang : MF yX10_hang cX10_hang 5 none 0 := ⟨(tbt5 190 rfl rfl), (tbt1 12 rfl rfl), by decide +kernel, by decide⟩
set_option maxRecDepth 10000 in
theorem mv_X10_hang : MV yX10_hang := ⟨(tbt5 189 rfl rfl), (tbp3 14 rfl)⟩
set_option maxRecDepth 10000 in
theorem mf_X10_pieces : MF yX10_pieces cX10_pieces 4 (some .int) 1 := ⟨(tbt5 186 rfl rfl), (tbt1 12 rfl rfl), by decide +kernel, by decide⟩
set_option maxRecDepth 10000 in
theorem mv_X10_pieces : MV yX10_pieces := ⟨(tbt5 184 rfl rfl), (tbt5 185 rfl rfl)⟩
set_option maxRecDepth 10000 in
theorem mf_X10_holes : MF yX10_holes cX10_holes 5 (some .int) 0 := ⟨(tbt5 194 rfl rfl), (tbt1 12 rfl rfl), by decide +kernel, by decide⟩
set_option maxRecDepth 10000 in
theorem mv_X10_holes : MV yX10_holes := ⟨(tbt5 192 rfl rfl), (tbt5 193 rfl rfl)⟩
set_option maxRecDepth 10000 in
theorem mf_X10_rims : MF yX10_rims cX10_rims 6 (some .int) 1 := ⟨(tbt5 198 rfl rfl), (tbt1 12 rfl rfl), by decide +kernel, by decide⟩
set_option maxRecDepth 10000 in
theorem mv_X10_rims : MV yX10_rims := ⟨(tbt5 196 rfl rfl), (tbt5 197 rfl rfl)⟩
set_option maxRecDepth 10000 in
theorem mf_X10_piece : MF yX10_piece cX10_piece 2 (some .int) 1 := ⟨(tbt5 202 rfl rfl), (tbt1 12 rfl rfl), by decide +kernel, by decide⟩
set_option maxRecDepth 10000 in
theorem mv_X10_piece : MV yX10_piece := ⟨(tbt5 200 rfl rfl), (tbt5 201 rfl rfl)⟩
set_option maxRecDepth 10000 in
theorem mf_X10_marked : MF yX10_marked cX10_marked 3 (some .int) 0 := ⟨(tbt5 214 rfl rfl), (tbt1 12 rfl rfl), by decide +kernel, by decide⟩
set_option maxRecDepth 10000 in
theorem mv_X10_marked : MV yX10_marked := ⟨(tbt5 213 rfl rfl), (tbp3 15 rfl)⟩
set_option maxRecDepth 10000 in
theorem mf_X10_mark : MF yX10_mark cX10_mark 4 (some .int) 2 := ⟨(tbt5 206 rfl rfl), (tbt1 12 rfl rfl), by decide +kernel, by decide⟩
set_option maxRecDepth 10000 in
theorem mv_X10_mark : MV yX10_mark := ⟨(tbt5 204 rfl rfl), (tbt5 205 rfl rfl)⟩
set_option maxRecDepth 10000 in
theorem mf_X10_markCell : MF yX10_markCell cX10_markCell 5 (some .int) 3 := ⟨(tbt5 210 rfl rfl), (tbt1 12 rfl rfl), by decide +kernel, by decide⟩
set_option maxRecDepth 10000 in
theorem mv_X10_markCell : MV yX10_markCell := ⟨(tbt5 208 rfl rfl), (tbt5 209 rfl rfl)⟩
set_option maxRecDepth 10000 in
theorem mf_X10_take : MF yX10_take cX10_take 2 (some .int) 0 := ⟨(tbt5 218 rfl rfl), (tbt1 12 rfl rfl), by decide +kernel, by decide⟩
set_option maxRecDepth 10000 in
theorem mv_X10_take : MV yX10_take := ⟨(tbt5 216 rfl rfl), (tbt5 217 rfl rfl)⟩
set_option maxRecDepth 10000 in
theorem mf_X10_same : MF yX10_same cX10_same 3 (some .int) 0 := ⟨(tbt5 222 rfl rfl), (tbt1 12 rfl rfl), by decide +kernel, by decide⟩
set_option maxRecDepth 10000 in
theorem mv_X10_same : MV yX10_same := ⟨(tbt5 220 rfl rfl), (tbt5 221 rfl rfl)⟩
set_option maxRecDepth 10000 in
theorem mf_X10_isMirror : MF yX10_isMirror cX10_isMirror 5 (some .boolean) 2 := ⟨(tbt5 230 rfl rfl), (tbt1 12 rfl rfl), by decide +kernel, by decide⟩
set_option maxRecDepth 10000 in
theorem mv_X10_isMirror : MV yX10_isMirror := ⟨(tbt5 229 rfl rfl), (tbp4 0 rfl)⟩
set_option maxRecDepth 10000 in
theorem mf_X10_mirror : MF yX10_mirror cX10_mirror 3 (some .int) 2 := ⟨(tbt5 226 rfl rfl), (tbt1 12 rfl rfl), by decide +kernel, by decide⟩
set_option maxRecDepth 10000 in
theorem mv_X10_mirror : MV yX10_mirror := ⟨(tbt5 224 rfl rfl), (tbt5 225 rfl rfl)⟩
set_option maxRecDepth 10000 in
theorem mf_X10_mirrors : MF yX10_mirrors cX10_mirrors 4 (some .int) 0 := ⟨(tbt5 234 rfl rfl), (tbt1 12 rfl rfl), by decide +kernel, by decide⟩
set_option maxRecDepth 10000 in
theorem mv_X10_mirrors : MV yX10_mirrors := ⟨(tbt5 232 rfl rfl), (tbt5 233 rfl rfl)⟩
set_option maxRecDepth 10000 in
theorem mf_X10_measure : MF yX10_measure cX10_measure 5 none 1 := ⟨(tbt6 6 rfl rfl), (tbt1 12 rfl rfl), by decide +kernel, by decide⟩
set_option maxRecDepth 10000 in
theorem mv_X10_measure : MV yX10_measure := ⟨(tbt6 5 rfl rfl), (tbp4 2 rfl)⟩
set_option maxRecDepth 10000 in
theorem mf_X10_goes : MF yX10_goes cX10_goes 11 (some .boolean) 2 := ⟨(tbt6 20 rfl rfl), (tbt1 12 rfl rfl), by decide +kernel, by decide⟩
set_option maxRecDepth 10000 in
theorem mv_X10_goes : MV yX10_goes := ⟨(tbt6 19 rfl rfl), (tbp4 5 rfl)⟩
set_option maxRecDepth 10000 in
theorem mf_X10_cuts : MF yX10_cuts cX10_cuts 13 (some .int) 1 := ⟨(tbt6 16 rfl rfl), (tbt1 12 rfl rfl), by decide +kernel, by decide⟩
set_option maxRecDepth 10000 in
theorem mv_X10_cuts : MV yX10_cuts := ⟨(tbt6 15 rfl rfl), (tbp4 4 rfl)⟩
set_option maxRecDepth 10000 in
theorem mf_X10_goThrough : MF yX10_goThrough cX10_goThrough 3 (some .boolean) 1 := ⟨(tbt6 12 rfl rfl), (tbt1 12 rfl rfl), by decide +kernel, by decide⟩
set_option maxRecDepth 10000 in
theorem mv_X10_goThrough : MV yX10_goThrough := ⟨(tbt6 11 rfl rfl), (tbp4 3 rfl)⟩
set_option maxRecDepth 10000 in
theorem mf_X10_look : MF yX10_look cX10_look 3 (some .int) 1 := ⟨(tbt6 2 rfl rfl), (tbt1 12 rfl rfl), by decide +kernel, by decide⟩
set_option maxRecDepth 10000 in
theorem mv_X10_look : MV yX10_look := ⟨(tbt6 1 rfl rfl), (tbp4 1 rfl)⟩
set_option maxRecDepth 10000 in
theorem mf_X10_fewest : MF yX10_fewest cX10_fewest 2 (some .int) 1 := ⟨(tbt5 238 rfl rfl), (tbt1 12 rfl rfl), by decide +kernel, by decide⟩
set_option maxRecDepth 10000 in
theorem mv_X10_fewest : MV yX10_fewest := ⟨(tbt5 236 rfl rfl), (tbt5 237 rfl rfl)⟩
set_option maxRecDepth 10000 in
theorem mf_X10_way : MF yX10_way cX10_way 5 (some .int) 2 := ⟨(tbt6 24 rfl rfl), (tbt1 12 rfl rfl), by decide +kernel, by decide⟩
set_option maxRecDepth 10000 in
theorem mv_X10_way : MV yX10_way := ⟨(tbt6 22 rfl rfl), (tbt6 23 rfl rfl)⟩
set_option maxRecDepth 10000 in
theorem mf_X10_ways : MF yX10_ways cX10_ways 2 (some .int) 1 := ⟨(tbt6 28 rfl rfl), (tbt1 12 rfl rfl), by decide +kernel, by decide⟩
set_option maxRecDepth 10000 in
theorem mv_X10_ways : MV yX10_ways := ⟨(tbt6 26 rfl rfl), (tbt6 27 rfl rfl)⟩
set_option maxRecDepth 10000 in
theorem mf_X10_count : MF yX10_count cX10_count 5 (some .int) 1 := ⟨(tbt6 32 rfl rfl), (tbt1 12 rfl rfl), by decide +kernel, by decide⟩
set_option maxRecDepth 10000 in
theorem mv_X10_count : MV yX10_count := ⟨(tbt6 30 rfl rfl), (tbt6 31 rfl rfl)⟩
set_option maxRecDepth 10000 in
theorem mf_J9_abs_0f7a4 : MF yJ9_abs_0f7a4 cJ9_abs_0f7a4 1 (some .int) 1 := ⟨(tbt4 38 rfl rfl), (tbt1 13 rfl rfl), by decide +kernel, by decide⟩
set_option maxRecDepth 10000 in
theorem ms_J9_abs_0f7a4 : Cond.static yJ9_abs_0f7a4 ∈ TB := (tbt4 37 rfl rfl)
set_option maxRecDepth 10000 in
theorem mf_J9_max_7cf53 : MF yJ9_max_7cf53 cJ9_max_7cf53 2 (some .int) 2 := ⟨(tbt3 31 rfl rfl), (tbt1 13 rfl rfl), by decide +kernel, by decide⟩
set_option maxRecDepth 10000 in
theorem ms_J9_max_7cf53 : Cond.static yJ9_max_7cf53 ∈ TB := (tbt3 30 rfl rfl)
set_option maxRecDepth 10000 in
theorem mf_J9_min_7cf53 : MF yJ9_min_7cf53 cJ9_min_7cf53 2 (some .int) 2 := ⟨(tbt3 46 rfl rfl), (tbt1 13 rfl rfl), by decide +kernel, by decide⟩
set_option maxRecDepth 10000 in
theorem ms_J9_min_7cf53 : Cond.static yJ9_min_7cf53 ∈ TB := (tbt3 45 rfl rfl)
set_option maxRecDepth 10000 in
theorem mf_J7_fill_53178 : MF yJ7_fill_53178 cJ7_fill_53178 4 none 2 := ⟨(tbt2 58 rfl rfl), (tbt1 10 rfl rfl), by decide +kernel, by decide⟩
set_option maxRecDepth 10000 in
theorem ms_J7_fill_53178 : Cond.static yJ7_fill_53178 ∈ TB := (tbt2 57 rfl rfl)
set_option maxRecDepth 10000 in
theorem ml_L_9 : ML RL 9 yX9_init := Or.inl (tbt1 16 rfl rfl)
set_option maxRecDepth 10000 in
theorem ml_X9_11 : ML RX9 11 yX7_init := Or.inr ⟨"OneSnip", (List.mem_of_getElem? (i := 0) rfl)⟩
set_option maxRecDepth 10000 in
theorem ml_X9_18 : ML RX9 18 yX4_init := Or.inl (tbt1 55 rfl rfl)
set_option maxRecDepth 10000 in
theorem ml_X9_27 : ML RX9 27 yX0_init := Or.inl (tbt1 99 rfl rfl)
set_option maxRecDepth 10000 in
theorem ml_X9_36 : ML RX9 36 yX8_init := Or.inl (tbt1 112 rfl rfl)
set_option maxRecDepth 10000 in
theorem ml_X9_43 : ML RX9 43 yX1_init := Or.inl (tbt1 139 rfl rfl)
set_option maxRecDepth 10000 in
theorem ml_X9_50 : ML RX9 50 yX6_init := Or.inl (tbt1 157 rfl rfl)
set_option maxRecDepth 10000 in
theorem ml_X6_11 : ML RX6 11 yX2_init := Or.inl (tbt1 163 rfl rfl)
set_option maxRecDepth 10000 in
theorem ml_X9_61 : ML RX9 61 yX9_begin := Or.inl (tbt1 237 rfl rfl)
set_option maxRecDepth 10000 in
theorem ml_X9_227 : ML RX9 227 yX7_resize := Or.inl (tbt2 1 rfl rfl)
set_option maxRecDepth 10000 in
theorem ml_X7_28 : ML RX7 28 yX7_place := Or.inl (tbt2 5 rfl rfl)
set_option maxRecDepth 10000 in
theorem ml_X7_32 : ML RX7 32 yX7_leaf := Or.inl (tbt2 9 rfl rfl)
set_option maxRecDepth 10000 in
theorem ml_X7_36 : ML RX7 36 yX5_put := Or.inl (tbt2 13 rfl rfl)
set_option maxRecDepth 10000 in
theorem ml_X7_42 : ML RX7 42 yX7_across := Or.inl (tbt2 16 rfl rfl)
set_option maxRecDepth 10000 in
theorem ml_X7_45 : ML RX7 45 yX7_hasCell := Or.inl (tbt2 20 rfl rfl)
set_option maxRecDepth 10000 in
theorem kc_X7_49 : Cond.constant RX7 49 (zI (-99999)) ∈ TB := (tbt2 24 rfl rfl)
set_option maxRecDepth 10000 in
theorem ml_X9_230 : ML RX9 230 yX4_flatten := Or.inl (tbt2 25 rfl rfl)
set_option maxRecDepth 10000 in
theorem ml_X4_52 : ML RX4 52 yX4_spread := Or.inl (tbt2 29 rfl rfl)
set_option maxRecDepth 10000 in
theorem ml_X4_78 : ML RX4 78 yX7_x := Or.inl (tbt2 33 rfl rfl)
set_option maxRecDepth 10000 in
theorem ml_X7_50 : ML RX7 50 yX5_get := Or.inl (tbt2 37 rfl rfl)
set_option maxRecDepth 10000 in
theorem ml_X4_55 : ML RX4 55 yX5_put := Or.inl (tbt2 40 rfl rfl)
set_option maxRecDepth 10000 in
theorem ml_X4_82 : ML RX4 82 yX7_y := Or.inl (tbt2 41 rfl rfl)
set_option maxRecDepth 10000 in
theorem ml_X4_85 : ML RX4 85 yX7_quarter := Or.inl (tbt2 45 rfl rfl)
set_option maxRecDepth 10000 in
theorem ml_X4_88 : ML RX4 88 yX4_measure := Or.inl (tbt2 49 rfl rfl)
set_option maxRecDepth 10000 in
theorem ml_X4_131 : ML RX4 131 yX5_fill := Or.inl (tbt2 53 rfl rfl)
set_option maxRecDepth 10000 in
theorem ml_X5_7 : ML RX5 7 yJ7_fill_53178 := Or.inl (tbt2 56 rfl rfl)
set_option maxRecDepth 10000 in
theorem ml_X4_135 : ML RX4 135 yX4_spot := Or.inl (tbt2 59 rfl rfl)
set_option maxRecDepth 10000 in
theorem ml_X4_69 : ML RX4 69 yX5_get := Or.inl (tbt2 63 rfl rfl)
set_option maxRecDepth 10000 in
theorem ml_X4_138 : ML RX4 138 yX3_spot := Or.inl (tbt2 64 rfl rfl)
set_option maxRecDepth 10000 in
theorem ml_X9_233 : ML RX9 233 yX8_mend := Or.inl (tbt2 67 rfl rfl)
set_option maxRecDepth 10000 in
theorem ml_X8_33 : ML RX8 33 yX5_fill := Or.inl (tbt2 71 rfl rfl)
set_option maxRecDepth 10000 in
theorem ml_X8_39 : ML RX8 39 yX8_part := Or.inl (tbt2 72 rfl rfl)
set_option maxRecDepth 10000 in
theorem kc_X8_65 : Cond.constant RX8 65 (zI (-99999)) ∈ TB := (tbt2 76 rfl rfl)
set_option maxRecDepth 10000 in
theorem ml_X8_66 : ML RX8 66 yX8_leastOf := Or.inl (tbt2 77 rfl rfl)
set_option maxRecDepth 10000 in
theorem ml_X8_61 : ML RX8 61 yX5_get := Or.inl (tbt2 81 rfl rfl)
set_option maxRecDepth 10000 in
theorem ml_X8_70 : ML RX8 70 yX8_gather := Or.inl (tbt2 82 rfl rfl)
set_option maxRecDepth 10000 in
theorem ml_X8_57 : ML RX8 57 yX5_put := Or.inl (tbt2 86 rfl rfl)
set_option maxRecDepth 10000 in
theorem ml_X8_74 : ML RX8 74 yX7_beside := Or.inl (tbt2 87 rfl rfl)
set_option maxRecDepth 10000 in
theorem ml_X8_78 : ML RX8 78 yX8_isDown := Or.inl (tbt2 91 rfl rfl)
set_option maxRecDepth 10000 in
theorem ml_X9_236 : ML RX9 236 yX1_wipe := Or.inl (tbt2 95 rfl rfl)
set_option maxRecDepth 10000 in
theorem ml_X1_19 : ML RX1 19 yX5_fill := Or.inl (tbt2 99 rfl rfl)
set_option maxRecDepth 10000 in
theorem ml_X9_239 : ML RX9 239 yX6_forget := Or.inl (tbt2 100 rfl rfl)
set_option maxRecDepth 10000 in
theorem kc_X6_45 : Cond.constant RX6 45 (zI (-99999)) ∈ TB := (tbt2 104 rfl rfl)
set_option maxRecDepth 10000 in
theorem ml_L_13 : ML RL 13 yX9_sheet := Or.inl (tbt2 127 rfl rfl)
set_option maxRecDepth 10000 in
theorem ml_L_18 : ML RL 18 yX9_fold := Or.inl (tbt2 131 rfl rfl)
set_option maxRecDepth 10000 in
theorem ml_X9_68 : ML RX9 68 yX3_isLine := Or.inl (tbt2 135 rfl rfl)
set_option maxRecDepth 10000 in
theorem ml_X9_74 : ML RX9 74 yX3_isSide := Or.inl (tbt2 138 rfl rfl)
set_option maxRecDepth 10000 in
theorem ml_X9_82 : ML RX9 82 yX4_isCrossed := Or.inl (tbt2 141 rfl rfl)
set_option maxRecDepth 10000 in
theorem ml_X4_146 : ML RX4 146 yX4_lying := Or.inl (tbt2 145 rfl rfl)
set_option maxRecDepth 10000 in
theorem ml_X4_95 : ML RX4 95 yX4_isOn := Or.inl (tbt2 149 rfl rfl)
set_option maxRecDepth 10000 in
theorem ml_X4_113 : ML RX4 113 yX4_x := Or.inl (tbt2 153 rfl rfl)
set_option maxRecDepth 10000 in
theorem ml_X4_114 : ML RX4 114 yX4_y := Or.inl (tbt2 157 rfl rfl)
set_option maxRecDepth 10000 in
theorem ml_X4_122 : ML RX4 122 yX4_quarter := Or.inl (tbt2 161 rfl rfl)
set_option maxRecDepth 10000 in
theorem ml_X4_140 : ML RX4 140 yX3_strip := Or.inl (tbt2 165 rfl rfl)
set_option maxRecDepth 10000 in
theorem ml_X4_143 : ML RX4 143 yX3_isOn := Or.inl (tbt2 168 rfl rfl)
set_option maxRecDepth 10000 in
theorem ml_X4_61 : ML RX4 61 yX9_yes := Or.inr ⟨"OneSnip", (List.mem_of_getElem? (i := 16) rfl)⟩
set_option maxRecDepth 10000 in
theorem ml_X9_87 : ML RX9 87 yX4_add := Or.inl (tbt2 174 rfl rfl)
set_option maxRecDepth 10000 in
theorem ml_X4_65 : ML RX4 65 yX4_turn := Or.inl (tbt2 178 rfl rfl)
set_option maxRecDepth 10000 in
theorem ml_X4_91 : ML RX4 91 yX4_layerBehind := Or.inl (tbt2 182 rfl rfl)
set_option maxRecDepth 10000 in
theorem ml_X4_103 : ML RX4 103 yX4_mirrorSpot := Or.inl (tbt2 186 rfl rfl)
set_option maxRecDepth 10000 in
theorem ml_X4_115 : ML RX4 115 yX3_mirrorX := Or.inl (tbt2 190 rfl rfl)
set_option maxRecDepth 10000 in
theorem ml_X4_119 : ML RX4 119 yX3_mirrorY := Or.inl (tbt2 193 rfl rfl)
set_option maxRecDepth 10000 in
theorem ml_X4_123 : ML RX4 123 yX3_mirrorQuarter := Or.inl (tbt2 196 rfl rfl)
set_option maxRecDepth 10000 in
theorem ml_X4_107 : ML RX4 107 yX4_heightOver := Or.inl (tbt2 199 rfl rfl)
set_option maxRecDepth 10000 in
theorem ml_X4_110 : ML RX4 110 yX4_layer := Or.inl (tbt2 203 rfl rfl)
set_option maxRecDepth 10000 in
theorem ml_X4_99 : ML RX4 99 yX4_flip := Or.inl (tbt2 207 rfl rfl)
set_option maxRecDepth 10000 in
theorem ml_X4_127 : ML RX4 127 yX4_isUp := Or.inl (tbt2 211 rfl rfl)
set_option maxRecDepth 10000 in
theorem ml_X9_91 : ML RX9 91 yX4_taken := Or.inl (tbt2 215 rfl rfl)
set_option maxRecDepth 10000 in
theorem ml_L_23 : ML RL 23 yX9_unfold := Or.inl (tbt2 219 rfl rfl)
set_option maxRecDepth 10000 in
theorem ml_X9_95 : ML RX9 95 yX4_undo := Or.inl (tbt2 223 rfl rfl)
set_option maxRecDepth 10000 in
theorem ml_L_28 : ML RL 28 yX9_facet := Or.inl (tbt2 227 rfl rfl)
set_option maxRecDepth 10000 in
theorem ml_X9_98 : ML RX9 98 yX7_has := Or.inl (tbt2 231 rfl rfl)
set_option maxRecDepth 10000 in
theorem ml_X9_101 : ML RX9 101 yX4_x := Or.inl (tbt2 235 rfl rfl)
set_option maxRecDepth 10000 in
theorem ml_X9_105 : ML RX9 105 yX4_y := Or.inl (tbt2 236 rfl rfl)
set_option maxRecDepth 10000 in
theorem ml_X9_108 : ML RX9 108 yX4_quarter := Or.inl (tbt2 237 rfl rfl)
set_option maxRecDepth 10000 in
theorem ml_X9_111 : ML RX9 111 yX4_layer := Or.inl (tbt2 238 rfl rfl)
set_option maxRecDepth 10000 in
theorem ml_X9_114 : ML RX9 114 yX4_isUp := Or.inl (tbt2 239 rfl rfl)
set_option maxRecDepth 10000 in
theorem ml_X9_117 : ML RX9 117 yX9_yes := Or.inl (tbt3 0 rfl rfl)
set_option maxRecDepth 10000 in
theorem ml_X9_121 : ML RX9 121 yX4_heightOver := Or.inl (tbt3 1 rfl rfl)
set_option maxRecDepth 10000 in
theorem ml_X9_124 : ML RX9 124 yX8_isDown := Or.inl (tbt3 2 rfl rfl)
set_option maxRecDepth 10000 in
theorem ml_X9_127 : ML RX9 127 yX1_has := Or.inl (tbt3 3 rfl rfl)
set_option maxRecDepth 10000 in
theorem ml_X1_29 : ML RX1 29 yX5_get := Or.inl (tbt3 7 rfl rfl)
set_option maxRecDepth 10000 in
theorem ml_L_33 : ML RL 33 yX9_at := Or.inl (tbt3 8 rfl rfl)
set_option maxRecDepth 10000 in
theorem ml_X9_128 : ML RX9 128 yX4_find := Or.inl (tbt3 12 rfl rfl)
set_option maxRecDepth 10000 in
theorem kc_X4_149 : Cond.constant RX4 149 (zI (-99999)) ∈ TB := (tbt3 16 rfl rfl)
set_option maxRecDepth 10000 in
theorem ml_L_38 : ML RL 38 yX9_places := Or.inl (tbt3 17 rfl rfl)
set_option maxRecDepth 10000 in
theorem ml_L_42 : ML RL 42 yX9_deepest := Or.inl (tbt3 21 rfl rfl)
set_option maxRecDepth 10000 in
theorem ml_X9_132 : ML RX9 132 yX4_highest := Or.inl (tbt3 25 rfl rfl)
set_option maxRecDepth 10000 in
theorem ml_X4_150 : ML RX4 150 yJ9_max_7cf53 := Or.inl (tbt3 29 rfl rfl)
set_option maxRecDepth 10000 in
theorem ml_L_46 : ML RL 46 yX9_reach := Or.inl (tbt3 32 rfl rfl)
set_option maxRecDepth 10000 in
theorem ml_X9_135 : ML RX9 135 yX4_leastX := Or.inl (tbt3 36 rfl rfl)
set_option maxRecDepth 10000 in
theorem ml_X4_159 : ML RX4 159 yX4_least := Or.inl (tbt3 40 rfl rfl)
set_option maxRecDepth 10000 in
theorem ml_X4_166 : ML RX4 166 yJ9_min_7cf53 := Or.inl (tbt3 44 rfl rfl)
set_option maxRecDepth 10000 in
theorem ml_X9_138 : ML RX9 138 yX4_greatestX := Or.inl (tbt3 47 rfl rfl)
set_option maxRecDepth 10000 in
theorem ml_X4_163 : ML RX4 163 yX4_greatest := Or.inl (tbt3 51 rfl rfl)
set_option maxRecDepth 10000 in
theorem ml_X9_141 : ML RX9 141 yX4_leastY := Or.inl (tbt3 55 rfl rfl)
set_option maxRecDepth 10000 in
theorem ml_X9_144 : ML RX9 144 yX4_greatestY := Or.inl (tbt3 59 rfl rfl)
set_option maxRecDepth 10000 in
theorem ml_L_50 : ML RL 50 yX9_folds := Or.inl (tbt3 63 rfl rfl)
set_option maxRecDepth 10000 in
theorem ml_L_54 : ML RL 54 yX9_crease := Or.inl (tbt3 67 rfl rfl)
set_option maxRecDepth 10000 in
theorem ml_X9_147 : ML RX9 147 yX9_isEdge := Or.inl (tbt3 71 rfl rfl)
set_option maxRecDepth 10000 in
theorem ml_X9_150 : ML RX9 150 yX0_kind := Or.inl (tbt3 74 rfl rfl)
set_option maxRecDepth 10000 in
theorem ml_X0_19 : ML RX0 19 yX7_beside := Or.inl (tbt3 78 rfl rfl)
set_option maxRecDepth 10000 in
theorem kc_X0_25 : Cond.constant RX0 25 (zI (-99999)) ∈ TB := (tbt3 79 rfl rfl)
set_option maxRecDepth 10000 in
theorem ml_X0_26 : ML RX0 26 yX4_isUp := Or.inl (tbt3 80 rfl rfl)
set_option maxRecDepth 10000 in
theorem ml_X0_32 : ML RX0 32 yX4_layer := Or.inl (tbt3 81 rfl rfl)
set_option maxRecDepth 10000 in
theorem ml_L_58 : ML RL 58 yX9_neighbour := Or.inl (tbt3 82 rfl rfl)
set_option maxRecDepth 10000 in
theorem ml_X9_154 : ML RX9 154 yX7_beside := Or.inl (tbt3 86 rfl rfl)
set_option maxRecDepth 10000 in
theorem ml_L_62 : ML RL 62 yX9_creases := Or.inl (tbt3 87 rfl rfl)
set_option maxRecDepth 10000 in
theorem ml_X9_157 : ML RX9 157 yX0_total := Or.inl (tbt3 91 rfl rfl)
set_option maxRecDepth 10000 in
theorem ml_X0_40 : ML RX0 40 yX0_isFirstOf := Or.inl (tbt3 95 rfl rfl)
set_option maxRecDepth 10000 in
theorem ml_X0_44 : ML RX0 44 yX0_kind := Or.inl (tbt3 99 rfl rfl)
set_option maxRecDepth 10000 in
theorem ml_X0_47 : ML RX0 47 yX9_yes := Or.inr ⟨"OneSnip", (List.mem_of_getElem? (i := 17) rfl)⟩
set_option maxRecDepth 10000 in
theorem ml_L_67 : ML RL 67 yX9_balance := Or.inl (tbt3 101 rfl rfl)
set_option maxRecDepth 10000 in
theorem ml_X9_160 : ML RX9 160 yX7_hasPoint := Or.inl (tbt3 105 rfl rfl)
set_option maxRecDepth 10000 in
theorem ml_X9_164 : ML RX9 164 yX0_ending := Or.inl (tbt3 109 rfl rfl)
set_option maxRecDepth 10000 in
theorem ml_X0_51 : ML RX0 51 yX0_endsAt := Or.inl (tbt3 113 rfl rfl)
set_option maxRecDepth 10000 in
theorem ml_X0_55 : ML RX0 55 yX7_x := Or.inl (tbt3 117 rfl rfl)
set_option maxRecDepth 10000 in
theorem ml_X0_58 : ML RX0 58 yX7_y := Or.inl (tbt3 118 rfl rfl)
set_option maxRecDepth 10000 in
theorem ml_X0_61 : ML RX0 61 yX7_quarter := Or.inl (tbt3 119 rfl rfl)
set_option maxRecDepth 10000 in
theorem ml_X0_64 : ML RX0 64 yX0_isCorner := Or.inl (tbt3 120 rfl rfl)
set_option maxRecDepth 10000 in
theorem ml_L_72 : ML RL 72 yX9_degree := Or.inl (tbt3 123 rfl rfl)
set_option maxRecDepth 10000 in
theorem ml_L_76 : ML RL 76 yX9_knife := Or.inl (tbt3 127 rfl rfl)
set_option maxRecDepth 10000 in
theorem ml_L_80 : ML RL 80 yX9_thickness := Or.inl (tbt3 131 rfl rfl)
set_option maxRecDepth 10000 in
theorem ml_X9_168 : ML RX9 168 yX4_heightOn := Or.inl (tbt3 135 rfl rfl)
set_option maxRecDepth 10000 in
theorem ml_X4_155 : ML RX4 155 yX3_touches := Or.inl (tbt3 139 rfl rfl)
set_option maxRecDepth 10000 in
theorem ml_L_84 : ML RL 84 yX9_would := Or.inl (tbt3 142 rfl rfl)
set_option maxRecDepth 10000 in
theorem ml_X9_171 : ML RX9 171 yX4_lying := Or.inl (tbt3 146 rfl rfl)
set_option maxRecDepth 10000 in
theorem ml_L_89 : ML RL 89 yX9_cut := Or.inl (tbt3 147 rfl rfl)
set_option maxRecDepth 10000 in
theorem ml_X9_175 : ML RX9 175 yX8_drop := Or.inl (tbt3 151 rfl rfl)
set_option maxRecDepth 10000 in
theorem ml_X8_47 : ML RX8 47 yX4_isOn := Or.inl (tbt3 155 rfl rfl)
set_option maxRecDepth 10000 in
theorem ml_X8_53 : ML RX8 53 yX9_yes := Or.inr ⟨"OneSnip", (List.mem_of_getElem? (i := 18) rfl)⟩
set_option maxRecDepth 10000 in
theorem ml_L_93 : ML RL 93 yX9_pieces := Or.inl (tbt3 157 rfl rfl)
set_option maxRecDepth 10000 in
theorem ml_X9_182 : ML RX9 182 yX8_total := Or.inl (tbt3 161 rfl rfl)
set_option maxRecDepth 10000 in
theorem ml_L_97 : ML RL 97 yX9_holes := Or.inl (tbt3 165 rfl rfl)
set_option maxRecDepth 10000 in
theorem ml_X9_184 : ML RX9 184 yX8_inner := Or.inl (tbt3 169 rfl rfl)
set_option maxRecDepth 10000 in
theorem ml_X8_82 : ML RX8 82 yX8_reachesOut := Or.inl (tbt3 173 rfl rfl)
set_option maxRecDepth 10000 in
theorem ml_L_101 : ML RL 101 yX9_rims := Or.inl (tbt3 177 rfl rfl)
set_option maxRecDepth 10000 in
theorem ml_X9_187 : ML RX9 187 yX8_border := Or.inl (tbt3 181 rfl rfl)
set_option maxRecDepth 10000 in
theorem ml_L_105 : ML RL 105 yX9_piece := Or.inl (tbt3 185 rfl rfl)
set_option maxRecDepth 10000 in
theorem ml_X9_190 : ML RX9 190 yX8_leastOf := Or.inl (tbt3 189 rfl rfl)
set_option maxRecDepth 10000 in
theorem ml_L_109 : ML RL 109 yX9_mark := Or.inl (tbt3 190 rfl rfl)
set_option maxRecDepth 10000 in
theorem ml_X9_193 : ML RX9 193 yX9_draw := Or.inl (tbt3 194 rfl rfl)
set_option maxRecDepth 10000 in
theorem ml_X9_242 : ML RX9 242 yX1_put := Or.inl (tbt3 198 rfl rfl)
set_option maxRecDepth 10000 in
theorem ml_X1_33 : ML RX1 33 yX9_yes := Or.inr ⟨"OneSnip", (List.mem_of_getElem? (i := 19) rfl)⟩
set_option maxRecDepth 10000 in
theorem ml_X1_37 : ML RX1 37 yX5_put := Or.inl (tbt3 203 rfl rfl)
set_option maxRecDepth 10000 in
theorem ml_L_114 : ML RL 114 yX9_markCell := Or.inl (tbt3 204 rfl rfl)
set_option maxRecDepth 10000 in
theorem ml_X9_197 : ML RX9 197 yX7_hasCell := Or.inl (tbt3 208 rfl rfl)
set_option maxRecDepth 10000 in
theorem ml_X9_200 : ML RX9 200 yX7_leaf := Or.inl (tbt3 209 rfl rfl)
set_option maxRecDepth 10000 in
theorem ml_L_118 : ML RL 118 yX9_take := Or.inl (tbt3 210 rfl rfl)
set_option maxRecDepth 10000 in
theorem ml_L_122 : ML RL 122 yX9_same := Or.inl (tbt3 214 rfl rfl)
set_option maxRecDepth 10000 in
theorem ml_L_126 : ML RL 126 yX9_mirror := Or.inl (tbt3 218 rfl rfl)
set_option maxRecDepth 10000 in
theorem ml_X9_208 : ML RX9 208 yX1_isMirror := Or.inl (tbt3 222 rfl rfl)
set_option maxRecDepth 10000 in
theorem ml_X1_50 : ML RX1 50 yX7_x := Or.inl (tbt3 226 rfl rfl)
set_option maxRecDepth 10000 in
theorem ml_X1_54 : ML RX1 54 yX7_y := Or.inl (tbt3 227 rfl rfl)
set_option maxRecDepth 10000 in
theorem ml_X1_57 : ML RX1 57 yX3_mirrorX := Or.inl (tbt3 228 rfl rfl)
set_option maxRecDepth 10000 in
theorem ml_X1_63 : ML RX1 63 yX3_mirrorY := Or.inl (tbt3 229 rfl rfl)
set_option maxRecDepth 10000 in
theorem ml_X1_66 : ML RX1 66 yX7_quarter := Or.inl (tbt3 230 rfl rfl)
set_option maxRecDepth 10000 in
theorem ml_X1_69 : ML RX1 69 yX3_mirrorQuarter := Or.inl (tbt3 231 rfl rfl)
set_option maxRecDepth 10000 in
theorem ml_X1_73 : ML RX1 73 yX7_hasCell := Or.inl (tbt3 232 rfl rfl)
set_option maxRecDepth 10000 in
theorem ml_X1_77 : ML RX1 77 yX7_leaf := Or.inl (tbt3 233 rfl rfl)
set_option maxRecDepth 10000 in
theorem ml_X1_46 : ML RX1 46 yX1_has := Or.inl (tbt3 234 rfl rfl)
set_option maxRecDepth 10000 in
theorem ml_L_130 : ML RL 130 yX9_mirrors := Or.inl (tbt3 235 rfl rfl)
set_option maxRecDepth 10000 in
theorem ml_L_134 : ML RL 134 yX9_fewest := Or.inl (tbt3 239 rfl rfl)
set_option maxRecDepth 10000 in
theorem ml_X9_211 : ML RX9 211 yX9_isWayLength := Or.inl (tbt4 3 rfl rfl)
set_option maxRecDepth 10000 in
theorem ml_X9_214 : ML RX9 214 yX6_solve := Or.inl (tbt4 6 rfl rfl)
set_option maxRecDepth 10000 in
theorem ml_X6_52 : ML RX6 52 yX2_load := Or.inl (tbt4 10 rfl rfl)
set_option maxRecDepth 10000 in
theorem ml_X2_47 : ML RX2 47 yX1_first := Or.inl (tbt4 14 rfl rfl)
set_option maxRecDepth 10000 in
theorem ml_X2_51 : ML RX2 51 yX2_clear := Or.inl (tbt4 18 rfl rfl)
set_option maxRecDepth 10000 in
theorem ml_X2_87 : ML RX2 87 yX5_get := Or.inl (tbt4 22 rfl rfl)
set_option maxRecDepth 10000 in
theorem ml_X2_93 : ML RX2 93 yX3_spot := Or.inl (tbt4 23 rfl rfl)
set_option maxRecDepth 10000 in
theorem ml_X2_97 : ML RX2 97 yX5_put := Or.inl (tbt4 24 rfl rfl)
set_option maxRecDepth 10000 in
theorem ml_X2_100 : ML RX2 100 yX5_fill := Or.inl (tbt4 25 rfl rfl)
set_option maxRecDepth 10000 in
theorem ml_X2_55 : ML RX2 55 yX2_putAround := Or.inl (tbt4 26 rfl rfl)
set_option maxRecDepth 10000 in
theorem ml_X2_62 : ML RX2 62 yX1_has := Or.inl (tbt4 30 rfl rfl)
set_option maxRecDepth 10000 in
theorem ml_X2_66 : ML RX2 66 yX7_distance := Or.inl (tbt4 31 rfl rfl)
set_option maxRecDepth 10000 in
theorem ml_X7_54 : ML RX7 54 yX7_x := Or.inl (tbt4 35 rfl rfl)
set_option maxRecDepth 10000 in
theorem ml_X7_58 : ML RX7 58 yJ9_abs_0f7a4 := Or.inl (tbt4 36 rfl rfl)
set_option maxRecDepth 10000 in
theorem ml_X7_63 : ML RX7 63 yX7_y := Or.inl (tbt4 39 rfl rfl)
set_option maxRecDepth 10000 in
theorem ml_X7_66 : ML RX7 66 yJ9_max_7cf53 := Or.inl (tbt4 40 rfl rfl)
set_option maxRecDepth 10000 in
theorem ml_X2_70 : ML RX2 70 yX7_x := Or.inl (tbt4 41 rfl rfl)
set_option maxRecDepth 10000 in
theorem ml_X2_74 : ML RX2 74 yX7_y := Or.inl (tbt4 42 rfl rfl)
set_option maxRecDepth 10000 in
theorem ml_X2_77 : ML RX2 77 yX7_quarter := Or.inl (tbt4 43 rfl rfl)
set_option maxRecDepth 10000 in
theorem ml_X2_80 : ML RX2 80 yX2_put := Or.inl (tbt4 44 rfl rfl)
set_option maxRecDepth 10000 in
theorem ml_X2_110 : ML RX2 110 yX9_yes := Or.inr ⟨"OneSnip", (List.mem_of_getElem? (i := 20) rfl)⟩
set_option maxRecDepth 10000 in
theorem ml_X2_113 : ML RX2 113 yX2_row := Or.inl (tbt4 49 rfl rfl)
set_option maxRecDepth 10000 in
theorem ml_X2_116 : ML RX2 116 yX3_strip := Or.inl (tbt4 52 rfl rfl)
set_option maxRecDepth 10000 in
theorem ml_X2_120 : ML RX2 120 yX2_widen := Or.inl (tbt4 53 rfl rfl)
set_option maxRecDepth 10000 in
theorem ml_X2_124 : ML RX2 124 yJ9_min_7cf53 := Or.inl (tbt4 57 rfl rfl)
set_option maxRecDepth 10000 in
theorem ml_X2_129 : ML RX2 129 yJ9_max_7cf53 := Or.inl (tbt4 58 rfl rfl)
set_option maxRecDepth 10000 in
theorem ml_X6_56 : ML RX6 56 yX6_tryRows := Or.inl (tbt4 59 rfl rfl)
set_option maxRecDepth 10000 in
theorem ml_X6_73 : ML RX6 73 yX6_lengthen := Or.inl (tbt4 63 rfl rfl)
set_option maxRecDepth 10000 in
theorem ml_X6_80 : ML RX6 80 yX6_weigh := Or.inl (tbt4 66 rfl rfl)
set_option maxRecDepth 10000 in
theorem ml_X6_120 : ML RX6 120 yX2_cuts := Or.inl (tbt4 70 rfl rfl)
set_option maxRecDepth 10000 in
theorem ml_X2_162 : ML RX2 162 yX2_lastCut := Or.inl (tbt4 74 rfl rfl)
set_option maxRecDepth 10000 in
theorem ml_X2_159 : ML RX2 159 yX2_firstCut_ := Or.inl (tbt4 78 rfl rfl)
set_option maxRecDepth 10000 in
theorem ml_X6_60 : ML RX6 60 yX5_get := Or.inl (tbt4 82 rfl rfl)
set_option maxRecDepth 10000 in
theorem ml_X6_112 : ML RX6 112 yX5_put := Or.inl (tbt4 83 rfl rfl)
set_option maxRecDepth 10000 in
theorem ml_X6_123 : ML RX6 123 yX2_firstCut := Or.inl (tbt4 84 rfl rfl)
set_option maxRecDepth 10000 in
theorem ml_X2_165 : ML RX2 165 yX6_tell := Or.inl (tbt4 88 rfl rfl)
set_option maxRecDepth 10000 in
theorem ml_X6_83 : ML RX6 83 yX2_lastStrip := Or.inl (tbt4 91 rfl rfl)
set_option maxRecDepth 10000 in
theorem ml_X2_135 : ML RX2 135 yX2_greatest := Or.inl (tbt4 95 rfl rfl)
set_option maxRecDepth 10000 in
theorem ml_X6_89 : ML RX6 89 yJ9_min_7cf53 := Or.inl (tbt4 99 rfl rfl)
set_option maxRecDepth 10000 in
theorem ml_X6_95 : ML RX6 95 yX2_firstStrip := Or.inl (tbt4 100 rfl rfl)
set_option maxRecDepth 10000 in
theorem ml_X2_132 : ML RX2 132 yX2_least := Or.inl (tbt4 104 rfl rfl)
set_option maxRecDepth 10000 in
theorem ml_X6_98 : ML RX6 98 yJ9_max_7cf53 := Or.inl (tbt4 108 rfl rfl)
set_option maxRecDepth 10000 in
theorem ml_X6_101 : ML RX6 101 yX2_isCrossed := Or.inl (tbt4 109 rfl rfl)
set_option maxRecDepth 10000 in
theorem ml_X6_105 : ML RX6 105 yX2_fits := Or.inl (tbt4 113 rfl rfl)
set_option maxRecDepth 10000 in
theorem ml_X2_138 : ML RX2 138 yX2_secondKind := Or.inl (tbt4 117 rfl rfl)
set_option maxRecDepth 10000 in
theorem ml_X2_142 : ML RX2 142 yX3_mirrorX := Or.inl (tbt4 121 rfl rfl)
set_option maxRecDepth 10000 in
theorem ml_X2_145 : ML RX2 145 yX3_mirrorY := Or.inl (tbt4 122 rfl rfl)
set_option maxRecDepth 10000 in
theorem ml_X2_148 : ML RX2 148 yX3_mirrorQuarter := Or.inl (tbt4 123 rfl rfl)
set_option maxRecDepth 10000 in
theorem ml_X6_108 : ML RX6 108 yX6_tell := Or.inl (tbt4 124 rfl rfl)
set_option maxRecDepth 10000 in
theorem ml_X6_116 : ML RX6 116 yX2_turnInto := Or.inl (tbt4 125 rfl rfl)
set_option maxRecDepth 10000 in
theorem ml_X2_151 : ML RX2 151 yX3_isOn := Or.inl (tbt4 129 rfl rfl)
set_option maxRecDepth 10000 in
theorem ml_X2_155 : ML RX2 155 yX2_isEntangled := Or.inl (tbt4 130 rfl rfl)
set_option maxRecDepth 10000 in
theorem ml_L_138 : ML RL 138 yX9_way := Or.inl (tbt4 134 rfl rfl)
set_option maxRecDepth 10000 in
theorem ml_X9_217 : ML RX9 217 yX6_told := Or.inl (tbt4 138 rfl rfl)
set_option maxRecDepth 10000 in
theorem ml_L_142 : ML RL 142 yX9_ways := Or.inl (tbt4 142 rfl rfl)
set_option maxRecDepth 10000 in
theorem kc_X9_220 : Cond.constant RX9 220 (zI (-99999)) ∈ TB := (tbt4 146 rfl rfl)
set_option maxRecDepth 10000 in
theorem ml_L_146 : ML RL 146 yX9_count := Or.inl (tbt4 147 rfl rfl)
set_option maxRecDepth 10000 in
theorem ml_X9_224 : ML RX9 224 yX4_turnedDown := Or.inl (tbt4 151 rfl rfl)
set_option maxRecDepth 10000 in
theorem ml_L_12 : ML RL 12 yX10_init := Or.inl (tbt4 157 rfl rfl)
set_option maxRecDepth 10000 in
theorem ml_X10_90 : ML RX10 90 yX10_begin := Or.inl (tbt4 161 rfl rfl)
set_option maxRecDepth 10000 in
theorem ml_X10_97 : ML RX10 97 yX10_facets := Or.inl (tbt4 165 rfl rfl)
set_option maxRecDepth 10000 in
theorem ml_L_17 : ML RL 17 yX10_sheet := Or.inl (tbt5 36 rfl rfl)
set_option maxRecDepth 10000 in
theorem kl_X10_136 : Cond.constantLong RX10 136 (zL (6)) ∈ TB := (tbt5 40 rfl rfl)
set_option maxRecDepth 10000 in
theorem ml_X10_101 : ML RX10 101 yX10_in := Or.inl (tbt5 41 rfl rfl)
set_option maxRecDepth 10000 in
theorem ml_L_22 : ML RL 22 yX10_fold := Or.inl (tbt5 44 rfl rfl)
set_option maxRecDepth 10000 in
theorem ml_X10_138 : ML RX10 138 yX10_noLine := Or.inl (tbt5 48 rfl rfl)
set_option maxRecDepth 10000 in
theorem kl_X10_105 : Cond.constantLong RX10 105 (zL (3)) ∈ TB := (tbt5 51 rfl rfl)
set_option maxRecDepth 10000 in
theorem kl_X10_107 : Cond.constantLong RX10 107 (zL (-24)) ∈ TB := (tbt5 52 rfl rfl)
set_option maxRecDepth 10000 in
theorem kl_X10_109 : Cond.constantLong RX10 109 (zL (48)) ∈ TB := (tbt5 53 rfl rfl)
set_option maxRecDepth 10000 in
theorem ml_X10_142 : ML RX10 142 yX10_sideOf := Or.inl (tbt5 54 rfl rfl)
set_option maxRecDepth 10000 in
theorem ml_X10_118 : ML RX10 118 yX10_along := Or.inl (tbt5 57 rfl rfl)
set_option maxRecDepth 10000 in
theorem ml_X10_146 : ML RX10 146 yX10_keep := Or.inl (tbt5 60 rfl rfl)
set_option maxRecDepth 10000 in
theorem ml_X10_149 : ML RX10 149 yX10_nextTo := Or.inl (tbt5 64 rfl rfl)
set_option maxRecDepth 10000 in
theorem kc_X10_135 : Cond.constant RX10 135 (zI (-99999)) ∈ TB := (tbt5 68 rfl rfl)
set_option maxRecDepth 10000 in
theorem ml_X10_153 : ML RX10 153 yX10_turn := Or.inl (tbt5 69 rfl rfl)
set_option maxRecDepth 10000 in
theorem ml_X10_131 : ML RX10 131 yX10_isThere := Or.inl (tbt5 73 rfl rfl)
set_option maxRecDepth 10000 in
theorem ml_X10_157 : ML RX10 157 yX10_placesOf := Or.inl (tbt5 77 rfl rfl)
set_option maxRecDepth 10000 in
theorem ml_L_27 : ML RL 27 yX10_unfold := Or.inl (tbt5 81 rfl rfl)
set_option maxRecDepth 10000 in
theorem ml_L_32 : ML RL 32 yX10_facet := Or.inl (tbt5 85 rfl rfl)
set_option maxRecDepth 10000 in
theorem ml_X10_160 : ML RX10 160 yX10_noFacet := Or.inl (tbt5 89 rfl rfl)
set_option maxRecDepth 10000 in
theorem ml_X10_164 : ML RX10 164 yX10_deepOf := Or.inl (tbt5 93 rfl rfl)
set_option maxRecDepth 10000 in
theorem ml_L_37 : ML RL 37 yX10_at := Or.inl (tbt5 97 rfl rfl)
set_option maxRecDepth 10000 in
theorem ml_L_41 : ML RL 41 yX10_places := Or.inl (tbt5 101 rfl rfl)
set_option maxRecDepth 10000 in
theorem ml_L_45 : ML RL 45 yX10_deepest := Or.inl (tbt5 105 rfl rfl)
set_option maxRecDepth 10000 in
theorem ml_L_49 : ML RL 49 yX10_reach := Or.inl (tbt5 109 rfl rfl)
set_option maxRecDepth 10000 in
theorem ml_L_53 : ML RL 53 yX10_folds := Or.inl (tbt5 113 rfl rfl)
set_option maxRecDepth 10000 in
theorem ml_L_57 : ML RL 57 yX10_crease := Or.inl (tbt5 117 rfl rfl)
set_option maxRecDepth 10000 in
theorem kl_X10_168 : Cond.constantLong RX10 168 (zL (2)) ∈ TB := (tbt5 121 rfl rfl)
set_option maxRecDepth 10000 in
theorem ml_L_61 : ML RL 61 yX10_neighbour := Or.inl (tbt5 122 rfl rfl)
set_option maxRecDepth 10000 in
theorem ml_L_66 : ML RL 66 yX10_creases := Or.inl (tbt5 126 rfl rfl)
set_option maxRecDepth 10000 in
theorem ml_L_71 : ML RL 71 yX10_balance := Or.inl (tbt5 130 rfl rfl)
set_option maxRecDepth 10000 in
theorem ml_X10_176 : ML RX10 176 yX10_noPoint := Or.inl (tbt5 134 rfl rfl)
set_option maxRecDepth 10000 in
theorem ml_X10_180 : ML RX10 180 yX10_ends := Or.inl (tbt5 138 rfl rfl)
set_option maxRecDepth 10000 in
theorem ml_X10_170 : ML RX10 170 yX10_slant := Or.inl (tbt5 142 rfl rfl)
set_option maxRecDepth 10000 in
theorem ml_X10_173 : ML RX10 173 yX10_outer := Or.inl (tbt5 146 rfl rfl)
set_option maxRecDepth 10000 in
theorem ml_L_75 : ML RL 75 yX10_degree := Or.inl (tbt5 150 rfl rfl)
set_option maxRecDepth 10000 in
theorem ml_L_79 : ML RL 79 yX10_knife := Or.inl (tbt5 154 rfl rfl)
set_option maxRecDepth 10000 in
theorem kl_X10_184 : Cond.constantLong RX10 184 (zL (144)) ∈ TB := (tbt5 158 rfl rfl)
set_option maxRecDepth 10000 in
theorem ml_L_83 : ML RL 83 yX10_thickness := Or.inl (tbt5 159 rfl rfl)
set_option maxRecDepth 10000 in
theorem ml_X10_190 : ML RX10 190 yX10_thickOf := Or.inl (tbt5 163 rfl rfl)
set_option maxRecDepth 10000 in
theorem ml_X10_186 : ML RX10 186 yX10_touches := Or.inl (tbt5 167 rfl rfl)
set_option maxRecDepth 10000 in
theorem ml_L_88 : ML RL 88 yX10_would := Or.inl (tbt5 171 rfl rfl)
set_option maxRecDepth 10000 in
theorem ml_X10_193 : ML RX10 193 yX10_fallsOf := Or.inl (tbt5 175 rfl rfl)
set_option maxRecDepth 10000 in
theorem ml_L_92 : ML RL 92 yX10_cut := Or.inl (tbt5 179 rfl rfl)
set_option maxRecDepth 10000 in
theorem ml_L_96 : ML RL 96 yX10_pieces := Or.inl (tbt5 183 rfl rfl)
set_option maxRecDepth 10000 in
theorem ml_X10_196 : ML RX10 196 yX10_hang := Or.inl (tbt5 187 rfl rfl)
set_option maxRecDepth 10000 in
theorem ml_L_100 : ML RL 100 yX10_holes := Or.inl (tbt5 191 rfl rfl)
set_option maxRecDepth 10000 in
theorem ml_L_104 : ML RL 104 yX10_rims := Or.inl (tbt5 195 rfl rfl)
set_option maxRecDepth 10000 in
theorem ml_L_108 : ML RL 108 yX10_piece := Or.inl (tbt5 199 rfl rfl)
set_option maxRecDepth 10000 in
theorem ml_L_113 : ML RL 113 yX10_mark := Or.inl (tbt5 203 rfl rfl)
set_option maxRecDepth 10000 in
theorem ml_L_117 : ML RL 117 yX10_markCell := Or.inl (tbt5 207 rfl rfl)
set_option maxRecDepth 10000 in
theorem ml_X10_199 : ML RX10 199 yX10_marked := Or.inl (tbt5 211 rfl rfl)
set_option maxRecDepth 10000 in
theorem ml_L_121 : ML RL 121 yX10_take := Or.inl (tbt5 215 rfl rfl)
set_option maxRecDepth 10000 in
theorem ml_L_125 : ML RL 125 yX10_same := Or.inl (tbt5 219 rfl rfl)
set_option maxRecDepth 10000 in
theorem ml_L_129 : ML RL 129 yX10_mirror := Or.inl (tbt5 223 rfl rfl)
set_option maxRecDepth 10000 in
theorem ml_X10_202 : ML RX10 202 yX10_isMirror := Or.inl (tbt5 227 rfl rfl)
set_option maxRecDepth 10000 in
theorem ml_L_133 : ML RL 133 yX10_mirrors := Or.inl (tbt5 231 rfl rfl)
set_option maxRecDepth 10000 in
theorem ml_L_137 : ML RL 137 yX10_fewest := Or.inl (tbt5 235 rfl rfl)
set_option maxRecDepth 10000 in
theorem ml_X10_229 : ML RX10 229 yX10_look := Or.inl (tbt5 239 rfl rfl)
set_option maxRecDepth 10000 in
theorem ml_X10_220 : ML RX10 220 yX10_measure := Or.inl (tbt6 3 rfl rfl)
set_option maxRecDepth 10000 in
theorem kc_X10_205 : Cond.constant RX10 205 (zI (1000000)) ∈ TB := (tbt6 7 rfl rfl)
set_option maxRecDepth 10000 in
theorem kc_X10_206 : Cond.constant RX10 206 (zI (-1000000)) ∈ TB := (tbt6 8 rfl rfl)
set_option maxRecDepth 10000 in
theorem ml_X10_226 : ML RX10 226 yX10_goThrough := Or.inl (tbt6 9 rfl rfl)
set_option maxRecDepth 10000 in
theorem ml_X10_213 : ML RX10 213 yX10_cuts := Or.inl (tbt6 13 rfl rfl)
set_option maxRecDepth 10000 in
theorem ml_X10_217 : ML RX10 217 yX10_goes := Or.inl (tbt6 17 rfl rfl)
set_option maxRecDepth 10000 in
theorem ml_L_141 : ML RL 141 yX10_way := Or.inl (tbt6 21 rfl rfl)
set_option maxRecDepth 10000 in
theorem ml_L_145 : ML RL 145 yX10_ways := Or.inl (tbt6 25 rfl rfl)
set_option maxRecDepth 10000 in
theorem ml_L_149 : ML RL 149 yX10_count := Or.inl (tbt6 29 rfl rfl)
section JROWS4
variable {κ : KT} {cc : ByteArray} {own : String} {fr : Nat} {lay : lyT} {ad : Nat → Nat} {cn sn pc : Nat} {st : List av} {w : wd}
set_option maxRecDepth 10000 in
theorem s_0 (X : Okk κ cc own fr) {a0 : Option av} {r : List (Option av)} {a : Int} (hd : decode cc pc = .ok (.istore_n 0, 1)) (hn : noL (a0 :: r) = true) (k : J κ lay ad cn sn (pc + 1) (some (vI a) :: r) st w) : J κ lay ad cn sn pc (a0 :: r) (vI a :: st) w := j_istore_ng (i := 0) X hd hn (by show 0 < _; simp only [List.length_cons]; omega) rfl k
set_option maxRecDepth 10000 in
theorem inc_0 (X : Okk κ cc own fr) {r : List (Option av)} {a n : Int} (hd : decode cc pc = .ok (.iinc 0 n, 3)) (hn : noL (some (vI a) :: r) = true) (k : J κ lay ad cn sn (pc + 3) (some (vI (a + n)) :: r) st w) : J κ lay ad cn sn pc (some (vI a) :: r) st w := j_iincg X hd hn rfl rfl k
set_option maxRecDepth 10000 in
theorem s_1 (X : Okk κ cc own fr) {a0 : Option av} {a1 : Option av} {r : List (Option av)} {a : Int} (hd : decode cc pc = .ok (.istore_n 1, 1)) (hn : noL (a0 :: a1 :: r) = true) (k : J κ lay ad cn sn (pc + 1) (a0 :: some (vI a) :: r) st w) : J κ lay ad cn sn pc (a0 :: a1 :: r) (vI a :: st) w := j_istore_ng (i := 1) X hd hn (by show 1 < _; simp only [List.length_cons]; omega) rfl k
set_option maxRecDepth 10000 in
theorem sa_1 (X : Okk κ cc own fr) {a0 : Option av} {a1 : Option av} {r : List (Option av)} {a : Nat} (hd : decode cc pc = .ok (.astore_n 1, 1)) (hn : noL (a0 :: a1 :: r) = true) (k : J κ lay ad cn sn (pc + 1) (a0 :: some (vR a) :: r) st w) : J κ lay ad cn sn pc (a0 :: a1 :: r) (vR a :: st) w := j_astore_ng (i := 1) X hd hn (by show 1 < _; simp only [List.length_cons]; omega) rfl k
set_option maxRecDepth 10000 in
theorem inc_1 (X : Okk κ cc own fr) {a0 : Option av} {r : List (Option av)} {a n : Int} (hd : decode cc pc = .ok (.iinc 1 n, 3)) (hn : noL (a0 :: some (vI a) :: r) = true) (k : J κ lay ad cn sn (pc + 3) (a0 :: some (vI (a + n)) :: r) st w) : J κ lay ad cn sn pc (a0 :: some (vI a) :: r) st w := j_iincg X hd hn rfl rfl k
set_option maxRecDepth 10000 in
theorem s_2 (X : Okk κ cc own fr) {a0 a1 : Option av} {a2 : Option av} {r : List (Option av)} {a : Int} (hd : decode cc pc = .ok (.istore_n 2, 1)) (hn : noL (a0 :: a1 :: a2 :: r) = true) (k : J κ lay ad cn sn (pc + 1) (a0 :: a1 :: some (vI a) :: r) st w) : J κ lay ad cn sn pc (a0 :: a1 :: a2 :: r) (vI a :: st) w := j_istore_ng (i := 2) X hd hn (by show 2 < _; simp only [List.length_cons]; omega) rfl k
set_option maxRecDepth 10000 in
theorem sa_2 (X : Okk κ cc own fr) {a0 a1 : Option av} {a2 : Option av} {r : List (Option av)} {a : Nat} (hd : decode cc pc = .ok (.astore_n 2, 1)) (hn : noL (a0 :: a1 :: a2 :: r) = true) (k : J κ lay ad cn sn (pc + 1) (a0 :: a1 :: some (vR a) :: r) st w) : J κ lay ad cn sn pc (a0 :: a1 :: a2 :: r) (vR a :: st) w := j_astore_ng (i := 2) X hd hn (by show 2 < _; simp only [List.length_cons]; omega) rfl k
set_option maxRecDepth 10000 in
theorem inc_2 (X : Okk κ cc own fr) {a0 a1 : Option av} {r : List (Option av)} {a n : Int} (hd : decode cc pc = .ok (.iinc 2 n, 3)) (hn : noL (a0 :: a1 :: some (vI a) :: r) = true) (k : J κ lay ad cn sn (pc + 3) (a0 :: a1 :: some (vI (a + n)) :: r) st w) : J κ lay ad cn sn pc (a0 :: a1 :: some (vI a) :: r) st w := j_iincg X hd hn rfl rfl k
set_option maxRecDepth 10000 in
theorem s_3 (X : Okk κ cc own fr) {a0 a1 a2 : Option av} {a3 : Option av} {r : List (Option av)} {a : Int} (hd : decode cc pc = .ok (.istore_n 3, 1)) (hn : noL (a0 :: a1 :: a2 :: a3 :: r) = true) (k : J κ lay ad cn sn (pc + 1) (a0 :: a1 :: a2 :: some (vI a) :: r) st w) : J κ lay ad cn sn pc (a0 :: a1 :: a2 :: a3 :: r) (vI a :: st) w := j_istore_ng (i := 3) X hd hn (by show 3 < _; simp only [List.length_cons]; omega) rfl k
set_option maxRecDepth 10000 in
theorem sa_3 (X : Okk κ cc own fr) {a0 a1 a2 : Option av} {a3 : Option av} {r : List (Option av)} {a : Nat} (hd : decode cc pc = .ok (.astore_n 3, 1)) (hn : noL (a0 :: a1 :: a2 :: a3 :: r) = true) (k : J κ lay ad cn sn (pc + 1) (a0 :: a1 :: a2 :: some (vR a) :: r) st w) : J κ lay ad cn sn pc (a0 :: a1 :: a2 :: a3 :: r) (vR a :: st) w := j_astore_ng (i := 3) X hd hn (by show 3 < _; simp only [List.length_cons]; omega) rfl k
set_option maxRecDepth 10000 in
theorem inc_3 (X : Okk κ cc own fr) {a0 a1 a2 : Option av} {r : List (Option av)} {a n : Int} (hd : decode cc pc = .ok (.iinc 3 n, 3)) (hn : noL (a0 :: a1 :: a2 :: some (vI a) :: r) = true) (k : J κ lay ad cn sn (pc + 3) (a0 :: a1 :: a2 :: some (vI (a + n)) :: r) st w) : J κ lay ad cn sn pc (a0 :: a1 :: a2 :: some (vI a) :: r) st w := j_iincg X hd hn rfl rfl k
set_option maxRecDepth 10000 in
theorem s_4 (X : Okk κ cc own fr) {a0 a1 a2 a3 : Option av} {a4 : Option av} {r : List (Option av)} {a : Int} (hd : decode cc pc = .ok (.istore 4, 2)) (hn : noL (a0 :: a1 :: a2 :: a3 :: a4 :: r) = true) (k : J κ lay ad cn sn (pc + 2) (a0 :: a1 :: a2 :: a3 :: some (vI a) :: r) st w) : J κ lay ad cn sn pc (a0 :: a1 :: a2 :: a3 :: a4 :: r) (vI a :: st) w := j_istoreg X hd hn (by simp only [List.length_cons]; omega) rfl k
set_option maxRecDepth 10000 in
theorem inc_4 (X : Okk κ cc own fr) {a0 a1 a2 a3 : Option av} {r : List (Option av)} {a n : Int} (hd : decode cc pc = .ok (.iinc 4 n, 3)) (hn : noL (a0 :: a1 :: a2 :: a3 :: some (vI a) :: r) = true) (k : J κ lay ad cn sn (pc + 3) (a0 :: a1 :: a2 :: a3 :: some (vI (a + n)) :: r) st w) : J κ lay ad cn sn pc (a0 :: a1 :: a2 :: a3 :: some (vI a) :: r) st w := j_iincg X hd hn rfl rfl k
set_option maxRecDepth 10000 in
theorem s_5 (X : Okk κ cc own fr) {a0 a1 a2 a3 a4 : Option av} {a5 : Option av} {r : List (Option av)} {a : Int} (hd : decode cc pc = .ok (.istore 5, 2)) (hn : noL (a0 :: a1 :: a2 :: a3 :: a4 :: a5 :: r) = true) (k : J κ lay ad cn sn (pc + 2) (a0 :: a1 :: a2 :: a3 :: a4 :: some (vI a) :: r) st w) : J κ lay ad cn sn pc (a0 :: a1 :: a2 :: a3 :: a4 :: a5 :: r) (vI a :: st) w := j_istoreg X hd hn (by simp only [List.length_cons]; omega) rfl k
set_option maxRecDepth 10000 in
theorem inc_5 (X : Okk κ cc own fr) {a0 a1 a2 a3 a4 : Option av} {r : List (Option av)} {a n : Int} (hd : decode cc pc = .ok (.iinc 5 n, 3)) (hn : noL (a0 :: a1 :: a2 :: a3 :: a4 :: some (vI a) :: r) = true) (k : J κ lay ad cn sn (pc + 3) (a0 :: a1 :: a2 :: a3 :: a4 :: some (vI (a + n)) :: r) st w) : J κ lay ad cn sn pc (a0 :: a1 :: a2 :: a3 :: a4 :: some (vI a) :: r) st w := j_iincg X hd hn rfl rfl k
set_option maxRecDepth 10000 in
theorem s_6 (X : Okk κ cc own fr) {a0 a1 a2 a3 a4 a5 : Option av} {a6 : Option av} {r : List (Option av)} {a : Int} (hd : decode cc pc = .ok (.istore 6, 2)) (hn : noL (a0 :: a1 :: a2 :: a3 :: a4 :: a5 :: a6 :: r) = true) (k : J κ lay ad cn sn (pc + 2) (a0 :: a1 :: a2 :: a3 :: a4 :: a5 :: some (vI a) :: r) st w) : J κ lay ad cn sn pc (a0 :: a1 :: a2 :: a3 :: a4 :: a5 :: a6 :: r) (vI a :: st) w := j_istoreg X hd hn (by simp only [List.length_cons]; omega) rfl k
set_option maxRecDepth 10000 in
theorem inc_6 (X : Okk κ cc own fr) {a0 a1 a2 a3 a4 a5 : Option av} {r : List (Option av)} {a n : Int} (hd : decode cc pc = .ok (.iinc 6 n, 3)) (hn : noL (a0 :: a1 :: a2 :: a3 :: a4 :: a5 :: some (vI a) :: r) = true) (k : J κ lay ad cn sn (pc + 3) (a0 :: a1 :: a2 :: a3 :: a4 :: a5 :: some (vI (a + n)) :: r) st w) : J κ lay ad cn sn pc (a0 :: a1 :: a2 :: a3 :: a4 :: a5 :: some (vI a) :: r) st w := j_iincg X hd hn rfl rfl k
set_option maxRecDepth 10000 in
theorem s_7 (X : Okk κ cc own fr) {a0 a1 a2 a3 a4 a5 a6 : Option av} {a7 : Option av} {r : List (Option av)} {a : Int} (hd : decode cc pc = .ok (.istore 7, 2)) (hn : noL (a0 :: a1 :: a2 :: a3 :: a4 :: a5 :: a6 :: a7 :: r) = true) (k : J κ lay ad cn sn (pc + 2) (a0 :: a1 :: a2 :: a3 :: a4 :: a5 :: a6 :: some (vI a) :: r) st w) : J κ lay ad cn sn pc (a0 :: a1 :: a2 :: a3 :: a4 :: a5 :: a6 :: a7 :: r) (vI a :: st) w := j_istoreg X hd hn (by simp only [List.length_cons]; omega) rfl k
set_option maxRecDepth 10000 in
theorem inc_7 (X : Okk κ cc own fr) {a0 a1 a2 a3 a4 a5 a6 : Option av} {r : List (Option av)} {a n : Int} (hd : decode cc pc = .ok (.iinc 7 n, 3)) (hn : noL (a0 :: a1 :: a2 :: a3 :: a4 :: a5 :: a6 :: some (vI a) :: r) = true) (k : J κ lay ad cn sn (pc + 3) (a0 :: a1 :: a2 :: a3 :: a4 :: a5 :: a6 :: some (vI (a + n)) :: r) st w) : J κ lay ad cn sn pc (a0 :: a1 :: a2 :: a3 :: a4 :: a5 :: a6 :: some (vI a) :: r) st w := j_iincg X hd hn rfl rfl k
set_option maxRecDepth 10000 in
theorem s_8 (X : Okk κ cc own fr) {a0 a1 a2 a3 a4 a5 a6 a7 : Option av} {a8 : Option av} {r : List (Option av)} {a : Int} (hd : decode cc pc = .ok (.istore 8, 2)) (hn : noL (a0 :: a1 :: a2 :: a3 :: a4 :: a5 :: a6 :: a7 :: a8 :: r) = true) (k : J κ lay ad cn sn (pc + 2) (a0 :: a1 :: a2 :: a3 :: a4 :: a5 :: a6 :: a7 :: some (vI a) :: r) st w) : J κ lay ad cn sn pc (a0 :: a1 :: a2 :: a3 :: a4 :: a5 :: a6 :: a7 :: a8 :: r) (vI a :: st) w := j_istoreg X hd hn (by simp only [List.length_cons]; omega) rfl k
set_option maxRecDepth 10000 in
theorem inc_8 (X : Okk κ cc own fr) {a0 a1 a2 a3 a4 a5 a6 a7 : Option av} {r : List (Option av)} {a n : Int} (hd : decode cc pc = .ok (.iinc 8 n, 3)) (hn : noL (a0 :: a1 :: a2 :: a3 :: a4 :: a5 :: a6 :: a7 :: some (vI a) :: r) = true) (k : J κ lay ad cn sn (pc + 3) (a0 :: a1 :: a2 :: a3 :: a4 :: a5 :: a6 :: a7 :: some (vI (a + n)) :: r) st w) : J κ lay ad cn sn pc (a0 :: a1 :: a2 :: a3 :: a4 :: a5 :: a6 :: a7 :: some (vI a) :: r) st w := j_iincg X hd hn rfl rfl k
set_option maxRecDepth 10000 in
theorem s_9 (X : Okk κ cc own fr) {a0 a1 a2 a3 a4 a5 a6 a7 a8 : Option av} {a9 : Option av} {r : List (Option av)} {a : Int} (hd : decode cc pc = .ok (.istore 9, 2)) (hn : noL (a0 :: a1 :: a2 :: a3 :: a4 :: a5 :: a6 :: a7 :: a8 :: a9 :: r) = true) (k : J κ lay ad cn sn (pc + 2) (a0 :: a1 :: a2 :: a3 :: a4 :: a5 :: a6 :: a7 :: a8 :: some (vI a) :: r) st w) : J κ lay ad cn sn pc (a0 :: a1 :: a2 :: a3 :: a4 :: a5 :: a6 :: a7 :: a8 :: a9 :: r) (vI a :: st) w := j_istoreg X hd hn (by simp only [List.length_cons]; omega) rfl k
set_option maxRecDepth 10000 in
theorem inc_9 (X : Okk κ cc own fr) {a0 a1 a2 a3 a4 a5 a6 a7 a8 : Option av} {r : List (Option av)} {a n : Int} (hd : decode cc pc = .ok (.iinc 9 n, 3)) (hn : noL (a0 :: a1 :: a2 :: a3 :: a4 :: a5 :: a6 :: a7 :: a8 :: some (vI a) :: r) = true) (k : J κ lay ad cn sn (pc + 3) (a0 :: a1 :: a2 :: a3 :: a4 :: a5 :: a6 :: a7 :: a8 :: some (vI (a + n)) :: r) st w) : J κ lay ad cn sn pc (a0 :: a1 :: a2 :: a3 :: a4 :: a5 :: a6 :: a7 :: a8 :: some (vI a) :: r) st w := j_iincg X hd hn rfl rfl k
set_option maxRecDepth 10000 in
theorem s_10 (X : Okk κ cc own fr) {a0 a1 a2 a3 a4 a5 a6 a7 a8 a9 : Option av} {a10 : Option av} {r : List (Option av)} {a : Int} (hd : decode cc pc = .ok (.istore 10, 2)) (hn : noL (a0 :: a1 :: a2 :: a3 :: a4 :: a5 :: a6 :: a7 :: a8 :: a9 :: a10 :: r) = true) (k : J κ lay ad cn sn (pc + 2) (a0 :: a1 :: a2 :: a3 :: a4 :: a5 :: a6 :: a7 :: a8 :: a9 :: some (vI a) :: r) st w) : J κ lay ad cn sn pc (a0 :: a1 :: a2 :: a3 :: a4 :: a5 :: a6 :: a7 :: a8 :: a9 :: a10 :: r) (vI a :: st) w := j_istoreg X hd hn (by simp only [List.length_cons]; omega) rfl k
set_option maxRecDepth 10000 in
theorem inc_10 (X : Okk κ cc own fr) {a0 a1 a2 a3 a4 a5 a6 a7 a8 a9 : Option av} {r : List (Option av)} {a n : Int} (hd : decode cc pc = .ok (.iinc 10 n, 3)) (hn : noL (a0 :: a1 :: a2 :: a3 :: a4 :: a5 :: a6 :: a7 :: a8 :: a9 :: some (vI a) :: r) = true) (k : J κ lay ad cn sn (pc + 3) (a0 :: a1 :: a2 :: a3 :: a4 :: a5 :: a6 :: a7 :: a8 :: a9 :: some (vI (a + n)) :: r) st w) : J κ lay ad cn sn pc (a0 :: a1 :: a2 :: a3 :: a4 :: a5 :: a6 :: a7 :: a8 :: a9 :: some (vI a) :: r) st w := j_iincg X hd hn rfl rfl k
set_option maxRecDepth 10000 in
theorem s_11 (X : Okk κ cc own fr) {a0 a1 a2 a3 a4 a5 a6 a7 a8 a9 a10 : Option av} {a11 : Option av} {r : List (Option av)} {a : Int} (hd : decode cc pc = .ok (.istore 11, 2)) (hn : noL (a0 :: a1 :: a2 :: a3 :: a4 :: a5 :: a6 :: a7 :: a8 :: a9 :: a10 :: a11 :: r) = true) (k : J κ lay ad cn sn (pc + 2) (a0 :: a1 :: a2 :: a3 :: a4 :: a5 :: a6 :: a7 :: a8 :: a9 :: a10 :: some (vI a) :: r) st w) : J κ lay ad cn sn pc (a0 :: a1 :: a2 :: a3 :: a4 :: a5 :: a6 :: a7 :: a8 :: a9 :: a10 :: a11 :: r) (vI a :: st) w := j_istoreg X hd hn (by simp only [List.length_cons]; omega) rfl k
set_option maxRecDepth 10000 in
theorem inc_11 (X : Okk κ cc own fr) {a0 a1 a2 a3 a4 a5 a6 a7 a8 a9 a10 : Option av} {r : List (Option av)} {a n : Int} (hd : decode cc pc = .ok (.iinc 11 n, 3)) (hn : noL (a0 :: a1 :: a2 :: a3 :: a4 :: a5 :: a6 :: a7 :: a8 :: a9 :: a10 :: some (vI a) :: r) = true) (k : J κ lay ad cn sn (pc + 3) (a0 :: a1 :: a2 :: a3 :: a4 :: a5 :: a6 :: a7 :: a8 :: a9 :: a10 :: some (vI (a + n)) :: r) st w) : J κ lay ad cn sn pc (a0 :: a1 :: a2 :: a3 :: a4 :: a5 :: a6 :: a7 :: a8 :: a9 :: a10 :: some (vI a) :: r) st w := j_iincg X hd hn rfl rfl k
set_option maxRecDepth 10000 in
theorem s_12 (X : Okk κ cc own fr) {a0 a1 a2 a3 a4 a5 a6 a7 a8 a9 a10 a11 : Option av} {a12 : Option av} {r : List (Option av)} {a : Int} (hd : decode cc pc = .ok (.istore 12, 2)) (hn : noL (a0 :: a1 :: a2 :: a3 :: a4 :: a5 :: a6 :: a7 :: a8 :: a9 :: a10 :: a11 :: a12 :: r) = true) (k : J κ lay ad cn sn (pc + 2) (a0 :: a1 :: a2 :: a3 :: a4 :: a5 :: a6 :: a7 :: a8 :: a9 :: a10 :: a11 :: some (vI a) :: r) st w) : J κ lay ad cn sn pc (a0 :: a1 :: a2 :: a3 :: a4 :: a5 :: a6 :: a7 :: a8 :: a9 :: a10 :: a11 :: a12 :: r) (vI a :: st) w := j_istoreg X hd hn (by simp only [List.length_cons]; omega) rfl k
set_option maxRecDepth 10000 in
theorem inc_12 (X : Okk κ cc own fr) {a0 a1 a2 a3 a4 a5 a6 a7 a8 a9 a10 a11 : Option av} {r : List (Option av)} {a n : Int} (hd : decode cc pc = .ok (.iinc 12 n, 3)) (hn : noL (a0 :: a1 :: a2 :: a3 :: a4 :: a5 :: a6 :: a7 :: a8 :: a9 :: a10 :: a11 :: some (vI a) :: r) = true) (k : J κ lay ad cn sn (pc + 3) (a0 :: a1 :: a2 :: a3 :: a4 :: a5 :: a6 :: a7 :: a8 :: a9 :: a10 :: a11 :: some (vI (a + n)) :: r) st w) : J κ lay ad cn sn pc (a0 :: a1 :: a2 :: a3 :: a4 :: a5 :: a6 :: a7 :: a8 :: a9 :: a10 :: a11 :: some (vI a) :: r) st w := j_iincg X hd hn rfl rfl k
set_option maxRecDepth 10000 in
theorem s_13 (X : Okk κ cc own fr) {a0 a1 a2 a3 a4 a5 a6 a7 a8 a9 a10 a11 a12 : Option av} {a13 : Option av} {r : List (Option av)} {a : Int} (hd : decode cc pc = .ok (.istore 13, 2)) (hn : noL (a0 :: a1 :: a2 :: a3 :: a4 :: a5 :: a6 :: a7 :: a8 :: a9 :: a10 :: a11 :: a12 :: a13 :: r) = true) (k : J κ lay ad cn sn (pc + 2) (a0 :: a1 :: a2 :: a3 :: a4 :: a5 :: a6 :: a7 :: a8 :: a9 :: a10 :: a11 :: a12 :: some (vI a) :: r) st w) : J κ lay ad cn sn pc (a0 :: a1 :: a2 :: a3 :: a4 :: a5 :: a6 :: a7 :: a8 :: a9 :: a10 :: a11 :: a12 :: a13 :: r) (vI a :: st) w := j_istoreg X hd hn (by simp only [List.length_cons]; omega) rfl k
set_option maxRecDepth 10000 in
theorem inc_13 (X : Okk κ cc own fr) {a0 a1 a2 a3 a4 a5 a6 a7 a8 a9 a10 a11 a12 : Option av} {r : List (Option av)} {a n : Int} (hd : decode cc pc = .ok (.iinc 13 n, 3)) (hn : noL (a0 :: a1 :: a2 :: a3 :: a4 :: a5 :: a6 :: a7 :: a8 :: a9 :: a10 :: a11 :: a12 :: some (vI a) :: r) = true) (k : J κ lay ad cn sn (pc + 3) (a0 :: a1 :: a2 :: a3 :: a4 :: a5 :: a6 :: a7 :: a8 :: a9 :: a10 :: a11 :: a12 :: some (vI (a + n)) :: r) st w) : J κ lay ad cn sn pc (a0 :: a1 :: a2 :: a3 :: a4 :: a5 :: a6 :: a7 :: a8 :: a9 :: a10 :: a11 :: a12 :: some (vI a) :: r) st w := j_iincg X hd hn rfl rfl k
set_option maxRecDepth 10000 in
theorem s_14 (X : Okk κ cc own fr) {a0 a1 a2 a3 a4 a5 a6 a7 a8 a9 a10 a11 a12 a13 : Option av} {a14 : Option av} {r : List (Option av)} {a : Int} (hd : decode cc pc = .ok (.istore 14, 2)) (hn : noL (a0 :: a1 :: a2 :: a3 :: a4 :: a5 :: a6 :: a7 :: a8 :: a9 :: a10 :: a11 :: a12 :: a13 :: a14 :: r) = true) (k : J κ lay ad cn sn (pc + 2) (a0 :: a1 :: a2 :: a3 :: a4 :: a5 :: a6 :: a7 :: a8 :: a9 :: a10 :: a11 :: a12 :: a13 :: some (vI a) :: r) st w) : J κ lay ad cn sn pc (a0 :: a1 :: a2 :: a3 :: a4 :: a5 :: a6 :: a7 :: a8 :: a9 :: a10 :: a11 :: a12 :: a13 :: a14 :: r) (vI a :: st) w := j_istoreg X hd hn (by simp only [List.length_cons]; omega) rfl k
set_option maxRecDepth 10000 in
theorem inc_14 (X : Okk κ cc own fr) {a0 a1 a2 a3 a4 a5 a6 a7 a8 a9 a10 a11 a12 a13 : Option av} {r : List (Option av)} {a n : Int} (hd : decode cc pc = .ok (.iinc 14 n, 3)) (hn : noL (a0 :: a1 :: a2 :: a3 :: a4 :: a5 :: a6 :: a7 :: a8 :: a9 :: a10 :: a11 :: a12 :: a13 :: some (vI a) :: r) = true) (k : J κ lay ad cn sn (pc + 3) (a0 :: a1 :: a2 :: a3 :: a4 :: a5 :: a6 :: a7 :: a8 :: a9 :: a10 :: a11 :: a12 :: a13 :: some (vI (a + n)) :: r) st w) : J κ lay ad cn sn pc (a0 :: a1 :: a2 :: a3 :: a4 :: a5 :: a6 :: a7 :: a8 :: a9 :: a10 :: a11 :: a12 :: a13 :: some (vI a) :: r) st w := j_iincg X hd hn rfl rfl k
set_option maxRecDepth 10000 in
theorem s_15 (X : Okk κ cc own fr) {a0 a1 a2 a3 a4 a5 a6 a7 a8 a9 a10 a11 a12 a13 a14 : Option av} {a15 : Option av} {r : List (Option av)} {a : Int} (hd : decode cc pc = .ok (.istore 15, 2)) (hn : noL (a0 :: a1 :: a2 :: a3 :: a4 :: a5 :: a6 :: a7 :: a8 :: a9 :: a10 :: a11 :: a12 :: a13 :: a14 :: a15 :: r) = true) (k : J κ lay ad cn sn (pc + 2) (a0 :: a1 :: a2 :: a3 :: a4 :: a5 :: a6 :: a7 :: a8 :: a9 :: a10 :: a11 :: a12 :: a13 :: a14 :: some (vI a) :: r) st w) : J κ lay ad cn sn pc (a0 :: a1 :: a2 :: a3 :: a4 :: a5 :: a6 :: a7 :: a8 :: a9 :: a10 :: a11 :: a12 :: a13 :: a14 :: a15 :: r) (vI a :: st) w := j_istoreg X hd hn (by simp only [List.length_cons]; omega) rfl k
set_option maxRecDepth 10000 in
theorem inc_15 (X : Okk κ cc own fr) {a0 a1 a2 a3 a4 a5 a6 a7 a8 a9 a10 a11 a12 a13 a14 : Option av} {r : List (Option av)} {a n : Int} (hd : decode cc pc = .ok (.iinc 15 n, 3)) (hn : noL (a0 :: a1 :: a2 :: a3 :: a4 :: a5 :: a6 :: a7 :: a8 :: a9 :: a10 :: a11 :: a12 :: a13 :: a14 :: some (vI a) :: r) = true) (k : J κ lay ad cn sn (pc + 3) (a0 :: a1 :: a2 :: a3 :: a4 :: a5 :: a6 :: a7 :: a8 :: a9 :: a10 :: a11 :: a12 :: a13 :: a14 :: some (vI (a + n)) :: r) st w) : J κ lay ad cn sn pc (a0 :: a1 :: a2 :: a3 :: a4 :: a5 :: a6 :: a7 :: a8 :: a9 :: a10 :: a11 :: a12 :: a13 :: a14 :: some (vI a) :: r) st w := j_iincg X hd hn rfl rfl k
variable {ls : List (Option av)} {y : MethodName} {cy : ByteArray} {nLy : Nat} {ty : FieldType} {d idx : Nat}
set_option maxRecDepth 10000 in
theorem cV0i (X : Okk κ cc own fr) {P : Int → wd → Prop} {o ci N : Nat} {T : u_T} {fs : List (Option (Option Nat))} (hm : MF y cy nLy (some ty) 0) (hv : MV y) (hl : ML own idx y) (hd2 : d + 1 ≤ fr) (hlay : lay[o]? = some (.inl (ci, fs))) (hc : vwCl[ci]? = some (y.cls, T, N)) (hr : ((st.map (cv ad)).map fun v => v.category).sum ≤ 8) (hd : decode cc pc = .ok (.invokevirtual idx, 3)) (hM : CalI y cy nLy ty d lay w [vR o] P) (k : ∀ a w', P a w' → J κ lay ad 0 0 (pc + 3) ls (vI a :: st) w') : J κ lay ad 0 0 pc ls (vR o :: st) w := jc_Vi X csOk_0 hm hv hl hd2 hlay hc (avs := []) rfl rfl hr hd hM k
set_option maxRecDepth 10000 in
theorem cS0i (X : Okk κ cc own fr) {P : Int → wd → Prop} (hm : MF y cy nLy (some ty) 0) (hv : Cond.static y ∈ TB) (hl : ML own idx y) (hd2 : d + 1 ≤ fr) (hr : ((st.map (cv ad)).map fun v => v.category).sum ≤ 8) (hd : decode cc pc = .ok (.invokestatic idx, 3)) (hM : CalI y cy nLy ty d lay w [] P) (k : ∀ a w', P a w' → J κ lay ad 0 0 (pc + 3) ls (vI a :: st) w') : J κ lay ad 0 0 pc ls (st) w := jc_Si X csOk_0 hm hv hl hd2 (avs := []) rfl rfl hr hd hM k
set_option maxRecDepth 10000 in
theorem cV0v (X : Okk κ cc own fr) {P : wd → Prop} {o ci N : Nat} {T : u_T} {fs : List (Option (Option Nat))} (hm : MF y cy nLy none 0) (hv : MV y) (hl : ML own idx y) (hd2 : d + 1 ≤ fr) (hlay : lay[o]? = some (.inl (ci, fs))) (hc : vwCl[ci]? = some (y.cls, T, N)) (hr : ((st.map (cv ad)).map fun v => v.category).sum ≤ 8) (hd : decode cc pc = .ok (.invokevirtual idx, 3)) (hM : CalV y cy nLy d lay w [vR o] P) (k : ∀ w', P w' → J κ lay ad 0 0 (pc + 3) ls st w') : J κ lay ad 0 0 pc ls (vR o :: st) w := jc_Vv X csOk_0 hm hv hl hd2 hlay hc (avs := []) rfl rfl hr hd hM k
set_option maxRecDepth 10000 in
theorem cS0v (X : Okk κ cc own fr) {P : wd → Prop} (hm : MF y cy nLy none 0) (hv : Cond.static y ∈ TB) (hl : ML own idx y) (hd2 : d + 1 ≤ fr) (hr : ((st.map (cv ad)).map fun v => v.category).sum ≤ 8) (hd : decode cc pc = .ok (.invokestatic idx, 3)) (hM : CalV y cy nLy d lay w [] P) (k : ∀ w', P w' → J κ lay ad 0 0 (pc + 3) ls st w') : J κ lay ad 0 0 pc ls (st) w := jc_Sv X csOk_0 hm hv hl hd2 (avs := []) rfl rfl hr hd hM k
set_option maxRecDepth 10000 in
theorem cV1i (X : Okk κ cc own fr) {P : Int → wd → Prop} {x1 : av} {o ci N : Nat} {T : u_T} {fs : List (Option (Option Nat))} (hm : MF y cy nLy (some ty) 1) (hv : MV y) (hl : ML own idx y) (hd2 : d + 1 ≤ fr) (hlay : lay[o]? = some (.inl (ci, fs))) (hc : vwCl[ci]? = some (y.cls, T, N)) (hr : ((st.map (cv ad)).map fun v => v.category).sum ≤ 8) (hd : decode cc pc = .ok (.invokevirtual idx, 3)) (hM : CalI y cy nLy ty d lay w [vR o, x1] P) (k : ∀ a w', P a w' → J κ lay ad 0 0 (pc + 3) ls (vI a :: st) w') : J κ lay ad 0 0 pc ls (x1 :: vR o :: st) w := jc_Vi X csOk_0 hm hv hl hd2 hlay hc (avs := [x1]) rfl rfl hr hd hM k
set_option maxRecDepth 10000 in
theorem cS1i (X : Okk κ cc own fr) {P : Int → wd → Prop} {x1 : av} (hm : MF y cy nLy (some ty) 1) (hv : Cond.static y ∈ TB) (hl : ML own idx y) (hd2 : d + 1 ≤ fr) (hr : ((st.map (cv ad)).map fun v => v.category).sum ≤ 8) (hd : decode cc pc = .ok (.invokestatic idx, 3)) (hM : CalI y cy nLy ty d lay w [x1] P) (k : ∀ a w', P a w' → J κ lay ad 0 0 (pc + 3) ls (vI a :: st) w') : J κ lay ad 0 0 pc ls (x1 :: st) w := jc_Si X csOk_0 hm hv hl hd2 (avs := [x1]) rfl rfl hr hd hM k
set_option maxRecDepth 10000 in
theorem cV1v (X : Okk κ cc own fr) {P : wd → Prop} {x1 : av} {o ci N : Nat} {T : u_T} {fs : List (Option (Option Nat))} (hm : MF y cy nLy none 1) (hv : MV y) (hl : ML own idx y) (hd2 : d + 1 ≤ fr) (hlay : lay[o]? = some (.inl (ci, fs))) (hc : vwCl[ci]? = some (y.cls, T, N)) (hr : ((st.map (cv ad)).map fun v => v.category).sum ≤ 8) (hd : decode cc pc = .ok (.invokevirtual idx, 3)) (hM : CalV y cy nLy d lay w [vR o, x1] P) (k : ∀ w', P w' → J κ lay ad 0 0 (pc + 3) ls st w') : J κ lay ad 0 0 pc ls (x1 :: vR o :: st) w := jc_Vv X csOk_0 hm hv hl hd2 hlay hc (avs := [x1]) rfl rfl hr hd hM k
set_option maxRecDepth 10000 in
theorem cS1v (X : Okk κ cc own fr) {P : wd → Prop} {x1 : av} (hm : MF y cy nLy none 1) (hv : Cond.static y ∈ TB) (hl : ML own idx y) (hd2 : d + 1 ≤ fr) (hr : ((st.map (cv ad)).map fun v => v.category).sum ≤ 8) (hd : decode cc pc = .ok (.invokestatic idx, 3)) (hM : CalV y cy nLy d lay w [x1] P) (k : ∀ w', P w' → J κ lay ad 0 0 (pc + 3) ls st w') : J κ lay ad 0 0 pc ls (x1 :: st) w := jc_Sv X csOk_0 hm hv hl hd2 (avs := [x1]) rfl rfl hr hd hM k
set_option maxRecDepth 10000 in
theorem cV2i (X : Okk κ cc own fr) {P : Int → wd → Prop} {x1 x2 : av} {o ci N : Nat} {T : u_T} {fs : List (Option (Option Nat))} (hm : MF y cy nLy (some ty) 2) (hv : MV y) (hl : ML own idx y) (hd2 : d + 1 ≤ fr) (hlay : lay[o]? = some (.inl (ci, fs))) (hc : vwCl[ci]? = some (y.cls, T, N)) (hr : ((st.map (cv ad)).map fun v => v.category).sum ≤ 8) (hd : decode cc pc = .ok (.invokevirtual idx, 3)) (hM : CalI y cy nLy ty d lay w [vR o, x1, x2] P) (k : ∀ a w', P a w' → J κ lay ad 0 0 (pc + 3) ls (vI a :: st) w') : J κ lay ad 0 0 pc ls (x2 :: x1 :: vR o :: st) w := jc_Vi X csOk_0 hm hv hl hd2 hlay hc (avs := [x1, x2]) rfl rfl hr hd hM k
set_option maxRecDepth 10000 in
theorem cS2i (X : Okk κ cc own fr) {P : Int → wd → Prop} {x1 x2 : av} (hm : MF y cy nLy (some ty) 2) (hv : Cond.static y ∈ TB) (hl : ML own idx y) (hd2 : d + 1 ≤ fr) (hr : ((st.map (cv ad)).map fun v => v.category).sum ≤ 8) (hd : decode cc pc = .ok (.invokestatic idx, 3)) (hM : CalI y cy nLy ty d lay w [x1, x2] P) (k : ∀ a w', P a w' → J κ lay ad 0 0 (pc + 3) ls (vI a :: st) w') : J κ lay ad 0 0 pc ls (x2 :: x1 :: st) w := jc_Si X csOk_0 hm hv hl hd2 (avs := [x1, x2]) rfl rfl hr hd hM k
set_option maxRecDepth 10000 in
theorem cV2v (X : Okk κ cc own fr) {P : wd → Prop} {x1 x2 : av} {o ci N : Nat} {T : u_T} {fs : List (Option (Option Nat))} (hm : MF y cy nLy none 2) (hv : MV y) (hl : ML own idx y) (hd2 : d + 1 ≤ fr) (hlay : lay[o]? = some (.inl (ci, fs))) (hc : vwCl[ci]? = some (y.cls, T, N)) (hr : ((st.map (cv ad)).map fun v => v.category).sum ≤ 8) (hd : decode cc pc = .ok (.invokevirtual idx, 3)) (hM : CalV y cy nLy d lay w [vR o, x1, x2] P) (k : ∀ w', P w' → J κ lay ad 0 0 (pc + 3) ls st w') : J κ lay ad 0 0 pc ls (x2 :: x1 :: vR o :: st) w := jc_Vv X csOk_0 hm hv hl hd2 hlay hc (avs := [x1, x2]) rfl rfl hr hd hM k
set_option maxRecDepth 10000 in
theorem cS2v (X : Okk κ cc own fr) {P : wd → Prop} {x1 x2 : av} (hm : MF y cy nLy none 2) (hv : Cond.static y ∈ TB) (hl : ML own idx y) (hd2 : d + 1 ≤ fr) (hr : ((st.map (cv ad)).map fun v => v.category).sum ≤ 8) (hd : decode cc pc = .ok (.invokestatic idx, 3)) (hM : CalV y cy nLy d lay w [x1, x2] P) (k : ∀ w', P w' → J κ lay ad 0 0 (pc + 3) ls st w') : J κ lay ad 0 0 pc ls (x2 :: x1 :: st) w := jc_Sv X csOk_0 hm hv hl hd2 (avs := [x1, x2]) rfl rfl hr hd hM k
set_option maxRecDepth 10000 in
theorem cV3i (X : Okk κ cc own fr) {P : Int → wd → Prop} {x1 x2 x3 : av} {o ci N : Nat} {T : u_T} {fs : List (Option (Option Nat))} (hm : MF y cy nLy (some ty) 3) (hv : MV y) (hl : ML own idx y) (hd2 : d + 1 ≤ fr) (hlay : lay[o]? = some (.inl (ci, fs))) (hc : vwCl[ci]? = some (y.cls, T, N)) (hr : ((st.map (cv ad)).map fun v => v.category).sum ≤ 8) (hd : decode cc pc = .ok (.invokevirtual idx, 3)) (hM : CalI y cy nLy ty d lay w [vR o, x1, x2, x3] P) (k : ∀ a w', P a w' → J κ lay ad 0 0 (pc + 3) ls (vI a :: st) w') : J κ lay ad 0 0 pc ls (x3 :: x2 :: x1 :: vR o :: st) w := jc_Vi X csOk_0 hm hv hl hd2 hlay hc (avs := [x1, x2, x3]) rfl rfl hr hd hM k
set_option maxRecDepth 10000 in
theorem cS3i (X : Okk κ cc own fr) {P : Int → wd → Prop} {x1 x2 x3 : av} (hm : MF y cy nLy (some ty) 3) (hv : Cond.static y ∈ TB) (hl : ML own idx y) (hd2 : d + 1 ≤ fr) (hr : ((st.map (cv ad)).map fun v => v.category).sum ≤ 8) (hd : decode cc pc = .ok (.invokestatic idx, 3)) (hM : CalI y cy nLy ty d lay w [x1, x2, x3] P) (k : ∀ a w', P a w' → J κ lay ad 0 0 (pc + 3) ls (vI a :: st) w') : J κ lay ad 0 0 pc ls (x3 :: x2 :: x1 :: st) w := jc_Si X csOk_0 hm hv hl hd2 (avs := [x1, x2, x3]) rfl rfl hr hd hM k
set_option maxRecDepth 10000 in
theorem cV3v (X : Okk κ cc own fr) {P : wd → Prop} {x1 x2 x3 : av} {o ci N : Nat} {T : u_T} {fs : List (Option (Option Nat))} (hm : MF y cy nLy none 3) (hv : MV y) (hl : ML own idx y) (hd2 : d + 1 ≤ fr) (hlay : lay[o]? = some (.inl (ci, fs))) (hc : vwCl[ci]? = some (y.cls, T, N)) (hr : ((st.map (cv ad)).map fun v => v.category).sum ≤ 8) (hd : decode cc pc = .ok (.invokevirtual idx, 3)) (hM : CalV y cy nLy d lay w [vR o, x1, x2, x3] P) (k : ∀ w', P w' → J κ lay ad 0 0 (pc + 3) ls st w') : J κ lay ad 0 0 pc ls (x3 :: x2 :: x1 :: vR o :: st) w := jc_Vv X csOk_0 hm hv hl hd2 hlay hc (avs := [x1, x2, x3]) rfl rfl hr hd hM k
set_option maxRecDepth 10000 in
theorem cS3v (X : Okk κ cc own fr) {P : wd → Prop} {x1 x2 x3 : av} (hm : MF y cy nLy none 3) (hv : Cond.static y ∈ TB) (hl : ML own idx y) (hd2 : d + 1 ≤ fr) (hr : ((st.map (cv ad)).map fun v => v.category).sum ≤ 8) (hd : decode cc pc = .ok (.invokestatic idx, 3)) (hM : CalV y cy nLy d lay w [x1, x2, x3] P) (k : ∀ w', P w' → J κ lay ad 0 0 (pc + 3) ls st w') : J κ lay ad 0 0 pc ls (x3 :: x2 :: x1 :: st) w := jc_Sv X csOk_0 hm hv hl hd2 (avs := [x1, x2, x3]) rfl rfl hr hd hM k
set_option maxRecDepth 10000 in
theorem cV4i (X : Okk κ cc own fr) {P : Int → wd → Prop} {x1 x2 x3 x4 : av} {o ci N : Nat} {T : u_T} {fs : List (Option (Option Nat))} (hm : MF y cy nLy (some ty) 4) (hv : MV y) (hl : ML own idx y) (hd2 : d + 1 ≤ fr) (hlay : lay[o]? = some (.inl (ci, fs))) (hc : vwCl[ci]? = some (y.cls, T, N)) (hr : ((st.map (cv ad)).map fun v => v.category).sum ≤ 8) (hd : decode cc pc = .ok (.invokevirtual idx, 3)) (hM : CalI y cy nLy ty d lay w [vR o, x1, x2, x3, x4] P) (k : ∀ a w', P a w' → J κ lay ad 0 0 (pc + 3) ls (vI a :: st) w') : J κ lay ad 0 0 pc ls (x4 :: x3 :: x2 :: x1 :: vR o :: st) w := jc_Vi X csOk_0 hm hv hl hd2 hlay hc (avs := [x1, x2, x3, x4]) rfl rfl hr hd hM k
set_option maxRecDepth 10000 in
theorem cS4i (X : Okk κ cc own fr) {P : Int → wd → Prop} {x1 x2 x3 x4 : av} (hm : MF y cy nLy (some ty) 4) (hv : Cond.static y ∈ TB) (hl : ML own idx y) (hd2 : d + 1 ≤ fr) (hr : ((st.map (cv ad)).map fun v => v.category).sum ≤ 8) (hd : decode cc pc = .ok (.invokestatic idx, 3)) (hM : CalI y cy nLy ty d lay w [x1, x2, x3, x4] P) (k : ∀ a w', P a w' → J κ lay ad 0 0 (pc + 3) ls (vI a :: st) w') : J κ lay ad 0 0 pc ls (x4 :: x3 :: x2 :: x1 :: st) w := jc_Si X csOk_0 hm hv hl hd2 (avs := [x1, x2, x3, x4]) rfl rfl hr hd hM k
set_option maxRecDepth 10000 in
theorem cV4v (X : Okk κ cc own fr) {P : wd → Prop} {x1 x2 x3 x4 : av} {o ci N : Nat} {T : u_T} {fs : List (Option (Option Nat))} (hm : MF y cy nLy none 4) (hv : MV y) (hl : ML own idx y) (hd2 : d + 1 ≤ fr) (hlay : lay[o]? = some (.inl (ci, fs))) (hc : vwCl[ci]? = some (y.cls, T, N)) (hr : ((st.map (cv ad)).map fun v => v.category).sum ≤ 8) (hd : decode cc pc = .ok (.invokevirtual idx, 3)) (hM : CalV y cy nLy d lay w [vR o, x1, x2, x3, x4] P) (k : ∀ w', P w' → J κ lay ad 0 0 (pc + 3) ls st w') : J κ lay ad 0 0 pc ls (x4 :: x3 :: x2 :: x1 :: vR o :: st) w := jc_Vv X csOk_0 hm hv hl hd2 hlay hc (avs := [x1, x2, x3, x4]) rfl rfl hr hd hM k
set_option maxRecDepth 10000 in
theorem cS4v (X : Okk κ cc own fr) {P : wd → Prop} {x1 x2 x3 x4 : av} (hm : MF y cy nLy none 4) (hv : Cond.static y ∈ TB) (hl : ML own idx y) (hd2 : d + 1 ≤ fr) (hr : ((st.map (cv ad)).map fun v => v.category).sum ≤ 8) (hd : decode cc pc = .ok (.invokestatic idx, 3)) (hM : CalV y cy nLy d lay w [x1, x2, x3, x4] P) (k : ∀ w', P w' → J κ lay ad 0 0 (pc + 3) ls st w') : J κ lay ad 0 0 pc ls (x4 :: x3 :: x2 :: x1 :: st) w := jc_Sv X csOk_0 hm hv hl hd2 (avs := [x1, x2, x3, x4]) rfl rfl hr hd hM k
set_option maxRecDepth 10000 in
theorem cV5i (X : Okk κ cc own fr) {P : Int → wd → Prop} {x1 x2 x3 x4 x5 : av} {o ci N : Nat} {T : u_T} {fs : List (Option (Option Nat))} (hm : MF y cy nLy (some ty) 5) (hv : MV y) (hl : ML own idx y) (hd2 : d + 1 ≤ fr) (hlay : lay[o]? = some (.inl (ci, fs))) (hc : vwCl[ci]? = some (y.cls, T, N)) (hr : ((st.map (cv ad)).map fun v => v.category).sum ≤ 8) (hd : decode cc pc = .ok (.invokevirtual idx, 3)) (hM : CalI y cy nLy ty d lay w [vR o, x1, x2, x3, x4, x5] P) (k : ∀ a w', P a w' → J κ lay ad 0 0 (pc + 3) ls (vI a :: st) w') : J κ lay ad 0 0 pc ls (x5 :: x4 :: x3 :: x2 :: x1 :: vR o :: st) w := jc_Vi X csOk_0 hm hv hl hd2 hlay hc (avs := [x1, x2, x3, x4, x5]) rfl rfl hr hd hM k
set_option maxRecDepth 10000 in
theorem cS5i (X : Okk κ cc own fr) {P : Int → wd → Prop} {x1 x2 x3 x4 x5 : av} (hm : MF y cy nLy (some ty) 5) (hv : Cond.static y ∈ TB) (hl : ML own idx y) (hd2 : d + 1 ≤ fr) (hr : ((st.map (cv ad)).map fun v => v.category).sum ≤ 8) (hd : decode cc pc = .ok (.invokestatic idx, 3)) (hM : CalI y cy nLy ty d lay w [x1, x2, x3, x4, x5] P) (k : ∀ a w', P a w' → J κ lay ad 0 0 (pc + 3) ls (vI a :: st) w') : J κ lay ad 0 0 pc ls (x5 :: x4 :: x3 :: x2 :: x1 :: st) w := jc_Si X csOk_0 hm hv hl hd2 (avs := [x1, x2, x3, x4, x5]) rfl rfl hr hd hM k
set_option maxRecDepth 10000 in
theorem cV5v (X : Okk κ cc own fr) {P : wd → Prop} {x1 x2 x3 x4 x5 : av} {o ci N : Nat} {T : u_T} {fs : List (Option (Option Nat))} (hm : MF y cy nLy none 5) (hv : MV y) (hl : ML own idx y) (hd2 : d + 1 ≤ fr) (hlay : lay[o]? = some (.inl (ci, fs))) (hc : vwCl[ci]? = some (y.cls, T, N)) (hr : ((st.map (cv ad)).map fun v => v.category).sum ≤ 8) (hd : decode cc pc = .ok (.invokevirtual idx, 3)) (hM : CalV y cy nLy d lay w [vR o, x1, x2, x3, x4, x5] P) (k : ∀ w', P w' → J κ lay ad 0 0 (pc + 3) ls st w') : J κ lay ad 0 0 pc ls (x5 :: x4 :: x3 :: x2 :: x1 :: vR o :: st) w := jc_Vv X csOk_0 hm hv hl hd2 hlay hc (avs := [x1, x2, x3, x4, x5]) rfl rfl hr hd hM k
set_option maxRecDepth 10000 in
theorem cS5v (X : Okk κ cc own fr) {P : wd → Prop} {x1 x2 x3 x4 x5 : av} (hm : MF y cy nLy none 5) (hv : Cond.static y ∈ TB) (hl : ML own idx y) (hd2 : d + 1 ≤ fr) (hr : ((st.map (cv ad)).map fun v => v.category).sum ≤ 8) (hd : decode cc pc = .ok (.invokestatic idx, 3)) (hM : CalV y cy nLy d lay w [x1, x2, x3, x4, x5] P) (k : ∀ w', P w' → J κ lay ad 0 0 (pc + 3) ls st w') : J κ lay ad 0 0 pc ls (x5 :: x4 :: x3 :: x2 :: x1 :: st) w := jc_Sv X csOk_0 hm hv hl hd2 (avs := [x1, x2, x3, x4, x5]) rfl rfl hr hd hM k
set_option maxRecDepth 10000 in
theorem cV6i (X : Okk κ cc own fr) {P : Int → wd → Prop} {x1 x2 x3 x4 x5 x6 : av} {o ci N : Nat} {T : u_T} {fs : List (Option (Option Nat))} (hm : MF y cy nLy (some ty) 6) (hv : MV y) (hl : ML own idx y) (hd2 : d + 1 ≤ fr) (hlay : lay[o]? = some (.inl (ci, fs))) (hc : vwCl[ci]? = some (y.cls, T, N)) (hr : ((st.map (cv ad)).map fun v => v.category).sum ≤ 8) (hd : decode cc pc = .ok (.invokevirtual idx, 3)) (hM : CalI y cy nLy ty d lay w [vR o, x1, x2, x3, x4, x5, x6] P) (k : ∀ a w', P a w' → J κ lay ad 0 0 (pc + 3) ls (vI a :: st) w') : J κ lay ad 0 0 pc ls (x6 :: x5 :: x4 :: x3 :: x2 :: x1 :: vR o :: st) w := jc_Vi X csOk_0 hm hv hl hd2 hlay hc (avs := [x1, x2, x3, x4, x5, x6]) rfl rfl hr hd hM k
set_option maxRecDepth 10000 in
theorem cS6i (X : Okk κ cc own fr) {P : Int → wd → Prop} {x1 x2 x3 x4 x5 x6 : av} (hm : MF y cy nLy (some ty) 6) (hv : Cond.static y ∈ TB) (hl : ML own idx y) (hd2 : d + 1 ≤ fr) (hr : ((st.map (cv ad)).map fun v => v.category).sum ≤ 8) (hd : decode cc pc = .ok (.invokestatic idx, 3)) (hM : CalI y cy nLy ty d lay w [x1, x2, x3, x4, x5, x6] P) (k : ∀ a w', P a w' → J κ lay ad 0 0 (pc + 3) ls (vI a :: st) w') : J κ lay ad 0 0 pc ls (x6 :: x5 :: x4 :: x3 :: x2 :: x1 :: st) w := jc_Si X csOk_0 hm hv hl hd2 (avs := [x1, x2, x3, x4, x5, x6]) rfl rfl hr hd hM k
set_option maxRecDepth 10000 in
theorem cV6v (X : Okk κ cc own fr) {P : wd → Prop} {x1 x2 x3 x4 x5 x6 : av} {o ci N : Nat} {T : u_T} {fs : List (Option (Option Nat))} (hm : MF y cy nLy none 6) (hv : MV y) (hl : ML own idx y) (hd2 : d + 1 ≤ fr) (hlay : lay[o]? = some (.inl (ci, fs))) (hc : vwCl[ci]? = some (y.cls, T, N)) (hr : ((st.map (cv ad)).map fun v => v.category).sum ≤ 8) (hd : decode cc pc = .ok (.invokevirtual idx, 3)) (hM : CalV y cy nLy d lay w [vR o, x1, x2, x3, x4, x5, x6] P) (k : ∀ w', P w' → J κ lay ad 0 0 (pc + 3) ls st w') : J κ lay ad 0 0 pc ls (x6 :: x5 :: x4 :: x3 :: x2 :: x1 :: vR o :: st) w := jc_Vv X csOk_0 hm hv hl hd2 hlay hc (avs := [x1, x2, x3, x4, x5, x6]) rfl rfl hr hd hM k
set_option maxRecDepth 10000 in
theorem cS6v (X : Okk κ cc own fr) {P : wd → Prop} {x1 x2 x3 x4 x5 x6 : av} (hm : MF y cy nLy none 6) (hv : Cond.static y ∈ TB) (hl : ML own idx y) (hd2 : d + 1 ≤ fr) (hr : ((st.map (cv ad)).map fun v => v.category).sum ≤ 8) (hd : decode cc pc = .ok (.invokestatic idx, 3)) (hM : CalV y cy nLy d lay w [x1, x2, x3, x4, x5, x6] P) (k : ∀ w', P w' → J κ lay ad 0 0 (pc + 3) ls st w') : J κ lay ad 0 0 pc ls (x6 :: x5 :: x4 :: x3 :: x2 :: x1 :: st) w := jc_Sv X csOk_0 hm hv hl hd2 (avs := [x1, x2, x3, x4, x5, x6]) rfl rfl hr hd hM k
end JROWS4
end
section
theorem zz_last : True := trivial
end
