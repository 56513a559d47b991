/-! the printed names of the claim (claim/NAMES.whole): names, field tables, decode rows -/
def RX0 : String := "OneSnip$Creases"
def TX0 : u_T := fun k => match k with
  | 0 => ("OneSnip$Creases", "sheet", "LOneSnip$Sheet;", true)
  | _ => ("OneSnip$Creases", "pile", "LOneSnip$Pile;", true)
def tyX0 : Nat → FieldType := fun k => match k with
  | 0 => .object "OneSnip$Sheet"
  | _ => .object "OneSnip$Pile"
abbrev wsX00 : List Cond := u_ws RX0 TX0 2
theorem nmX0 : ∀ a, a < 2 → ∀ b, b < 2 → a ≠ b → (TX0 a).2.1 ≠ (TX0 b).2.1 := by decide +kernel
theorem tyX0_ok : ∀ k, k < 2 → parseFieldDescriptor (TX0 k).2.2.1 = some (tyX0 k) := by decide +kernel
abbrev cX0_init : ByteArray := prog_2_method_1_code
def yX0_init : MethodName := ⟨RX0, "<init>", "(LOneSnip$Sheet;LOneSnip$Pile;)V"⟩
abbrev cX0_kind : ByteArray := prog_2_method_2_code
def yX0_kind : MethodName := ⟨RX0, "kind", "(II)I"⟩
abbrev cX0_total : ByteArray := prog_2_method_3_code
def yX0_total : MethodName := ⟨RX0, "total", "(I)I"⟩
abbrev cX0_ending : ByteArray := prog_2_method_4_code
def yX0_ending : MethodName := ⟨RX0, "ending", "(IIIZ)I"⟩
abbrev cX0_isFirstOf : ByteArray := prog_2_method_5_code
def yX0_isFirstOf : MethodName := ⟨RX0, "isFirstOf", "(II)Z"⟩
abbrev cX0_endsAt : ByteArray := prog_2_method_6_code
def yX0_endsAt : MethodName := ⟨RX0, "endsAt", "(IIII)Z"⟩
abbrev cX0_isCorner : ByteArray := prog_2_method_7_code
def yX0_isCorner : MethodName := ⟨RX0, "isCorner", "(III)Z"⟩
def RX1 : String := "OneSnip$Figure"
def TX1 : u_T := fun k => match k with
  | 0 => ("OneSnip$Figure", "sheet", "LOneSnip$Sheet;", true)
  | 1 => ("OneSnip$Figure", "flags", "[I", true)
  | _ => ("OneSnip$Figure", "total", "I", false)
def tyX1 : Nat → FieldType := fun k => match k with
  | 0 => .object "OneSnip$Sheet"
  | 1 => .array .int
  | _ => .int
abbrev wsX10 : List Cond := u_ws RX1 TX1 3
theorem nmX1 : ∀ a, a < 3 → ∀ b, b < 3 → a ≠ b → (TX1 a).2.1 ≠ (TX1 b).2.1 := by decide +kernel
theorem tyX1_ok : ∀ k, k < 3 → parseFieldDescriptor (TX1 k).2.2.1 = some (tyX1 k) := by decide +kernel
abbrev cX1_init : ByteArray := prog_3_method_1_code
def yX1_init : MethodName := ⟨RX1, "<init>", "(LOneSnip$Sheet;)V"⟩
abbrev cX1_wipe : ByteArray := prog_3_method_2_code
def yX1_wipe : MethodName := ⟨RX1, "wipe", "()V"⟩
abbrev cX1_has : ByteArray := prog_3_method_3_code
def yX1_has : MethodName := ⟨RX1, "has", "(I)Z"⟩
abbrev cX1_put : ByteArray := prog_3_method_4_code
def yX1_put : MethodName := ⟨RX1, "put", "(IZ)V"⟩
abbrev cX1_first : ByteArray := prog_3_method_5_code
def yX1_first : MethodName := ⟨RX1, "first", "(Z)I"⟩
abbrev cX1_isMirror : ByteArray := prog_3_method_6_code
def yX1_isMirror : MethodName := ⟨RX1, "isMirror", "(II)Z"⟩
def RX2 : String := "OneSnip$Layout"
def TX2 : u_T := fun k => match k with
  | 0 => ("OneSnip$Layout", "next", "LOneSnip$Layout;", true)
  | 1 => ("OneSnip$Layout", "xs", "[I", true)
  | 2 => ("OneSnip$Layout", "ys", "[I", true)
  | 3 => ("OneSnip$Layout", "quarters", "[I", true)
  | 4 => ("OneSnip$Layout", "kinds", "[I", true)
  | 5 => ("OneSnip$Layout", "leasts", "[I", true)
  | 6 => ("OneSnip$Layout", "greatests", "[I", true)
  | 7 => ("OneSnip$Layout", "firstKind", "I", false)
  | 8 => ("OneSnip$Layout", "split", "I", false)
  | _ => ("OneSnip$Layout", "used", "I", false)
def tyX2 : Nat → FieldType := fun k => match k with
  | 0 => .object "OneSnip$Layout"
  | 1 => .array .int
  | 2 => .array .int
  | 3 => .array .int
  | 4 => .array .int
  | 5 => .array .int
  | 6 => .array .int
  | 7 => .int
  | 8 => .int
  | _ => .int
abbrev wsX20 : List Cond := u_ws RX2 TX2 10
theorem nmX2 : ∀ a, a < 10 → ∀ b, b < 10 → a ≠ b → (TX2 a).2.1 ≠ (TX2 b).2.1 := by decide +kernel
theorem tyX2_ok : ∀ k, k < 10 → parseFieldDescriptor (TX2 k).2.2.1 = some (tyX2 k) := by decide +kernel
abbrev cX2_init : ByteArray := prog_4_method_1_code
def yX2_init : MethodName := ⟨RX2, "<init>", "(LOneSnip$Layout;)V"⟩
abbrev cX2_load : ByteArray := prog_4_method_2_code
def yX2_load : MethodName := ⟨RX2, "load", "(LOneSnip$Sheet;LOneSnip$Figure;)V"⟩
abbrev cX2_putAround : ByteArray := prog_4_method_3_code
def yX2_putAround : MethodName := ⟨RX2, "putAround", "(LOneSnip$Sheet;LOneSnip$Figure;ZI)V"⟩
abbrev cX2_clear : ByteArray := prog_4_method_4_code
def yX2_clear : MethodName := ⟨RX2, "clear", "(I)V"⟩
abbrev cX2_put : ByteArray := prog_4_method_5_code
def yX2_put : MethodName := ⟨RX2, "put", "(IIII)V"⟩
abbrev cX2_secondKind : ByteArray := prog_4_method_6_code
def yX2_secondKind : MethodName := ⟨RX2, "secondKind", "()I"⟩
abbrev cX2_widen : ByteArray := prog_4_method_7_code
def yX2_widen : MethodName := ⟨RX2, "widen", "(II)V"⟩
abbrev cX2_least : ByteArray := prog_4_method_8_code
def yX2_least : MethodName := ⟨RX2, "least", "(I)I"⟩
abbrev cX2_greatest : ByteArray := prog_4_method_9_code
def yX2_greatest : MethodName := ⟨RX2, "greatest", "(I)I"⟩
abbrev cX2_row : ByteArray := prog_4_method_10_code
def yX2_row : MethodName := ⟨RX2, "row", "(II)I"⟩
abbrev cX2_firstStrip : ByteArray := prog_4_method_11_code
def yX2_firstStrip : MethodName := ⟨RX2, "firstStrip", "()I"⟩
abbrev cX2_lastStrip : ByteArray := prog_4_method_12_code
def yX2_lastStrip : MethodName := ⟨RX2, "lastStrip", "()I"⟩
abbrev cX2_isCrossed : ByteArray := prog_4_method_13_code
def yX2_isCrossed : MethodName := ⟨RX2, "isCrossed", "(II)Z"⟩
abbrev cX2_fits : ByteArray := prog_4_method_14_code
def yX2_fits : MethodName := ⟨RX2, "fits", "(II)Z"⟩
abbrev cX2_turnInto : ByteArray := prog_4_method_15_code
def yX2_turnInto : MethodName := ⟨RX2, "turnInto", "(LOneSnip$Layout;IIIZ)V"⟩
abbrev cX2_isEntangled : ByteArray := prog_4_method_16_code
def yX2_isEntangled : MethodName := ⟨RX2, "isEntangled", "()Z"⟩
abbrev cX2_cuts : ByteArray := prog_4_method_17_code
def yX2_cuts : MethodName := ⟨RX2, "cuts", "()I"⟩
abbrev cX2_firstCut : ByteArray := prog_4_method_18_code
def yX2_firstCut : MethodName := ⟨RX2, "firstCut", "()I"⟩
abbrev cX2_firstCut_ : ByteArray := prog_4_method_19_code
def yX2_firstCut_ : MethodName := ⟨RX2, "firstCut", "(II)I"⟩
abbrev cX2_lastCut : ByteArray := prog_4_method_20_code
def yX2_lastCut : MethodName := ⟨RX2, "lastCut", "(II)I"⟩
def RX3 : String := "OneSnip$Lines"
def TX3 : u_T := fun k => match k with
  | _ => ("", "", "", false)
def tyX3 : Nat → FieldType := fun k => match k with
  | _ => .int
abbrev wsX30 : List Cond := u_ws RX3 TX3 0
theorem nmX3 : ∀ a, a < 0 → ∀ b, b < 0 → a ≠ b → (TX3 a).2.1 ≠ (TX3 b).2.1 := by decide +kernel
theorem tyX3_ok : ∀ k, k < 0 → parseFieldDescriptor (TX3 k).2.2.1 = some (tyX3 k) := by decide +kernel
abbrev cX3_isLine : ByteArray := prog_5_method_2_code
def yX3_isLine : MethodName := ⟨RX3, "isLine", "(II)Z"⟩
abbrev cX3_isSide : ByteArray := prog_5_method_3_code
def yX3_isSide : MethodName := ⟨RX3, "isSide", "(I)Z"⟩
abbrev cX3_strip : ByteArray := prog_5_method_4_code
def yX3_strip : MethodName := ⟨RX3, "strip", "(IIII)I"⟩
abbrev cX3_isOn : ByteArray := prog_5_method_5_code
def yX3_isOn : MethodName := ⟨RX3, "isOn", "(III)Z"⟩
abbrev cX3_mirrorX : ByteArray := prog_5_method_6_code
def yX3_mirrorX : MethodName := ⟨RX3, "mirrorX", "(IIII)I"⟩
abbrev cX3_mirrorY : ByteArray := prog_5_method_7_code
def yX3_mirrorY : MethodName := ⟨RX3, "mirrorY", "(IIII)I"⟩
abbrev cX3_mirrorQuarter : ByteArray := prog_5_method_8_code
def yX3_mirrorQuarter : MethodName := ⟨RX3, "mirrorQuarter", "(II)I"⟩
abbrev cX3_touches : ByteArray := prog_5_method_9_code
def yX3_touches : MethodName := ⟨RX3, "touches", "(IIIII)Z"⟩
abbrev cX3_spot : ByteArray := prog_5_method_10_code
def yX3_spot : MethodName := ⟨RX3, "spot", "(III)I"⟩
def RX4 : String := "OneSnip$Pile"
def TX4 : u_T := fun k => match k with
  | 0 => ("OneSnip$Pile", "sheet", "LOneSnip$Sheet;", true)
  | 1 => ("OneSnip$Pile", "xs", "[I", true)
  | 2 => ("OneSnip$Pile", "ys", "[I", true)
  | 3 => ("OneSnip$Pile", "quarters", "[I", true)
  | 4 => ("OneSnip$Pile", "layers", "[I", true)
  | 5 => ("OneSnip$Pile", "ups", "[I", true)
  | 6 => ("OneSnip$Pile", "heights", "[I", true)
  | 7 => ("OneSnip$Pile", "sorts", "[I", true)
  | 8 => ("OneSnip$Pile", "ks", "[I", true)
  | 9 => ("OneSnip$Pile", "sides", "[I", true)
  | 10 => ("OneSnip$Pile", "overs", "[I", true)
  | _ => ("OneSnip$Pile", "made", "I", false)
def tyX4 : Nat → FieldType := fun k => match k with
  | 0 => .object "OneSnip$Sheet"
  | 1 => .array .int
  | 2 => .array .int
  | 3 => .array .int
  | 4 => .array .int
  | 5 => .array .int
  | 6 => .array .int
  | 7 => .array .int
  | 8 => .array .int
  | 9 => .array .int
  | 10 => .array .int
  | _ => .int
abbrev wsX40 : List Cond := u_ws RX4 TX4 12
theorem nmX4 : ∀ a, a < 12 → ∀ b, b < 12 → a ≠ b → (TX4 a).2.1 ≠ (TX4 b).2.1 := by decide +kernel
theorem tyX4_ok : ∀ k, k < 12 → parseFieldDescriptor (TX4 k).2.2.1 = some (tyX4 k) := by decide +kernel
abbrev cX4_init : ByteArray := prog_6_method_1_code
def yX4_init : MethodName := ⟨RX4, "<init>", "(LOneSnip$Sheet;)V"⟩
abbrev cX4_flatten : ByteArray := prog_6_method_2_code
def yX4_flatten : MethodName := ⟨RX4, "flatten", "()V"⟩
abbrev cX4_add : ByteArray := prog_6_method_3_code
def yX4_add : MethodName := ⟨RX4, "add", "(IIIZ)V"⟩
abbrev cX4_undo : ByteArray := prog_6_method_4_code
def yX4_undo : MethodName := ⟨RX4, "undo", "()V"⟩
abbrev cX4_spread : ByteArray := prog_6_method_5_code
def yX4_spread : MethodName := ⟨RX4, "spread", "()V"⟩
abbrev cX4_turn : ByteArray := prog_6_method_6_code
def yX4_turn : MethodName := ⟨RX4, "turn", "(IIIZ)V"⟩
abbrev cX4_layerBehind : ByteArray := prog_6_method_7_code
def yX4_layerBehind : MethodName := ⟨RX4, "layerBehind", "(IIIIZ)I"⟩
abbrev cX4_flip : ByteArray := prog_6_method_8_code
def yX4_flip : MethodName := ⟨RX4, "flip", "(III)V"⟩
abbrev cX4_measure : ByteArray := prog_6_method_9_code
def yX4_measure : MethodName := ⟨RX4, "measure", "()V"⟩
abbrev cX4_spot : ByteArray := prog_6_method_10_code
def yX4_spot : MethodName := ⟨RX4, "spot", "(I)I"⟩
abbrev cX4_mirrorSpot : ByteArray := prog_6_method_11_code
def yX4_mirrorSpot : MethodName := ⟨RX4, "mirrorSpot", "(III)I"⟩
abbrev cX4_x : ByteArray := prog_6_method_12_code
def yX4_x : MethodName := ⟨RX4, "x", "(I)I"⟩
abbrev cX4_y : ByteArray := prog_6_method_13_code
def yX4_y : MethodName := ⟨RX4, "y", "(I)I"⟩
abbrev cX4_quarter : ByteArray := prog_6_method_14_code
def yX4_quarter : MethodName := ⟨RX4, "quarter", "(I)I"⟩
abbrev cX4_layer : ByteArray := prog_6_method_15_code
def yX4_layer : MethodName := ⟨RX4, "layer", "(I)I"⟩
abbrev cX4_isUp : ByteArray := prog_6_method_16_code
def yX4_isUp : MethodName := ⟨RX4, "isUp", "(I)Z"⟩
abbrev cX4_heightOver : ByteArray := prog_6_method_17_code
def yX4_heightOver : MethodName := ⟨RX4, "heightOver", "(I)I"⟩
abbrev cX4_isOn : ByteArray := prog_6_method_18_code
def yX4_isOn : MethodName := ⟨RX4, "isOn", "(IIII)Z"⟩
abbrev cX4_lying : ByteArray := prog_6_method_19_code
def yX4_lying : MethodName := ⟨RX4, "lying", "(III)I"⟩
abbrev cX4_isCrossed : ByteArray := prog_6_method_20_code
def yX4_isCrossed : MethodName := ⟨RX4, "isCrossed", "(II)Z"⟩
abbrev cX4_find : ByteArray := prog_6_method_21_code
def yX4_find : MethodName := ⟨RX4, "find", "(IIII)I"⟩
abbrev cX4_taken : ByteArray := prog_6_method_22_code
def yX4_taken : MethodName := ⟨RX4, "taken", "()I"⟩
abbrev cX4_highest : ByteArray := prog_6_method_23_code
def yX4_highest : MethodName := ⟨RX4, "highest", "()I"⟩
abbrev cX4_heightOn : ByteArray := prog_6_method_24_code
def yX4_heightOn : MethodName := ⟨RX4, "heightOn", "(II)I"⟩
abbrev cX4_turnedDown : ByteArray := prog_6_method_25_code
def yX4_turnedDown : MethodName := ⟨RX4, "turnedDown", "()I"⟩
abbrev cX4_leastX : ByteArray := prog_6_method_26_code
def yX4_leastX : MethodName := ⟨RX4, "leastX", "()I"⟩
abbrev cX4_greatestX : ByteArray := prog_6_method_27_code
def yX4_greatestX : MethodName := ⟨RX4, "greatestX", "()I"⟩
abbrev cX4_leastY : ByteArray := prog_6_method_28_code
def yX4_leastY : MethodName := ⟨RX4, "leastY", "()I"⟩
abbrev cX4_greatestY : ByteArray := prog_6_method_29_code
def yX4_greatestY : MethodName := ⟨RX4, "greatestY", "()I"⟩
abbrev cX4_least : ByteArray := prog_6_method_30_code
def yX4_least : MethodName := ⟨RX4, "least", "([I)I"⟩
abbrev cX4_greatest : ByteArray := prog_6_method_31_code
def yX4_greatest : MethodName := ⟨RX4, "greatest", "([I)I"⟩
def RX5 : String := "OneSnip$Rows"
def TX5 : u_T := fun k => match k with
  | _ => ("", "", "", false)
def tyX5 : Nat → FieldType := fun k => match k with
  | _ => .int
abbrev wsX50 : List Cond := u_ws RX5 TX5 0
theorem nmX5 : ∀ a, a < 0 → ∀ b, b < 0 → a ≠ b → (TX5 a).2.1 ≠ (TX5 b).2.1 := by decide +kernel
theorem tyX5_ok : ∀ k, k < 0 → parseFieldDescriptor (TX5 k).2.2.1 = some (tyX5 k) := by decide +kernel
abbrev cX5_get : ByteArray := prog_7_method_2_code
def yX5_get : MethodName := ⟨RX5, "get", "([II)I"⟩
abbrev cX5_put : ByteArray := prog_7_method_3_code
def yX5_put : MethodName := ⟨RX5, "put", "([III)V"⟩
abbrev cX5_fill : ByteArray := prog_7_method_4_code
def yX5_fill : MethodName := ⟨RX5, "fill", "([II)V"⟩
def RX6 : String := "OneSnip$Search"
def TX6 : u_T := fun k => match k with
  | 0 => ("OneSnip$Search", "sheet", "LOneSnip$Sheet;", true)
  | 1 => ("OneSnip$Search", "figure", "LOneSnip$Figure;", true)
  | 2 => ("OneSnip$Search", "start", "LOneSnip$Layout;", true)
  | 3 => ("OneSnip$Search", "row", "[I", true)
  | 4 => ("OneSnip$Search", "first", "[I", true)
  | 5 => ("OneSnip$Search", "goal", "I", false)
  | 6 => ("OneSnip$Search", "counting", "Z", false)
  | 7 => ("OneSnip$Search", "rows", "I", false)
  | 8 => ("OneSnip$Search", "found", "I", false)
  | 9 => ("OneSnip$Search", "foundAt", "I", false)
  | 10 => ("OneSnip$Search", "spentAt", "I", false)
  | _ => ("OneSnip$Search", "tried", "I", false)
def tyX6 : Nat → FieldType := fun k => match k with
  | 0 => .object "OneSnip$Sheet"
  | 1 => .object "OneSnip$Figure"
  | 2 => .object "OneSnip$Layout"
  | 3 => .array .int
  | 4 => .array .int
  | 5 => .int
  | 6 => .boolean
  | 7 => .int
  | 8 => .int
  | 9 => .int
  | 10 => .int
  | _ => .int
abbrev wsX60 : List Cond := u_ws RX6 TX6 12
theorem nmX6 : ∀ a, a < 12 → ∀ b, b < 12 → a ≠ b → (TX6 a).2.1 ≠ (TX6 b).2.1 := by decide +kernel
theorem tyX6_ok : ∀ k, k < 12 → parseFieldDescriptor (TX6 k).2.2.1 = some (tyX6 k) := by decide +kernel
abbrev cX6_init : ByteArray := prog_8_method_1_code
def yX6_init : MethodName := ⟨RX6, "<init>", "(LOneSnip$Sheet;LOneSnip$Figure;)V"⟩
abbrev cX6_forget : ByteArray := prog_8_method_2_code
def yX6_forget : MethodName := ⟨RX6, "forget", "()V"⟩
abbrev cX6_solve : ByteArray := prog_8_method_3_code
def yX6_solve : MethodName := ⟨RX6, "solve", "(I)I"⟩
abbrev cX6_told : ByteArray := prog_8_method_4_code
def yX6_told : MethodName := ⟨RX6, "told", "(II)I"⟩
abbrev cX6_tryRows : ByteArray := prog_8_method_5_code
def yX6_tryRows : MethodName := ⟨RX6, "tryRows", "(I)V"⟩
abbrev cX6_lengthen : ByteArray := prog_8_method_6_code
def yX6_lengthen : MethodName := ⟨RX6, "lengthen", "(LOneSnip$Search;LOneSnip$Layout;I)V"⟩
abbrev cX6_weigh : ByteArray := prog_8_method_7_code
def yX6_weigh : MethodName := ⟨RX6, "weigh", "(LOneSnip$Layout;)V"⟩
abbrev cX6_tell : ByteArray := prog_8_method_8_code
def yX6_tell : MethodName := ⟨RX6, "tell", "(III)I"⟩
def RX7 : String := "OneSnip$Sheet"
def TX7 : u_T := fun k => match k with
  | 0 => ("OneSnip$Sheet", "xs", "[I", true)
  | 1 => ("OneSnip$Sheet", "ys", "[I", true)
  | 2 => ("OneSnip$Sheet", "besides", "[I", true)
  | 3 => ("OneSnip$Sheet", "size", "I", false)
  | _ => ("OneSnip$Sheet", "leaves", "I", false)
def tyX7 : Nat → FieldType := fun k => match k with
  | 0 => .array .int
  | 1 => .array .int
  | 2 => .array .int
  | 3 => .int
  | _ => .int
abbrev wsX70 : List Cond := u_ws RX7 TX7 5
theorem nmX7 : ∀ a, a < 5 → ∀ b, b < 5 → a ≠ b → (TX7 a).2.1 ≠ (TX7 b).2.1 := by decide +kernel
theorem tyX7_ok : ∀ k, k < 5 → parseFieldDescriptor (TX7 k).2.2.1 = some (tyX7 k) := by decide +kernel
abbrev cX7_init : ByteArray := prog_9_method_1_code
def yX7_init : MethodName := ⟨RX7, "<init>", "()V"⟩
abbrev cX7_resize : ByteArray := prog_9_method_2_code
def yX7_resize : MethodName := ⟨RX7, "resize", "(I)V"⟩
abbrev cX7_place : ByteArray := prog_9_method_3_code
def yX7_place : MethodName := ⟨RX7, "place", "(III)V"⟩
abbrev cX7_across : ByteArray := prog_9_method_4_code
def yX7_across : MethodName := ⟨RX7, "across", "(III)I"⟩
abbrev cX7_has : ByteArray := prog_9_method_5_code
def yX7_has : MethodName := ⟨RX7, "has", "(I)Z"⟩
abbrev cX7_hasCell : ByteArray := prog_9_method_6_code
def yX7_hasCell : MethodName := ⟨RX7, "hasCell", "(II)Z"⟩
abbrev cX7_hasPoint : ByteArray := prog_9_method_7_code
def yX7_hasPoint : MethodName := ⟨RX7, "hasPoint", "(IIZ)Z"⟩
abbrev cX7_leaf : ByteArray := prog_9_method_8_code
def yX7_leaf : MethodName := ⟨RX7, "leaf", "(III)I"⟩
abbrev cX7_x : ByteArray := prog_9_method_9_code
def yX7_x : MethodName := ⟨RX7, "x", "(I)I"⟩
abbrev cX7_y : ByteArray := prog_9_method_10_code
def yX7_y : MethodName := ⟨RX7, "y", "(I)I"⟩
abbrev cX7_quarter : ByteArray := prog_9_method_11_code
def yX7_quarter : MethodName := ⟨RX7, "quarter", "(I)I"⟩
abbrev cX7_distance : ByteArray := prog_9_method_12_code
def yX7_distance : MethodName := ⟨RX7, "distance", "(II)I"⟩
abbrev cX7_beside : ByteArray := prog_9_method_13_code
def yX7_beside : MethodName := ⟨RX7, "beside", "(II)I"⟩
def RX8 : String := "OneSnip$Snip"
def TX8 : u_T := fun k => match k with
  | 0 => ("OneSnip$Snip", "sheet", "LOneSnip$Sheet;", true)
  | 1 => ("OneSnip$Snip", "fell", "[I", true)
  | 2 => ("OneSnip$Snip", "leasts", "[I", true)
  | 3 => ("OneSnip$Snip", "queue", "[I", true)
  | 4 => ("OneSnip$Snip", "made", "Z", false)
  | _ => ("OneSnip$Snip", "fallen", "I", false)
def tyX8 : Nat → FieldType := fun k => match k with
  | 0 => .object "OneSnip$Sheet"
  | 1 => .array .int
  | 2 => .array .int
  | 3 => .array .int
  | 4 => .boolean
  | _ => .int
abbrev wsX80 : List Cond := u_ws RX8 TX8 6
theorem nmX8 : ∀ a, a < 6 → ∀ b, b < 6 → a ≠ b → (TX8 a).2.1 ≠ (TX8 b).2.1 := by decide +kernel
theorem tyX8_ok : ∀ k, k < 6 → parseFieldDescriptor (TX8 k).2.2.1 = some (tyX8 k) := by decide +kernel
abbrev cX8_init : ByteArray := prog_10_method_1_code
def yX8_init : MethodName := ⟨RX8, "<init>", "(LOneSnip$Sheet;)V"⟩
abbrev cX8_mend : ByteArray := prog_10_method_2_code
def yX8_mend : MethodName := ⟨RX8, "mend", "()V"⟩
abbrev cX8_drop : ByteArray := prog_10_method_3_code
def yX8_drop : MethodName := ⟨RX8, "drop", "(LOneSnip$Pile;III)V"⟩
abbrev cX8_isDown : ByteArray := prog_10_method_4_code
def yX8_isDown : MethodName := ⟨RX8, "isDown", "(I)Z"⟩
abbrev cX8_leastOf : ByteArray := prog_10_method_5_code
def yX8_leastOf : MethodName := ⟨RX8, "leastOf", "(I)I"⟩
abbrev cX8_part : ByteArray := prog_10_method_6_code
def yX8_part : MethodName := ⟨RX8, "part", "()V"⟩
abbrev cX8_gather : ByteArray := prog_10_method_7_code
def yX8_gather : MethodName := ⟨RX8, "gather", "(I)V"⟩
abbrev cX8_total : ByteArray := prog_10_method_8_code
def yX8_total : MethodName := ⟨RX8, "total", "(Z)I"⟩
abbrev cX8_inner : ByteArray := prog_10_method_9_code
def yX8_inner : MethodName := ⟨RX8, "inner", "()I"⟩
abbrev cX8_reachesOut : ByteArray := prog_10_method_10_code
def yX8_reachesOut : MethodName := ⟨RX8, "reachesOut", "(I)Z"⟩
abbrev cX8_border : ByteArray := prog_10_method_11_code
def yX8_border : MethodName := ⟨RX8, "border", "(I)I"⟩
def RX9 : String := "OneSnip"
def TX9 : u_T := fun k => match k with
  | 0 => ("OneSnip", "sheet", "LOneSnip$Sheet;", true)
  | 1 => ("OneSnip", "pile", "LOneSnip$Pile;", true)
  | 2 => ("OneSnip", "creases", "LOneSnip$Creases;", true)
  | 3 => ("OneSnip", "snip", "LOneSnip$Snip;", true)
  | 4 => ("OneSnip", "figure", "LOneSnip$Figure;", true)
  | 5 => ("OneSnip", "search", "LOneSnip$Search;", true)
  | _ => ("OneSnip", "knife", "I", false)
def tyX9 : Nat → FieldType := fun k => match k with
  | 0 => .object "OneSnip$Sheet"
  | 1 => .object "OneSnip$Pile"
  | 2 => .object "OneSnip$Creases"
  | 3 => .object "OneSnip$Snip"
  | 4 => .object "OneSnip$Figure"
  | 5 => .object "OneSnip$Search"
  | _ => .int
abbrev wsX90 : List Cond := u_ws RX9 TX9 7
theorem nmX9 : ∀ a, a < 7 → ∀ b, b < 7 → a ≠ b → (TX9 a).2.1 ≠ (TX9 b).2.1 := by decide +kernel
theorem tyX9_ok : ∀ k, k < 7 → parseFieldDescriptor (TX9 k).2.2.1 = some (tyX9 k) := by decide +kernel
abbrev cX9_init : ByteArray := prog_1_method_1_code
def yX9_init : MethodName := ⟨RX9, "<init>", "()V"⟩
abbrev cX9_sheet : ByteArray := prog_1_method_2_code
def yX9_sheet : MethodName := ⟨RX9, "sheet", "(I)I"⟩
abbrev cX9_fold : ByteArray := prog_1_method_3_code
def yX9_fold : MethodName := ⟨RX9, "fold", "(IIIZ)I"⟩
abbrev cX9_unfold : ByteArray := prog_1_method_4_code
def yX9_unfold : MethodName := ⟨RX9, "unfold", "()I"⟩
abbrev cX9_facet : ByteArray := prog_1_method_5_code
def yX9_facet : MethodName := ⟨RX9, "facet", "(II)I"⟩
abbrev cX9_at : ByteArray := prog_1_method_6_code
def yX9_at : MethodName := ⟨RX9, "at", "(IIII)I"⟩
abbrev cX9_places : ByteArray := prog_1_method_7_code
def yX9_places : MethodName := ⟨RX9, "places", "()I"⟩
abbrev cX9_deepest : ByteArray := prog_1_method_8_code
def yX9_deepest : MethodName := ⟨RX9, "deepest", "()I"⟩
abbrev cX9_reach : ByteArray := prog_1_method_9_code
def yX9_reach : MethodName := ⟨RX9, "reach", "(I)I"⟩
abbrev cX9_folds : ByteArray := prog_1_method_10_code
def yX9_folds : MethodName := ⟨RX9, "folds", "()I"⟩
abbrev cX9_crease : ByteArray := prog_1_method_11_code
def yX9_crease : MethodName := ⟨RX9, "crease", "(II)I"⟩
abbrev cX9_neighbour : ByteArray := prog_1_method_12_code
def yX9_neighbour : MethodName := ⟨RX9, "neighbour", "(II)I"⟩
abbrev cX9_creases : ByteArray := prog_1_method_13_code
def yX9_creases : MethodName := ⟨RX9, "creases", "(Z)I"⟩
abbrev cX9_balance : ByteArray := prog_1_method_14_code
def yX9_balance : MethodName := ⟨RX9, "balance", "(IIZ)I"⟩
abbrev cX9_degree : ByteArray := prog_1_method_15_code
def yX9_degree : MethodName := ⟨RX9, "degree", "(IIZ)I"⟩
abbrev cX9_knife : ByteArray := prog_1_method_16_code
def yX9_knife : MethodName := ⟨RX9, "knife", "(I)I"⟩
abbrev cX9_thickness : ByteArray := prog_1_method_17_code
def yX9_thickness : MethodName := ⟨RX9, "thickness", "(II)I"⟩
abbrev cX9_would : ByteArray := prog_1_method_18_code
def yX9_would : MethodName := ⟨RX9, "would", "(III)I"⟩
abbrev cX9_cut : ByteArray := prog_1_method_19_code
def yX9_cut : MethodName := ⟨RX9, "cut", "(III)I"⟩
abbrev cX9_pieces : ByteArray := prog_1_method_20_code
def yX9_pieces : MethodName := ⟨RX9, "pieces", "(Z)I"⟩
abbrev cX9_holes : ByteArray := prog_1_method_21_code
def yX9_holes : MethodName := ⟨RX9, "holes", "()I"⟩
abbrev cX9_rims : ByteArray := prog_1_method_22_code
def yX9_rims : MethodName := ⟨RX9, "rims", "(Z)I"⟩
abbrev cX9_piece : ByteArray := prog_1_method_23_code
def yX9_piece : MethodName := ⟨RX9, "piece", "(I)I"⟩
abbrev cX9_mark : ByteArray := prog_1_method_24_code
def yX9_mark : MethodName := ⟨RX9, "mark", "(IZ)I"⟩
abbrev cX9_markCell : ByteArray := prog_1_method_25_code
def yX9_markCell : MethodName := ⟨RX9, "markCell", "(IIZ)I"⟩
abbrev cX9_take : ByteArray := prog_1_method_26_code
def yX9_take : MethodName := ⟨RX9, "take", "()I"⟩
abbrev cX9_same : ByteArray := prog_1_method_27_code
def yX9_same : MethodName := ⟨RX9, "same", "()I"⟩
abbrev cX9_mirror : ByteArray := prog_1_method_28_code
def yX9_mirror : MethodName := ⟨RX9, "mirror", "(II)I"⟩
abbrev cX9_mirrors : ByteArray := prog_1_method_29_code
def yX9_mirrors : MethodName := ⟨RX9, "mirrors", "()I"⟩
abbrev cX9_fewest : ByteArray := prog_1_method_30_code
def yX9_fewest : MethodName := ⟨RX9, "fewest", "(I)I"⟩
abbrev cX9_way : ByteArray := prog_1_method_31_code
def yX9_way : MethodName := ⟨RX9, "way", "(II)I"⟩
abbrev cX9_ways : ByteArray := prog_1_method_32_code
def yX9_ways : MethodName := ⟨RX9, "ways", "(I)I"⟩
abbrev cX9_count : ByteArray := prog_1_method_33_code
def yX9_count : MethodName := ⟨RX9, "count", "(I)I"⟩
abbrev cX9_begin : ByteArray := prog_1_method_34_code
def yX9_begin : MethodName := ⟨RX9, "begin", "(I)V"⟩
abbrev cX9_draw : ByteArray := prog_1_method_35_code
def yX9_draw : MethodName := ⟨RX9, "draw", "(IZ)V"⟩
abbrev cX9_yes : ByteArray := prog_1_method_36_code
def yX9_yes : MethodName := ⟨RX9, "yes", "(Z)I"⟩
abbrev cX9_isEdge : ByteArray := prog_1_method_37_code
def yX9_isEdge : MethodName := ⟨RX9, "isEdge", "(I)Z"⟩
abbrev cX9_isWayLength : ByteArray := prog_1_method_38_code
def yX9_isWayLength : MethodName := ⟨RX9, "isWayLength", "(I)Z"⟩
def RX10 : String := "OneSnipModel"
def TX10 : u_T := fun k => match k with
  | 0 => ("OneSnipModel", "thrown", "I", false)
  | 1 => ("OneSnipModel", "n", "I", false)
  | 2 => ("OneSnipModel", "cx", "[I", true)
  | 3 => ("OneSnipModel", "cy", "[I", true)
  | 4 => ("OneSnipModel", "quarter", "[I", true)
  | 5 => ("OneSnipModel", "layer", "[I", true)
  | 6 => ("OneSnipModel", "isUp", "[Z", true)
  | 7 => ("OneSnipModel", "crease", "[I", true)
  | 8 => ("OneSnipModel", "folds", "I", false)
  | 9 => ("OneSnipModel", "wasX", "[I", true)
  | 10 => ("OneSnipModel", "wasY", "[I", true)
  | 11 => ("OneSnipModel", "wasQuarter", "[I", true)
  | 12 => ("OneSnipModel", "wasLayer", "[I", true)
  | 13 => ("OneSnipModel", "wasUp", "[Z", true)
  | 14 => ("OneSnipModel", "wasCrease", "[I", true)
  | 15 => ("OneSnipModel", "moves", "[Z", true)
  | 16 => ("OneSnipModel", "knife", "I", false)
  | 17 => ("OneSnipModel", "isCut", "Z", false)
  | 18 => ("OneSnipModel", "fell", "[Z", true)
  | 19 => ("OneSnipModel", "figure", "[Z", true)
  | 20 => ("OneSnipModel", "part", "[I", true)
  | 21 => ("OneSnipModel", "lx", "[I", true)
  | 22 => ("OneSnipModel", "ly", "[I", true)
  | 23 => ("OneSnipModel", "lq", "[I", true)
  | 24 => ("OneSnipModel", "mark", "[I", true)
  | 25 => ("OneSnipModel", "stamp", "I", false)
  | 26 => ("OneSnipModel", "low", "[I", true)
  | 27 => ("OneSnipModel", "high", "[I", true)
  | 28 => ("OneSnipModel", "at", "[I", true)
  | 29 => ("OneSnipModel", "first", "[I", true)
  | 30 => ("OneSnipModel", "rows", "I", false)
  | 31 => ("OneSnipModel", "found", "I", false)
  | 32 => ("OneSnipModel", "newX", "I", false)
  | 33 => ("OneSnipModel", "newY", "I", false)
  | _ => ("OneSnipModel", "newQuarter", "I", false)
def tyX10 : Nat → FieldType := fun k => match k with
  | 0 => .int
  | 1 => .int
  | 2 => .array .int
  | 3 => .array .int
  | 4 => .array .int
  | 5 => .array .int
  | 6 => .array .boolean
  | 7 => .array .int
  | 8 => .int
  | 9 => .array .int
  | 10 => .array .int
  | 11 => .array .int
  | 12 => .array .int
  | 13 => .array .boolean
  | 14 => .array .int
  | 15 => .array .boolean
  | 16 => .int
  | 17 => .boolean
  | 18 => .array .boolean
  | 19 => .array .boolean
  | 20 => .array .int
  | 21 => .array .int
  | 22 => .array .int
  | 23 => .array .int
  | 24 => .array .int
  | 25 => .int
  | 26 => .array .int
  | 27 => .array .int
  | 28 => .array .int
  | 29 => .array .int
  | 30 => .int
  | 31 => .int
  | 32 => .int
  | 33 => .int
  | _ => .int
abbrev wsX100 : List Cond := u_ws RX10 TX10 35
theorem nmX10 : ∀ a, a < 35 → ∀ b, b < 35 → a ≠ b → (TX10 a).2.1 ≠ (TX10 b).2.1 := by decide +kernel
theorem tyX10_ok : ∀ k, k < 35 → parseFieldDescriptor (TX10 k).2.2.1 = some (tyX10 k) := by decide +kernel
abbrev cX10_init : ByteArray := prog_12_method_1_code
def yX10_init : MethodName := ⟨RX10, "<init>", "()V"⟩
abbrev cX10_in : ByteArray := prog_12_method_3_code
def yX10_in : MethodName := ⟨RX10, "in", "(JJJ)Z"⟩
abbrev cX10_facets : ByteArray := prog_12_method_4_code
def yX10_facets : MethodName := ⟨RX10, "facets", "()I"⟩
abbrev cX10_noFacet : ByteArray := prog_12_method_5_code
def yX10_noFacet : MethodName := ⟨RX10, "noFacet", "(I)Z"⟩
abbrev cX10_noLine : ByteArray := prog_12_method_6_code
def yX10_noLine : MethodName := ⟨RX10, "noLine", "(II)Z"⟩
abbrev cX10_begin : ByteArray := prog_12_method_7_code
def yX10_begin : MethodName := ⟨RX10, "begin", "(I)V"⟩
abbrev cX10_along : ByteArray := prog_12_method_8_code
def yX10_along : MethodName := ⟨RX10, "along", "(IIII)I"⟩
abbrev cX10_sideOf : ByteArray := prog_12_method_9_code
def yX10_sideOf : MethodName := ⟨RX10, "sideOf", "(IIIII)I"⟩
abbrev cX10_turn : ByteArray := prog_12_method_10_code
def yX10_turn : MethodName := ⟨RX10, "turn", "(IIIII)V"⟩
abbrev cX10_isThere : ByteArray := prog_12_method_11_code
def yX10_isThere : MethodName := ⟨RX10, "isThere", "(IIII)Z"⟩
abbrev cX10_deepOf : ByteArray := prog_12_method_12_code
def yX10_deepOf : MethodName := ⟨RX10, "deepOf", "(III)I"⟩
abbrev cX10_placesOf : ByteArray := prog_12_method_13_code
def yX10_placesOf : MethodName := ⟨RX10, "placesOf", "()I"⟩
abbrev cX10_nextTo : ByteArray := prog_12_method_14_code
def yX10_nextTo : MethodName := ⟨RX10, "nextTo", "(II)I"⟩
abbrev cX10_sheet : ByteArray := prog_12_method_15_code
def yX10_sheet : MethodName := ⟨RX10, "sheet", "(I)I"⟩
abbrev cX10_keep : ByteArray := prog_12_method_16_code
def yX10_keep : MethodName := ⟨RX10, "keep", "()V"⟩
abbrev cX10_fold : ByteArray := prog_12_method_17_code
def yX10_fold : MethodName := ⟨RX10, "fold", "(IIIZ)I"⟩
abbrev cX10_unfold : ByteArray := prog_12_method_18_code
def yX10_unfold : MethodName := ⟨RX10, "unfold", "()I"⟩
abbrev cX10_facet : ByteArray := prog_12_method_19_code
def yX10_facet : MethodName := ⟨RX10, "facet", "(II)I"⟩
abbrev cX10_at : ByteArray := prog_12_method_20_code
def yX10_at : MethodName := ⟨RX10, "at", "(IIII)I"⟩
abbrev cX10_places : ByteArray := prog_12_method_21_code
def yX10_places : MethodName := ⟨RX10, "places", "()I"⟩
abbrev cX10_deepest : ByteArray := prog_12_method_22_code
def yX10_deepest : MethodName := ⟨RX10, "deepest", "()I"⟩
abbrev cX10_reach : ByteArray := prog_12_method_23_code
def yX10_reach : MethodName := ⟨RX10, "reach", "(I)I"⟩
abbrev cX10_folds : ByteArray := prog_12_method_24_code
def yX10_folds : MethodName := ⟨RX10, "folds", "()I"⟩
abbrev cX10_crease : ByteArray := prog_12_method_25_code
def yX10_crease : MethodName := ⟨RX10, "crease", "(II)I"⟩
abbrev cX10_neighbour : ByteArray := prog_12_method_26_code
def yX10_neighbour : MethodName := ⟨RX10, "neighbour", "(II)I"⟩
abbrev cX10_creases : ByteArray := prog_12_method_27_code
def yX10_creases : MethodName := ⟨RX10, "creases", "(Z)I"⟩
abbrev cX10_slant : ByteArray := prog_12_method_28_code
def yX10_slant : MethodName := ⟨RX10, "slant", "(III)I"⟩
abbrev cX10_outer : ByteArray := prog_12_method_29_code
def yX10_outer : MethodName := ⟨RX10, "outer", "(III)I"⟩
abbrev cX10_ends : ByteArray := prog_12_method_30_code
def yX10_ends : MethodName := ⟨RX10, "ends", "(IIZI)I"⟩
abbrev cX10_noPoint : ByteArray := prog_12_method_31_code
def yX10_noPoint : MethodName := ⟨RX10, "noPoint", "(IIZ)Z"⟩
abbrev cX10_balance : ByteArray := prog_12_method_32_code
def yX10_balance : MethodName := ⟨RX10, "balance", "(IIZ)I"⟩
abbrev cX10_degree : ByteArray := prog_12_method_33_code
def yX10_degree : MethodName := ⟨RX10, "degree", "(IIZ)I"⟩
abbrev cX10_knife : ByteArray := prog_12_method_34_code
def yX10_knife : MethodName := ⟨RX10, "knife", "(I)I"⟩
abbrev cX10_touches : ByteArray := prog_12_method_35_code
def yX10_touches : MethodName := ⟨RX10, "touches", "(III)Z"⟩
abbrev cX10_thickOf : ByteArray := prog_12_method_36_code
def yX10_thickOf : MethodName := ⟨RX10, "thickOf", "(II)I"⟩
abbrev cX10_thickness : ByteArray := prog_12_method_37_code
def yX10_thickness : MethodName := ⟨RX10, "thickness", "(II)I"⟩
abbrev cX10_fallsOf : ByteArray := prog_12_method_38_code
def yX10_fallsOf : MethodName := ⟨RX10, "fallsOf", "(III)I"⟩
abbrev cX10_would : ByteArray := prog_12_method_39_code
def yX10_would : MethodName := ⟨RX10, "would", "(III)I"⟩
abbrev cX10_cut : ByteArray := prog_12_method_40_code
def yX10_cut : MethodName := ⟨RX10, "cut", "(III)I"⟩
abbrev cX10_hang : ByteArray := prog_12_method_41_code
def yX10_hang : MethodName := ⟨RX10, "hang", "()V"⟩
abbrev cX10_pieces : ByteArray := prog_12_method_42_code
def yX10_pieces : MethodName := ⟨RX10, "pieces", "(Z)I"⟩
abbrev cX10_holes : ByteArray := prog_12_method_43_code
def yX10_holes : MethodName := ⟨RX10, "holes", "()I"⟩
abbrev cX10_rims : ByteArray := prog_12_method_44_code
def yX10_rims : MethodName := ⟨RX10, "rims", "(Z)I"⟩
abbrev cX10_piece : ByteArray := prog_12_method_45_code
def yX10_piece : MethodName := ⟨RX10, "piece", "(I)I"⟩
abbrev cX10_marked : ByteArray := prog_12_method_46_code
def yX10_marked : MethodName := ⟨RX10, "marked", "()I"⟩
abbrev cX10_mark : ByteArray := prog_12_method_47_code
def yX10_mark : MethodName := ⟨RX10, "mark", "(IZ)I"⟩
abbrev cX10_markCell : ByteArray := prog_12_method_48_code
def yX10_markCell : MethodName := ⟨RX10, "markCell", "(IIZ)I"⟩
abbrev cX10_take : ByteArray := prog_12_method_49_code
def yX10_take : MethodName := ⟨RX10, "take", "()I"⟩
abbrev cX10_same : ByteArray := prog_12_method_50_code
def yX10_same : MethodName := ⟨RX10, "same", "()I"⟩
abbrev cX10_isMirror : ByteArray := prog_12_method_51_code
def yX10_isMirror : MethodName := ⟨RX10, "isMirror", "(II)Z"⟩
abbrev cX10_mirror : ByteArray := prog_12_method_52_code
def yX10_mirror : MethodName := ⟨RX10, "mirror", "(II)I"⟩
abbrev cX10_mirrors : ByteArray := prog_12_method_53_code
def yX10_mirrors : MethodName := ⟨RX10, "mirrors", "()I"⟩
abbrev cX10_measure : ByteArray := prog_12_method_54_code
def yX10_measure : MethodName := ⟨RX10, "measure", "(I)V"⟩
abbrev cX10_goes : ByteArray := prog_12_method_55_code
def yX10_goes : MethodName := ⟨RX10, "goes", "(II)Z"⟩
abbrev cX10_cuts : ByteArray := prog_12_method_56_code
def yX10_cuts : MethodName := ⟨RX10, "cuts", "(I)I"⟩
abbrev cX10_goThrough : ByteArray := prog_12_method_57_code
def yX10_goThrough : MethodName := ⟨RX10, "goThrough", "(I)Z"⟩
abbrev cX10_look : ByteArray := prog_12_method_58_code
def yX10_look : MethodName := ⟨RX10, "look", "(I)I"⟩
abbrev cX10_fewest : ByteArray := prog_12_method_59_code
def yX10_fewest : MethodName := ⟨RX10, "fewest", "(I)I"⟩
abbrev cX10_way : ByteArray := prog_12_method_60_code
def yX10_way : MethodName := ⟨RX10, "way", "(II)I"⟩
abbrev cX10_ways : ByteArray := prog_12_method_61_code
def yX10_ways : MethodName := ⟨RX10, "ways", "(I)I"⟩
abbrev cX10_count : ByteArray := prog_12_method_62_code
def yX10_count : MethodName := ⟨RX10, "count", "(I)I"⟩
def RJ9 : String := "java/lang/Math"
def TJ9 : u_T := fun k => match k with
  | _ => ("", "", "", false)
def tyJ9 : Nat → FieldType := fun k => match k with
  | _ => .int
abbrev wsJ90 : List Cond := u_ws RJ9 TJ9 0
theorem nmJ9 : ∀ a, a < 0 → ∀ b, b < 0 → a ≠ b → (TJ9 a).2.1 ≠ (TJ9 b).2.1 := by decide +kernel
theorem tyJ9_ok : ∀ k, k < 0 → parseFieldDescriptor (TJ9 k).2.2.1 = some (tyJ9 k) := by decide +kernel
abbrev cJ9_abs_0f7a4 : ByteArray := prog_13_method_59_code
def yJ9_abs_0f7a4 : MethodName := ⟨RJ9, "abs", "(I)I"⟩
abbrev cJ9_max_7cf53 : ByteArray := prog_13_method_65_code
def yJ9_max_7cf53 : MethodName := ⟨RJ9, "max", "(II)I"⟩
abbrev cJ9_min_7cf53 : ByteArray := prog_13_method_69_code
def yJ9_min_7cf53 : MethodName := ⟨RJ9, "min", "(II)I"⟩
def RJ7 : String := "java/util/Arrays"
def TJ7 : u_T := fun k => match k with
  | _ => ("", "", "", false)
def tyJ7 : Nat → FieldType := fun k => match k with
  | _ => .int
abbrev wsJ70 : List Cond := u_ws RJ7 TJ7 0
theorem nmJ7 : ∀ a, a < 0 → ∀ b, b < 0 → a ≠ b → (TJ7 a).2.1 ≠ (TJ7 b).2.1 := by decide +kernel
theorem tyJ7_ok : ∀ k, k < 0 → parseFieldDescriptor (TJ7 k).2.2.1 = some (tyJ7 k) := by decide +kernel
abbrev cJ7_fill_53178 : ByteArray := prog_14_method_103_code
def yJ7_fill_53178 : MethodName := ⟨RJ7, "fill", "([II)V"⟩
def RL : String := "OneSnipLaw"
abbrev cL_law : ByteArray := code
def yL_law : MethodName := ⟨RL, "law", "([I)Z"⟩
abbrev vwCl : List vw_C := [(RX0, TX0, 2), (RX1, TX1, 3), (RX2, TX2, 10), (RX4, TX4, 12), (RX6, TX6, 12), (RX7, TX7, 5), (RX8, TX8, 6), (RX9, TX9, 7), (RX10, TX10, 35)]
theorem dX0_init_0 : decode cX0_init 0 = .ok (.aload_n 0, 1) := by decide +kernel
theorem dX0_init_1 : decode cX0_init 1 = .ok (.invokespecial 3, 3) := by decide +kernel
theorem dX0_init_4 : decode cX0_init 4 = .ok (.aload_n 0, 1) := by decide +kernel
theorem dX0_init_5 : decode cX0_init 5 = .ok (.aload_n 1, 1) := by decide +kernel
theorem dX0_init_6 : decode cX0_init 6 = .ok (.putfield 9, 3) := by decide +kernel
theorem dX0_init_9 : decode cX0_init 9 = .ok (.aload_n 0, 1) := by decide +kernel
theorem dX0_init_10 : decode cX0_init 10 = .ok (.aload_n 2, 1) := by decide +kernel
theorem dX0_init_11 : decode cX0_init 11 = .ok (.putfield 15, 3) := by decide +kernel
theorem dX0_init_14 : decode cX0_init 14 = .ok (.return_, 1) := by decide +kernel
theorem dX0_kind_0 : decode cX0_kind 0 = .ok (.aload_n 0, 1) := by decide +kernel
theorem dX0_kind_1 : decode cX0_kind 1 = .ok (.getfield 9, 3) := by decide +kernel
theorem dX0_kind_4 : decode cX0_kind 4 = .ok (.iload_n 1, 1) := by decide +kernel
theorem dX0_kind_5 : decode cX0_kind 5 = .ok (.iload_n 2, 1) := by decide +kernel
theorem dX0_kind_6 : decode cX0_kind 6 = .ok (.invokevirtual 19, 3) := by decide +kernel
theorem dX0_kind_9 : decode cX0_kind 9 = .ok (.istore_n 3, 1) := by decide +kernel
theorem dX0_kind_10 : decode cX0_kind 10 = .ok (.iload_n 3, 1) := by decide +kernel
theorem dX0_kind_11 : decode cX0_kind 11 = .ok (.ldc 25, 2) := by decide +kernel
theorem dX0_kind_13 : decode cX0_kind 13 = .ok (.if_icmp .ne 6, 3) := by decide +kernel
theorem dX0_kind_16 : decode cX0_kind 16 = .ok (.ldc 25, 2) := by decide +kernel
theorem dX0_kind_18 : decode cX0_kind 18 = .ok (.ireturn, 1) := by decide +kernel
theorem dX0_kind_19 : decode cX0_kind 19 = .ok (.aload_n 0, 1) := by decide +kernel
theorem dX0_kind_20 : decode cX0_kind 20 = .ok (.getfield 15, 3) := by decide +kernel
theorem dX0_kind_23 : decode cX0_kind 23 = .ok (.iload_n 1, 1) := by decide +kernel
theorem dX0_kind_24 : decode cX0_kind 24 = .ok (.invokevirtual 26, 3) := by decide +kernel
theorem dX0_kind_27 : decode cX0_kind 27 = .ok (.aload_n 0, 1) := by decide +kernel
theorem dX0_kind_28 : decode cX0_kind 28 = .ok (.getfield 15, 3) := by decide +kernel
theorem dX0_kind_31 : decode cX0_kind 31 = .ok (.iload_n 3, 1) := by decide +kernel
theorem dX0_kind_32 : decode cX0_kind 32 = .ok (.invokevirtual 26, 3) := by decide +kernel
theorem dX0_kind_35 : decode cX0_kind 35 = .ok (.if_icmp .ne 5, 3) := by decide +kernel
theorem dX0_kind_38 : decode cX0_kind 38 = .ok (.iconst 0, 1) := by decide +kernel
theorem dX0_kind_39 : decode cX0_kind 39 = .ok (.ireturn, 1) := by decide +kernel
theorem dX0_kind_40 : decode cX0_kind 40 = .ok (.aload_n 0, 1) := by decide +kernel
theorem dX0_kind_41 : decode cX0_kind 41 = .ok (.getfield 15, 3) := by decide +kernel
theorem dX0_kind_44 : decode cX0_kind 44 = .ok (.iload_n 1, 1) := by decide +kernel
theorem dX0_kind_45 : decode cX0_kind 45 = .ok (.invokevirtual 32, 3) := by decide +kernel
theorem dX0_kind_48 : decode cX0_kind 48 = .ok (.aload_n 0, 1) := by decide +kernel
theorem dX0_kind_49 : decode cX0_kind 49 = .ok (.getfield 15, 3) := by decide +kernel
theorem dX0_kind_52 : decode cX0_kind 52 = .ok (.iload_n 3, 1) := by decide +kernel
theorem dX0_kind_53 : decode cX0_kind 53 = .ok (.invokevirtual 32, 3) := by decide +kernel
theorem dX0_kind_56 : decode cX0_kind 56 = .ok (.if_icmp .ge 7, 3) := by decide +kernel
theorem dX0_kind_59 : decode cX0_kind 59 = .ok (.iload_n 1, 1) := by decide +kernel
theorem dX0_kind_60 : decode cX0_kind 60 = .ok (.goto 4, 3) := by decide +kernel
theorem dX0_kind_63 : decode cX0_kind 63 = .ok (.iload_n 3, 1) := by decide +kernel
theorem dX0_kind_64 : decode cX0_kind 64 = .ok (.istore 4, 2) := by decide +kernel
theorem dX0_kind_66 : decode cX0_kind 66 = .ok (.aload_n 0, 1) := by decide +kernel
theorem dX0_kind_67 : decode cX0_kind 67 = .ok (.getfield 15, 3) := by decide +kernel
theorem dX0_kind_70 : decode cX0_kind 70 = .ok (.iload 4, 2) := by decide +kernel
theorem dX0_kind_72 : decode cX0_kind 72 = .ok (.invokevirtual 26, 3) := by decide +kernel
theorem dX0_kind_75 : decode cX0_kind 75 = .ok (.ifCond .eq 7, 3) := by decide +kernel
theorem dX0_kind_78 : decode cX0_kind 78 = .ok (.iconst 1, 1) := by decide +kernel
theorem dX0_kind_79 : decode cX0_kind 79 = .ok (.goto 4, 3) := by decide +kernel
theorem dX0_kind_82 : decode cX0_kind 82 = .ok (.iconst 2, 1) := by decide +kernel
theorem dX0_kind_83 : decode cX0_kind 83 = .ok (.ireturn, 1) := by decide +kernel
theorem dX0_total_0 : decode cX0_total 0 = .ok (.iconst 0, 1) := by decide +kernel
theorem dX0_total_1 : decode cX0_total 1 = .ok (.istore_n 2, 1) := by decide +kernel
theorem dX0_total_2 : decode cX0_total 2 = .ok (.iconst 0, 1) := by decide +kernel
theorem dX0_total_3 : decode cX0_total 3 = .ok (.istore_n 3, 1) := by decide +kernel
theorem dX0_total_4 : decode cX0_total 4 = .ok (.iload_n 3, 1) := by decide +kernel
theorem dX0_total_5 : decode cX0_total 5 = .ok (.aload_n 0, 1) := by decide +kernel
theorem dX0_total_6 : decode cX0_total 6 = .ok (.getfield 9, 3) := by decide +kernel
theorem dX0_total_9 : decode cX0_total 9 = .ok (.getfield 36, 3) := by decide +kernel
theorem dX0_total_12 : decode cX0_total 12 = .ok (.if_icmp .ge 56, 3) := by decide +kernel
theorem dX0_total_15 : decode cX0_total 15 = .ok (.iconst 0, 1) := by decide +kernel
theorem dX0_total_16 : decode cX0_total 16 = .ok (.istore 4, 2) := by decide +kernel
theorem dX0_total_18 : decode cX0_total 18 = .ok (.iload 4, 2) := by decide +kernel
theorem dX0_total_20 : decode cX0_total 20 = .ok (.iconst 3, 1) := by decide +kernel
theorem dX0_total_21 : decode cX0_total 21 = .ok (.if_icmp .ge 41, 3) := by decide +kernel
theorem dX0_total_24 : decode cX0_total 24 = .ok (.iload_n 2, 1) := by decide +kernel
theorem dX0_total_25 : decode cX0_total 25 = .ok (.aload_n 0, 1) := by decide +kernel
theorem dX0_total_26 : decode cX0_total 26 = .ok (.iload_n 3, 1) := by decide +kernel
theorem dX0_total_27 : decode cX0_total 27 = .ok (.iload 4, 2) := by decide +kernel
theorem dX0_total_29 : decode cX0_total 29 = .ok (.invokevirtual 40, 3) := by decide +kernel
theorem dX0_total_32 : decode cX0_total 32 = .ok (.ifCond .eq 18, 3) := by decide +kernel
theorem dX0_total_35 : decode cX0_total 35 = .ok (.aload_n 0, 1) := by decide +kernel
theorem dX0_total_36 : decode cX0_total 36 = .ok (.iload_n 3, 1) := by decide +kernel
theorem dX0_total_37 : decode cX0_total 37 = .ok (.iload 4, 2) := by decide +kernel
theorem dX0_total_39 : decode cX0_total 39 = .ok (.invokevirtual 44, 3) := by decide +kernel
theorem dX0_total_42 : decode cX0_total 42 = .ok (.iload_n 1, 1) := by decide +kernel
theorem dX0_total_43 : decode cX0_total 43 = .ok (.if_icmp .ne 7, 3) := by decide +kernel
theorem dX0_total_46 : decode cX0_total 46 = .ok (.iconst 1, 1) := by decide +kernel
theorem dX0_total_47 : decode cX0_total 47 = .ok (.goto 4, 3) := by decide +kernel
theorem dX0_total_50 : decode cX0_total 50 = .ok (.iconst 0, 1) := by decide +kernel
theorem dX0_total_51 : decode cX0_total 51 = .ok (.invokestatic 47, 3) := by decide +kernel
theorem dX0_total_54 : decode cX0_total 54 = .ok (.iadd, 1) := by decide +kernel
theorem dX0_total_55 : decode cX0_total 55 = .ok (.istore_n 2, 1) := by decide +kernel
theorem dX0_total_56 : decode cX0_total 56 = .ok (.iinc 4 1, 3) := by decide +kernel
theorem dX0_total_59 : decode cX0_total 59 = .ok (.goto (-41), 3) := by decide +kernel
theorem dX0_total_62 : decode cX0_total 62 = .ok (.iinc 3 1, 3) := by decide +kernel
theorem dX0_total_65 : decode cX0_total 65 = .ok (.goto (-61), 3) := by decide +kernel
theorem dX0_total_68 : decode cX0_total 68 = .ok (.iload_n 2, 1) := by decide +kernel
theorem dX0_total_69 : decode cX0_total 69 = .ok (.ireturn, 1) := by decide +kernel
theorem dX0_ending_0 : decode cX0_ending 0 = .ok (.iconst 2, 1) := by decide +kernel
theorem dX0_ending_1 : decode cX0_ending 1 = .ok (.iload_n 2, 1) := by decide +kernel
theorem dX0_ending_2 : decode cX0_ending 2 = .ok (.imul, 1) := by decide +kernel
theorem dX0_ending_3 : decode cX0_ending 3 = .ok (.iload 4, 2) := by decide +kernel
theorem dX0_ending_5 : decode cX0_ending 5 = .ok (.invokestatic 47, 3) := by decide +kernel
theorem dX0_ending_8 : decode cX0_ending 8 = .ok (.iadd, 1) := by decide +kernel
theorem dX0_ending_9 : decode cX0_ending 9 = .ok (.istore 5, 2) := by decide +kernel
theorem dX0_ending_11 : decode cX0_ending 11 = .ok (.iconst 2, 1) := by decide +kernel
theorem dX0_ending_12 : decode cX0_ending 12 = .ok (.iload_n 3, 1) := by decide +kernel
theorem dX0_ending_13 : decode cX0_ending 13 = .ok (.imul, 1) := by decide +kernel
theorem dX0_ending_14 : decode cX0_ending 14 = .ok (.iload 4, 2) := by decide +kernel
theorem dX0_ending_16 : decode cX0_ending 16 = .ok (.invokestatic 47, 3) := by decide +kernel
theorem dX0_ending_19 : decode cX0_ending 19 = .ok (.iadd, 1) := by decide +kernel
theorem dX0_ending_20 : decode cX0_ending 20 = .ok (.istore 6, 2) := by decide +kernel
theorem dX0_ending_22 : decode cX0_ending 22 = .ok (.iconst 0, 1) := by decide +kernel
theorem dX0_ending_23 : decode cX0_ending 23 = .ok (.istore 7, 2) := by decide +kernel
theorem dX0_ending_25 : decode cX0_ending 25 = .ok (.iconst 0, 1) := by decide +kernel
theorem dX0_ending_26 : decode cX0_ending 26 = .ok (.istore 8, 2) := by decide +kernel
theorem dX0_ending_28 : decode cX0_ending 28 = .ok (.iload 8, 2) := by decide +kernel
theorem dX0_ending_30 : decode cX0_ending 30 = .ok (.aload_n 0, 1) := by decide +kernel
theorem dX0_ending_31 : decode cX0_ending 31 = .ok (.getfield 9, 3) := by decide +kernel
theorem dX0_ending_34 : decode cX0_ending 34 = .ok (.getfield 36, 3) := by decide +kernel
theorem dX0_ending_37 : decode cX0_ending 37 = .ok (.if_icmp .ge 87, 3) := by decide +kernel
theorem dX0_ending_40 : decode cX0_ending 40 = .ok (.iconst 0, 1) := by decide +kernel
theorem dX0_ending_41 : decode cX0_ending 41 = .ok (.istore 9, 2) := by decide +kernel
theorem dX0_ending_43 : decode cX0_ending 43 = .ok (.iload 9, 2) := by decide +kernel
theorem dX0_ending_45 : decode cX0_ending 45 = .ok (.iconst 3, 1) := by decide +kernel
theorem dX0_ending_46 : decode cX0_ending 46 = .ok (.if_icmp .ge 72, 3) := by decide +kernel
theorem dX0_ending_49 : decode cX0_ending 49 = .ok (.aload_n 0, 1) := by decide +kernel
theorem dX0_ending_50 : decode cX0_ending 50 = .ok (.iload 8, 2) := by decide +kernel
theorem dX0_ending_52 : decode cX0_ending 52 = .ok (.iload 9, 2) := by decide +kernel
theorem dX0_ending_54 : decode cX0_ending 54 = .ok (.invokevirtual 40, 3) := by decide +kernel
theorem dX0_ending_57 : decode cX0_ending 57 = .ok (.ifCond .eq 22, 3) := by decide +kernel
theorem dX0_ending_60 : decode cX0_ending 60 = .ok (.aload_n 0, 1) := by decide +kernel
theorem dX0_ending_61 : decode cX0_ending 61 = .ok (.iload 8, 2) := by decide +kernel
theorem dX0_ending_63 : decode cX0_ending 63 = .ok (.iload 9, 2) := by decide +kernel
theorem dX0_ending_65 : decode cX0_ending 65 = .ok (.iload 5, 2) := by decide +kernel
theorem dX0_ending_67 : decode cX0_ending 67 = .ok (.iload 6, 2) := by decide +kernel
theorem dX0_ending_69 : decode cX0_ending 69 = .ok (.invokevirtual 51, 3) := by decide +kernel
theorem dX0_ending_72 : decode cX0_ending 72 = .ok (.ifCond .eq 7, 3) := by decide +kernel
theorem dX0_ending_75 : decode cX0_ending 75 = .ok (.iconst 1, 1) := by decide +kernel
theorem dX0_ending_76 : decode cX0_ending 76 = .ok (.goto 4, 3) := by decide +kernel
theorem dX0_ending_79 : decode cX0_ending 79 = .ok (.iconst 0, 1) := by decide +kernel
theorem dX0_ending_80 : decode cX0_ending 80 = .ok (.istore 10, 2) := by decide +kernel
theorem dX0_ending_82 : decode cX0_ending 82 = .ok (.iload 7, 2) := by decide +kernel
theorem dX0_ending_84 : decode cX0_ending 84 = .ok (.iload 10, 2) := by decide +kernel
theorem dX0_ending_86 : decode cX0_ending 86 = .ok (.ifCond .eq 19, 3) := by decide +kernel
theorem dX0_ending_89 : decode cX0_ending 89 = .ok (.aload_n 0, 1) := by decide +kernel
theorem dX0_ending_90 : decode cX0_ending 90 = .ok (.iload 8, 2) := by decide +kernel
theorem dX0_ending_92 : decode cX0_ending 92 = .ok (.iload 9, 2) := by decide +kernel
theorem dX0_ending_94 : decode cX0_ending 94 = .ok (.invokevirtual 44, 3) := by decide +kernel
theorem dX0_ending_97 : decode cX0_ending 97 = .ok (.iload_n 1, 1) := by decide +kernel
theorem dX0_ending_98 : decode cX0_ending 98 = .ok (.if_icmp .ne 7, 3) := by decide +kernel
theorem dX0_ending_101 : decode cX0_ending 101 = .ok (.iconst 1, 1) := by decide +kernel
theorem dX0_ending_102 : decode cX0_ending 102 = .ok (.goto 4, 3) := by decide +kernel
theorem dX0_ending_105 : decode cX0_ending 105 = .ok (.iconst 0, 1) := by decide +kernel
theorem dX0_ending_106 : decode cX0_ending 106 = .ok (.invokestatic 47, 3) := by decide +kernel
theorem dX0_ending_109 : decode cX0_ending 109 = .ok (.iadd, 1) := by decide +kernel
theorem dX0_ending_110 : decode cX0_ending 110 = .ok (.istore 7, 2) := by decide +kernel
theorem dX0_ending_112 : decode cX0_ending 112 = .ok (.iinc 9 1, 3) := by decide +kernel
theorem dX0_ending_115 : decode cX0_ending 115 = .ok (.goto (-72), 3) := by decide +kernel
theorem dX0_ending_118 : decode cX0_ending 118 = .ok (.iinc 8 1, 3) := by decide +kernel
theorem dX0_ending_121 : decode cX0_ending 121 = .ok (.goto (-93), 3) := by decide +kernel
theorem dX0_ending_124 : decode cX0_ending 124 = .ok (.iload 7, 2) := by decide +kernel
theorem dX0_ending_126 : decode cX0_ending 126 = .ok (.ireturn, 1) := by decide +kernel
theorem dX0_isFirstOf_0 : decode cX0_isFirstOf 0 = .ok (.iload_n 1, 1) := by decide +kernel
theorem dX0_isFirstOf_1 : decode cX0_isFirstOf 1 = .ok (.aload_n 0, 1) := by decide +kernel
theorem dX0_isFirstOf_2 : decode cX0_isFirstOf 2 = .ok (.getfield 9, 3) := by decide +kernel
theorem dX0_isFirstOf_5 : decode cX0_isFirstOf 5 = .ok (.iload_n 1, 1) := by decide +kernel
theorem dX0_isFirstOf_6 : decode cX0_isFirstOf 6 = .ok (.iload_n 2, 1) := by decide +kernel
theorem dX0_isFirstOf_7 : decode cX0_isFirstOf 7 = .ok (.invokevirtual 19, 3) := by decide +kernel
theorem dX0_isFirstOf_10 : decode cX0_isFirstOf 10 = .ok (.if_icmp .ge 7, 3) := by decide +kernel
theorem dX0_isFirstOf_13 : decode cX0_isFirstOf 13 = .ok (.iconst 1, 1) := by decide +kernel
theorem dX0_isFirstOf_14 : decode cX0_isFirstOf 14 = .ok (.goto 4, 3) := by decide +kernel
theorem dX0_isFirstOf_17 : decode cX0_isFirstOf 17 = .ok (.iconst 0, 1) := by decide +kernel
theorem dX0_isFirstOf_18 : decode cX0_isFirstOf 18 = .ok (.ireturn, 1) := by decide +kernel
theorem dX0_endsAt_0 : decode cX0_endsAt 0 = .ok (.iload_n 3, 1) := by decide +kernel
theorem dX0_endsAt_1 : decode cX0_endsAt 1 = .ok (.iconst 2, 1) := by decide +kernel
theorem dX0_endsAt_2 : decode cX0_endsAt 2 = .ok (.aload_n 0, 1) := by decide +kernel
theorem dX0_endsAt_3 : decode cX0_endsAt 3 = .ok (.getfield 9, 3) := by decide +kernel
theorem dX0_endsAt_6 : decode cX0_endsAt 6 = .ok (.iload_n 1, 1) := by decide +kernel
theorem dX0_endsAt_7 : decode cX0_endsAt 7 = .ok (.invokevirtual 55, 3) := by decide +kernel
theorem dX0_endsAt_10 : decode cX0_endsAt 10 = .ok (.imul, 1) := by decide +kernel
theorem dX0_endsAt_11 : decode cX0_endsAt 11 = .ok (.isub, 1) := by decide +kernel
theorem dX0_endsAt_12 : decode cX0_endsAt 12 = .ok (.istore 5, 2) := by decide +kernel
theorem dX0_endsAt_14 : decode cX0_endsAt 14 = .ok (.iload 4, 2) := by decide +kernel
theorem dX0_endsAt_16 : decode cX0_endsAt 16 = .ok (.iconst 2, 1) := by decide +kernel
theorem dX0_endsAt_17 : decode cX0_endsAt 17 = .ok (.aload_n 0, 1) := by decide +kernel
theorem dX0_endsAt_18 : decode cX0_endsAt 18 = .ok (.getfield 9, 3) := by decide +kernel
theorem dX0_endsAt_21 : decode cX0_endsAt 21 = .ok (.iload_n 1, 1) := by decide +kernel
theorem dX0_endsAt_22 : decode cX0_endsAt 22 = .ok (.invokevirtual 58, 3) := by decide +kernel
theorem dX0_endsAt_25 : decode cX0_endsAt 25 = .ok (.imul, 1) := by decide +kernel
theorem dX0_endsAt_26 : decode cX0_endsAt 26 = .ok (.isub, 1) := by decide +kernel
theorem dX0_endsAt_27 : decode cX0_endsAt 27 = .ok (.istore 6, 2) := by decide +kernel
theorem dX0_endsAt_29 : decode cX0_endsAt 29 = .ok (.aload_n 0, 1) := by decide +kernel
theorem dX0_endsAt_30 : decode cX0_endsAt 30 = .ok (.getfield 9, 3) := by decide +kernel
theorem dX0_endsAt_33 : decode cX0_endsAt 33 = .ok (.iload_n 1, 1) := by decide +kernel
theorem dX0_endsAt_34 : decode cX0_endsAt 34 = .ok (.invokevirtual 61, 3) := by decide +kernel
theorem dX0_endsAt_37 : decode cX0_endsAt 37 = .ok (.istore 7, 2) := by decide +kernel
theorem dX0_endsAt_39 : decode cX0_endsAt 39 = .ok (.iload 7, 2) := by decide +kernel
theorem dX0_endsAt_41 : decode cX0_endsAt 41 = .ok (.iload 5, 2) := by decide +kernel
theorem dX0_endsAt_43 : decode cX0_endsAt 43 = .ok (.iload 6, 2) := by decide +kernel
theorem dX0_endsAt_45 : decode cX0_endsAt 45 = .ok (.invokestatic 64, 3) := by decide +kernel
theorem dX0_endsAt_48 : decode cX0_endsAt 48 = .ok (.istore 8, 2) := by decide +kernel
theorem dX0_endsAt_50 : decode cX0_endsAt 50 = .ok (.iload 7, 2) := by decide +kernel
theorem dX0_endsAt_52 : decode cX0_endsAt 52 = .ok (.iconst 3, 1) := by decide +kernel
theorem dX0_endsAt_53 : decode cX0_endsAt 53 = .ok (.iadd, 1) := by decide +kernel
theorem dX0_endsAt_54 : decode cX0_endsAt 54 = .ok (.iconst 3, 1) := by decide +kernel
theorem dX0_endsAt_55 : decode cX0_endsAt 55 = .ok (.iand, 1) := by decide +kernel
theorem dX0_endsAt_56 : decode cX0_endsAt 56 = .ok (.iload 5, 2) := by decide +kernel
theorem dX0_endsAt_58 : decode cX0_endsAt 58 = .ok (.iload 6, 2) := by decide +kernel
theorem dX0_endsAt_60 : decode cX0_endsAt 60 = .ok (.invokestatic 64, 3) := by decide +kernel
theorem dX0_endsAt_63 : decode cX0_endsAt 63 = .ok (.istore 9, 2) := by decide +kernel
theorem dX0_endsAt_65 : decode cX0_endsAt 65 = .ok (.iload 5, 2) := by decide +kernel
theorem dX0_endsAt_67 : decode cX0_endsAt 67 = .ok (.iconst 1, 1) := by decide +kernel
theorem dX0_endsAt_68 : decode cX0_endsAt 68 = .ok (.if_icmp .ne 13, 3) := by decide +kernel
theorem dX0_endsAt_71 : decode cX0_endsAt 71 = .ok (.iload 6, 2) := by decide +kernel
theorem dX0_endsAt_73 : decode cX0_endsAt 73 = .ok (.iconst 1, 1) := by decide +kernel
theorem dX0_endsAt_74 : decode cX0_endsAt 74 = .ok (.if_icmp .ne 7, 3) := by decide +kernel
theorem dX0_endsAt_77 : decode cX0_endsAt 77 = .ok (.iconst 1, 1) := by decide +kernel
theorem dX0_endsAt_78 : decode cX0_endsAt 78 = .ok (.goto 4, 3) := by decide +kernel
theorem dX0_endsAt_81 : decode cX0_endsAt 81 = .ok (.iconst 0, 1) := by decide +kernel
theorem dX0_endsAt_82 : decode cX0_endsAt 82 = .ok (.istore 10, 2) := by decide +kernel
theorem dX0_endsAt_84 : decode cX0_endsAt 84 = .ok (.iload_n 2, 1) := by decide +kernel
theorem dX0_endsAt_85 : decode cX0_endsAt 85 = .ok (.ifCond .ne 19, 3) := by decide +kernel
theorem dX0_endsAt_88 : decode cX0_endsAt 88 = .ok (.iload 8, 2) := by decide +kernel
theorem dX0_endsAt_90 : decode cX0_endsAt 90 = .ok (.ifCond .ne 8, 3) := by decide +kernel
theorem dX0_endsAt_93 : decode cX0_endsAt 93 = .ok (.iload 9, 2) := by decide +kernel
theorem dX0_endsAt_95 : decode cX0_endsAt 95 = .ok (.ifCond .eq 7, 3) := by decide +kernel
theorem dX0_endsAt_98 : decode cX0_endsAt 98 = .ok (.iconst 1, 1) := by decide +kernel
theorem dX0_endsAt_99 : decode cX0_endsAt 99 = .ok (.goto 4, 3) := by decide +kernel
theorem dX0_endsAt_102 : decode cX0_endsAt 102 = .ok (.iconst 0, 1) := by decide +kernel
theorem dX0_endsAt_103 : decode cX0_endsAt 103 = .ok (.ireturn, 1) := by decide +kernel
theorem dX0_endsAt_104 : decode cX0_endsAt 104 = .ok (.iload 10, 2) := by decide +kernel
theorem dX0_endsAt_106 : decode cX0_endsAt 106 = .ok (.ifCond .ne 21, 3) := by decide +kernel
theorem dX0_endsAt_109 : decode cX0_endsAt 109 = .ok (.iload_n 2, 1) := by decide +kernel
theorem dX0_endsAt_110 : decode cX0_endsAt 110 = .ok (.iconst 1, 1) := by decide +kernel
theorem dX0_endsAt_111 : decode cX0_endsAt 111 = .ok (.if_icmp .ne 11, 3) := by decide +kernel
theorem dX0_endsAt_114 : decode cX0_endsAt 114 = .ok (.iload 8, 2) := by decide +kernel
theorem dX0_endsAt_116 : decode cX0_endsAt 116 = .ok (.ifCond .eq 15, 3) := by decide +kernel
theorem dX0_endsAt_119 : decode cX0_endsAt 119 = .ok (.goto 8, 3) := by decide +kernel
theorem dX0_endsAt_122 : decode cX0_endsAt 122 = .ok (.iload 9, 2) := by decide +kernel
theorem dX0_endsAt_124 : decode cX0_endsAt 124 = .ok (.ifCond .eq 7, 3) := by decide +kernel
theorem dX0_endsAt_127 : decode cX0_endsAt 127 = .ok (.iconst 1, 1) := by decide +kernel
theorem dX0_endsAt_128 : decode cX0_endsAt 128 = .ok (.goto 4, 3) := by decide +kernel
theorem dX0_endsAt_131 : decode cX0_endsAt 131 = .ok (.iconst 0, 1) := by decide +kernel
theorem dX0_endsAt_132 : decode cX0_endsAt 132 = .ok (.ireturn, 1) := by decide +kernel
theorem dX0_isCorner_0 : decode cX0_isCorner 0 = .ok (.iload_n 0, 1) := by decide +kernel
theorem dX0_isCorner_1 : decode cX0_isCorner 1 = .ok (.ifCond .eq 8, 3) := by decide +kernel
theorem dX0_isCorner_4 : decode cX0_isCorner 4 = .ok (.iload_n 0, 1) := by decide +kernel
theorem dX0_isCorner_5 : decode cX0_isCorner 5 = .ok (.iconst 1, 1) := by decide +kernel
theorem dX0_isCorner_6 : decode cX0_isCorner 6 = .ok (.if_icmp .ne 7, 3) := by decide +kernel
theorem dX0_isCorner_9 : decode cX0_isCorner 9 = .ok (.iconst 2, 1) := by decide +kernel
theorem dX0_isCorner_10 : decode cX0_isCorner 10 = .ok (.goto 4, 3) := by decide +kernel
theorem dX0_isCorner_13 : decode cX0_isCorner 13 = .ok (.iconst 0, 1) := by decide +kernel
theorem dX0_isCorner_14 : decode cX0_isCorner 14 = .ok (.istore_n 3, 1) := by decide +kernel
theorem dX0_isCorner_15 : decode cX0_isCorner 15 = .ok (.iload_n 0, 1) := by decide +kernel
theorem dX0_isCorner_16 : decode cX0_isCorner 16 = .ok (.iconst 1, 1) := by decide +kernel
theorem dX0_isCorner_17 : decode cX0_isCorner 17 = .ok (.if_icmp .eq 8, 3) := by decide +kernel
theorem dX0_isCorner_20 : decode cX0_isCorner 20 = .ok (.iload_n 0, 1) := by decide +kernel
theorem dX0_isCorner_21 : decode cX0_isCorner 21 = .ok (.iconst 2, 1) := by decide +kernel
theorem dX0_isCorner_22 : decode cX0_isCorner 22 = .ok (.if_icmp .ne 7, 3) := by decide +kernel
theorem dX0_isCorner_25 : decode cX0_isCorner 25 = .ok (.iconst 2, 1) := by decide +kernel
theorem dX0_isCorner_26 : decode cX0_isCorner 26 = .ok (.goto 4, 3) := by decide +kernel
theorem dX0_isCorner_29 : decode cX0_isCorner 29 = .ok (.iconst 0, 1) := by decide +kernel
theorem dX0_isCorner_30 : decode cX0_isCorner 30 = .ok (.istore 4, 2) := by decide +kernel
theorem dX0_isCorner_32 : decode cX0_isCorner 32 = .ok (.iload_n 1, 1) := by decide +kernel
theorem dX0_isCorner_33 : decode cX0_isCorner 33 = .ok (.iload_n 3, 1) := by decide +kernel
theorem dX0_isCorner_34 : decode cX0_isCorner 34 = .ok (.if_icmp .ne 13, 3) := by decide +kernel
theorem dX0_isCorner_37 : decode cX0_isCorner 37 = .ok (.iload_n 2, 1) := by decide +kernel
theorem dX0_isCorner_38 : decode cX0_isCorner 38 = .ok (.iload 4, 2) := by decide +kernel
theorem dX0_isCorner_40 : decode cX0_isCorner 40 = .ok (.if_icmp .ne 7, 3) := by decide +kernel
theorem dX0_isCorner_43 : decode cX0_isCorner 43 = .ok (.iconst 1, 1) := by decide +kernel
theorem dX0_isCorner_44 : decode cX0_isCorner 44 = .ok (.goto 4, 3) := by decide +kernel
theorem dX0_isCorner_47 : decode cX0_isCorner 47 = .ok (.iconst 0, 1) := by decide +kernel
theorem dX0_isCorner_48 : decode cX0_isCorner 48 = .ok (.ireturn, 1) := by decide +kernel
theorem dX1_init_0 : decode cX1_init 0 = .ok (.aload_n 0, 1) := by decide +kernel
theorem dX1_init_1 : decode cX1_init 1 = .ok (.invokespecial 3, 3) := by decide +kernel
theorem dX1_init_4 : decode cX1_init 4 = .ok (.aload_n 0, 1) := by decide +kernel
theorem dX1_init_5 : decode cX1_init 5 = .ok (.sipush 144, 3) := by decide +kernel
theorem dX1_init_8 : decode cX1_init 8 = .ok (.newarray .int, 2) := by decide +kernel
theorem dX1_init_10 : decode cX1_init 10 = .ok (.putfield 9, 3) := by decide +kernel
theorem dX1_init_13 : decode cX1_init 13 = .ok (.aload_n 0, 1) := by decide +kernel
theorem dX1_init_14 : decode cX1_init 14 = .ok (.aload_n 1, 1) := by decide +kernel
theorem dX1_init_15 : decode cX1_init 15 = .ok (.putfield 15, 3) := by decide +kernel
theorem dX1_init_18 : decode cX1_init 18 = .ok (.return_, 1) := by decide +kernel
theorem dX1_wipe_0 : decode cX1_wipe 0 = .ok (.aload_n 0, 1) := by decide +kernel
theorem dX1_wipe_1 : decode cX1_wipe 1 = .ok (.getfield 9, 3) := by decide +kernel
theorem dX1_wipe_4 : decode cX1_wipe 4 = .ok (.iconst 0, 1) := by decide +kernel
theorem dX1_wipe_5 : decode cX1_wipe 5 = .ok (.invokestatic 19, 3) := by decide +kernel
theorem dX1_wipe_8 : decode cX1_wipe 8 = .ok (.aload_n 0, 1) := by decide +kernel
theorem dX1_wipe_9 : decode cX1_wipe 9 = .ok (.iconst 0, 1) := by decide +kernel
theorem dX1_wipe_10 : decode cX1_wipe 10 = .ok (.putfield 25, 3) := by decide +kernel
theorem dX1_wipe_13 : decode cX1_wipe 13 = .ok (.return_, 1) := by decide +kernel
theorem dX1_has_0 : decode cX1_has 0 = .ok (.aload_n 0, 1) := by decide +kernel
theorem dX1_has_1 : decode cX1_has 1 = .ok (.getfield 9, 3) := by decide +kernel
theorem dX1_has_4 : decode cX1_has 4 = .ok (.iload_n 1, 1) := by decide +kernel
theorem dX1_has_5 : decode cX1_has 5 = .ok (.invokestatic 29, 3) := by decide +kernel
theorem dX1_has_8 : decode cX1_has 8 = .ok (.iconst 1, 1) := by decide +kernel
theorem dX1_has_9 : decode cX1_has 9 = .ok (.if_icmp .ne 7, 3) := by decide +kernel
theorem dX1_has_12 : decode cX1_has 12 = .ok (.iconst 1, 1) := by decide +kernel
theorem dX1_has_13 : decode cX1_has 13 = .ok (.goto 4, 3) := by decide +kernel
theorem dX1_has_16 : decode cX1_has 16 = .ok (.iconst 0, 1) := by decide +kernel
theorem dX1_has_17 : decode cX1_has 17 = .ok (.ireturn, 1) := by decide +kernel
theorem dX1_put_0 : decode cX1_put 0 = .ok (.aload_n 0, 1) := by decide +kernel
theorem dX1_put_1 : decode cX1_put 1 = .ok (.dup, 1) := by decide +kernel
theorem dX1_put_2 : decode cX1_put 2 = .ok (.getfield 25, 3) := by decide +kernel
theorem dX1_put_5 : decode cX1_put 5 = .ok (.iload_n 2, 1) := by decide +kernel
theorem dX1_put_6 : decode cX1_put 6 = .ok (.invokestatic 33, 3) := by decide +kernel
theorem dX1_put_9 : decode cX1_put 9 = .ok (.aload_n 0, 1) := by decide +kernel
theorem dX1_put_10 : decode cX1_put 10 = .ok (.getfield 9, 3) := by decide +kernel
theorem dX1_put_13 : decode cX1_put 13 = .ok (.iload_n 1, 1) := by decide +kernel
theorem dX1_put_14 : decode cX1_put 14 = .ok (.invokestatic 29, 3) := by decide +kernel
theorem dX1_put_17 : decode cX1_put 17 = .ok (.isub, 1) := by decide +kernel
theorem dX1_put_18 : decode cX1_put 18 = .ok (.iadd, 1) := by decide +kernel
theorem dX1_put_19 : decode cX1_put 19 = .ok (.putfield 25, 3) := by decide +kernel
theorem dX1_put_22 : decode cX1_put 22 = .ok (.aload_n 0, 1) := by decide +kernel
theorem dX1_put_23 : decode cX1_put 23 = .ok (.getfield 9, 3) := by decide +kernel
theorem dX1_put_26 : decode cX1_put 26 = .ok (.iload_n 1, 1) := by decide +kernel
theorem dX1_put_27 : decode cX1_put 27 = .ok (.iload_n 2, 1) := by decide +kernel
theorem dX1_put_28 : decode cX1_put 28 = .ok (.invokestatic 33, 3) := by decide +kernel
theorem dX1_put_31 : decode cX1_put 31 = .ok (.invokestatic 37, 3) := by decide +kernel
theorem dX1_put_34 : decode cX1_put 34 = .ok (.return_, 1) := by decide +kernel
theorem dX1_first_0 : decode cX1_first 0 = .ok (.iconst 0, 1) := by decide +kernel
theorem dX1_first_1 : decode cX1_first 1 = .ok (.istore_n 2, 1) := by decide +kernel
theorem dX1_first_2 : decode cX1_first 2 = .ok (.iload_n 2, 1) := by decide +kernel
theorem dX1_first_3 : decode cX1_first 3 = .ok (.aload_n 0, 1) := by decide +kernel
theorem dX1_first_4 : decode cX1_first 4 = .ok (.getfield 15, 3) := by decide +kernel
theorem dX1_first_7 : decode cX1_first 7 = .ok (.getfield 41, 3) := by decide +kernel
theorem dX1_first_10 : decode cX1_first 10 = .ok (.if_icmp .ge 20, 3) := by decide +kernel
theorem dX1_first_13 : decode cX1_first 13 = .ok (.aload_n 0, 1) := by decide +kernel
theorem dX1_first_14 : decode cX1_first 14 = .ok (.iload_n 2, 1) := by decide +kernel
theorem dX1_first_15 : decode cX1_first 15 = .ok (.invokevirtual 46, 3) := by decide +kernel
theorem dX1_first_18 : decode cX1_first 18 = .ok (.iload_n 1, 1) := by decide +kernel
theorem dX1_first_19 : decode cX1_first 19 = .ok (.if_icmp .ne 5, 3) := by decide +kernel
theorem dX1_first_22 : decode cX1_first 22 = .ok (.iload_n 2, 1) := by decide +kernel
theorem dX1_first_23 : decode cX1_first 23 = .ok (.ireturn, 1) := by decide +kernel
theorem dX1_first_24 : decode cX1_first 24 = .ok (.iinc 2 1, 3) := by decide +kernel
theorem dX1_first_27 : decode cX1_first 27 = .ok (.goto (-25), 3) := by decide +kernel
theorem dX1_first_30 : decode cX1_first 30 = .ok (.iconst 0, 1) := by decide +kernel
theorem dX1_first_31 : decode cX1_first 31 = .ok (.ireturn, 1) := by decide +kernel
theorem dX1_isMirror_0 : decode cX1_isMirror 0 = .ok (.iconst 0, 1) := by decide +kernel
theorem dX1_isMirror_1 : decode cX1_isMirror 1 = .ok (.istore_n 3, 1) := by decide +kernel
theorem dX1_isMirror_2 : decode cX1_isMirror 2 = .ok (.iload_n 3, 1) := by decide +kernel
theorem dX1_isMirror_3 : decode cX1_isMirror 3 = .ok (.aload_n 0, 1) := by decide +kernel
theorem dX1_isMirror_4 : decode cX1_isMirror 4 = .ok (.getfield 15, 3) := by decide +kernel
theorem dX1_isMirror_7 : decode cX1_isMirror 7 = .ok (.getfield 41, 3) := by decide +kernel
theorem dX1_isMirror_10 : decode cX1_isMirror 10 = .ok (.if_icmp .ge 110, 3) := by decide +kernel
theorem dX1_isMirror_13 : decode cX1_isMirror 13 = .ok (.iload_n 1, 1) := by decide +kernel
theorem dX1_isMirror_14 : decode cX1_isMirror 14 = .ok (.iload_n 2, 1) := by decide +kernel
theorem dX1_isMirror_15 : decode cX1_isMirror 15 = .ok (.aload_n 0, 1) := by decide +kernel
theorem dX1_isMirror_16 : decode cX1_isMirror 16 = .ok (.getfield 15, 3) := by decide +kernel
theorem dX1_isMirror_19 : decode cX1_isMirror 19 = .ok (.iload_n 3, 1) := by decide +kernel
theorem dX1_isMirror_20 : decode cX1_isMirror 20 = .ok (.invokevirtual 50, 3) := by decide +kernel
theorem dX1_isMirror_23 : decode cX1_isMirror 23 = .ok (.aload_n 0, 1) := by decide +kernel
theorem dX1_isMirror_24 : decode cX1_isMirror 24 = .ok (.getfield 15, 3) := by decide +kernel
theorem dX1_isMirror_27 : decode cX1_isMirror 27 = .ok (.iload_n 3, 1) := by decide +kernel
theorem dX1_isMirror_28 : decode cX1_isMirror 28 = .ok (.invokevirtual 54, 3) := by decide +kernel
theorem dX1_isMirror_31 : decode cX1_isMirror 31 = .ok (.invokestatic 57, 3) := by decide +kernel
theorem dX1_isMirror_34 : decode cX1_isMirror 34 = .ok (.istore 4, 2) := by decide +kernel
theorem dX1_isMirror_36 : decode cX1_isMirror 36 = .ok (.iload_n 1, 1) := by decide +kernel
theorem dX1_isMirror_37 : decode cX1_isMirror 37 = .ok (.iload_n 2, 1) := by decide +kernel
theorem dX1_isMirror_38 : decode cX1_isMirror 38 = .ok (.aload_n 0, 1) := by decide +kernel
theorem dX1_isMirror_39 : decode cX1_isMirror 39 = .ok (.getfield 15, 3) := by decide +kernel
theorem dX1_isMirror_42 : decode cX1_isMirror 42 = .ok (.iload_n 3, 1) := by decide +kernel
theorem dX1_isMirror_43 : decode cX1_isMirror 43 = .ok (.invokevirtual 50, 3) := by decide +kernel
theorem dX1_isMirror_46 : decode cX1_isMirror 46 = .ok (.aload_n 0, 1) := by decide +kernel
theorem dX1_isMirror_47 : decode cX1_isMirror 47 = .ok (.getfield 15, 3) := by decide +kernel
theorem dX1_isMirror_50 : decode cX1_isMirror 50 = .ok (.iload_n 3, 1) := by decide +kernel
theorem dX1_isMirror_51 : decode cX1_isMirror 51 = .ok (.invokevirtual 54, 3) := by decide +kernel
theorem dX1_isMirror_54 : decode cX1_isMirror 54 = .ok (.invokestatic 63, 3) := by decide +kernel
theorem dX1_isMirror_57 : decode cX1_isMirror 57 = .ok (.istore 5, 2) := by decide +kernel
theorem dX1_isMirror_59 : decode cX1_isMirror 59 = .ok (.iload_n 1, 1) := by decide +kernel
theorem dX1_isMirror_60 : decode cX1_isMirror 60 = .ok (.aload_n 0, 1) := by decide +kernel
theorem dX1_isMirror_61 : decode cX1_isMirror 61 = .ok (.getfield 15, 3) := by decide +kernel
theorem dX1_isMirror_64 : decode cX1_isMirror 64 = .ok (.iload_n 3, 1) := by decide +kernel
theorem dX1_isMirror_65 : decode cX1_isMirror 65 = .ok (.invokevirtual 66, 3) := by decide +kernel
theorem dX1_isMirror_68 : decode cX1_isMirror 68 = .ok (.invokestatic 69, 3) := by decide +kernel
theorem dX1_isMirror_71 : decode cX1_isMirror 71 = .ok (.istore 6, 2) := by decide +kernel
theorem dX1_isMirror_73 : decode cX1_isMirror 73 = .ok (.aload_n 0, 1) := by decide +kernel
theorem dX1_isMirror_74 : decode cX1_isMirror 74 = .ok (.getfield 15, 3) := by decide +kernel
theorem dX1_isMirror_77 : decode cX1_isMirror 77 = .ok (.iload 4, 2) := by decide +kernel
theorem dX1_isMirror_79 : decode cX1_isMirror 79 = .ok (.iload 5, 2) := by decide +kernel
theorem dX1_isMirror_81 : decode cX1_isMirror 81 = .ok (.invokevirtual 73, 3) := by decide +kernel
theorem dX1_isMirror_84 : decode cX1_isMirror 84 = .ok (.ifCond .eq 28, 3) := by decide +kernel
theorem dX1_isMirror_87 : decode cX1_isMirror 87 = .ok (.aload_n 0, 1) := by decide +kernel
theorem dX1_isMirror_88 : decode cX1_isMirror 88 = .ok (.aload_n 0, 1) := by decide +kernel
theorem dX1_isMirror_89 : decode cX1_isMirror 89 = .ok (.getfield 15, 3) := by decide +kernel
theorem dX1_isMirror_92 : decode cX1_isMirror 92 = .ok (.iload 4, 2) := by decide +kernel
theorem dX1_isMirror_94 : decode cX1_isMirror 94 = .ok (.iload 5, 2) := by decide +kernel
theorem dX1_isMirror_96 : decode cX1_isMirror 96 = .ok (.iload 6, 2) := by decide +kernel
theorem dX1_isMirror_98 : decode cX1_isMirror 98 = .ok (.invokevirtual 77, 3) := by decide +kernel
theorem dX1_isMirror_101 : decode cX1_isMirror 101 = .ok (.invokevirtual 46, 3) := by decide +kernel
theorem dX1_isMirror_104 : decode cX1_isMirror 104 = .ok (.aload_n 0, 1) := by decide +kernel
theorem dX1_isMirror_105 : decode cX1_isMirror 105 = .ok (.iload_n 3, 1) := by decide +kernel
theorem dX1_isMirror_106 : decode cX1_isMirror 106 = .ok (.invokevirtual 46, 3) := by decide +kernel
theorem dX1_isMirror_109 : decode cX1_isMirror 109 = .ok (.if_icmp .eq 5, 3) := by decide +kernel
theorem dX1_isMirror_112 : decode cX1_isMirror 112 = .ok (.iconst 0, 1) := by decide +kernel
theorem dX1_isMirror_113 : decode cX1_isMirror 113 = .ok (.ireturn, 1) := by decide +kernel
theorem dX1_isMirror_114 : decode cX1_isMirror 114 = .ok (.iinc 3 1, 3) := by decide +kernel
theorem dX1_isMirror_117 : decode cX1_isMirror 117 = .ok (.goto (-115), 3) := by decide +kernel
theorem dX1_isMirror_120 : decode cX1_isMirror 120 = .ok (.iconst 1, 1) := by decide +kernel
theorem dX1_isMirror_121 : decode cX1_isMirror 121 = .ok (.ireturn, 1) := by decide +kernel
theorem dX2_init_0 : decode cX2_init 0 = .ok (.aload_n 0, 1) := by decide +kernel
theorem dX2_init_1 : decode cX2_init 1 = .ok (.invokespecial 3, 3) := by decide +kernel
theorem dX2_init_4 : decode cX2_init 4 = .ok (.aload_n 0, 1) := by decide +kernel
theorem dX2_init_5 : decode cX2_init 5 = .ok (.sipush 144, 3) := by decide +kernel
theorem dX2_init_8 : decode cX2_init 8 = .ok (.newarray .int, 2) := by decide +kernel
theorem dX2_init_10 : decode cX2_init 10 = .ok (.putfield 9, 3) := by decide +kernel
theorem dX2_init_13 : decode cX2_init 13 = .ok (.aload_n 0, 1) := by decide +kernel
theorem dX2_init_14 : decode cX2_init 14 = .ok (.sipush 144, 3) := by decide +kernel
theorem dX2_init_17 : decode cX2_init 17 = .ok (.newarray .int, 2) := by decide +kernel
theorem dX2_init_19 : decode cX2_init 19 = .ok (.putfield 15, 3) := by decide +kernel
theorem dX2_init_22 : decode cX2_init 22 = .ok (.aload_n 0, 1) := by decide +kernel
theorem dX2_init_23 : decode cX2_init 23 = .ok (.sipush 144, 3) := by decide +kernel
theorem dX2_init_26 : decode cX2_init 26 = .ok (.newarray .int, 2) := by decide +kernel
theorem dX2_init_28 : decode cX2_init 28 = .ok (.putfield 18, 3) := by decide +kernel
theorem dX2_init_31 : decode cX2_init 31 = .ok (.aload_n 0, 1) := by decide +kernel
theorem dX2_init_32 : decode cX2_init 32 = .ok (.sipush 1024, 3) := by decide +kernel
theorem dX2_init_35 : decode cX2_init 35 = .ok (.newarray .int, 2) := by decide +kernel
theorem dX2_init_37 : decode cX2_init 37 = .ok (.putfield 23, 3) := by decide +kernel
theorem dX2_init_40 : decode cX2_init 40 = .ok (.aload_n 0, 1) := by decide +kernel
theorem dX2_init_41 : decode cX2_init 41 = .ok (.bipush 12, 2) := by decide +kernel
theorem dX2_init_43 : decode cX2_init 43 = .ok (.newarray .int, 2) := by decide +kernel
theorem dX2_init_45 : decode cX2_init 45 = .ok (.putfield 26, 3) := by decide +kernel
theorem dX2_init_48 : decode cX2_init 48 = .ok (.aload_n 0, 1) := by decide +kernel
theorem dX2_init_49 : decode cX2_init 49 = .ok (.bipush 12, 2) := by decide +kernel
theorem dX2_init_51 : decode cX2_init 51 = .ok (.newarray .int, 2) := by decide +kernel
theorem dX2_init_53 : decode cX2_init 53 = .ok (.putfield 29, 3) := by decide +kernel
theorem dX2_init_56 : decode cX2_init 56 = .ok (.aload_n 0, 1) := by decide +kernel
theorem dX2_init_57 : decode cX2_init 57 = .ok (.aload_n 1, 1) := by decide +kernel
theorem dX2_init_58 : decode cX2_init 58 = .ok (.putfield 32, 3) := by decide +kernel
theorem dX2_init_61 : decode cX2_init 61 = .ok (.return_, 1) := by decide +kernel
theorem dX2_load_0 : decode cX2_load 0 = .ok (.iconst 2, 1) := by decide +kernel
theorem dX2_load_1 : decode cX2_load 1 = .ok (.aload_n 2, 1) := by decide +kernel
theorem dX2_load_2 : decode cX2_load 2 = .ok (.getfield 36, 3) := by decide +kernel
theorem dX2_load_5 : decode cX2_load 5 = .ok (.imul, 1) := by decide +kernel
theorem dX2_load_6 : decode cX2_load 6 = .ok (.aload_n 1, 1) := by decide +kernel
theorem dX2_load_7 : decode cX2_load 7 = .ok (.getfield 42, 3) := by decide +kernel
theorem dX2_load_10 : decode cX2_load 10 = .ok (.if_icmp .gt 7, 3) := by decide +kernel
theorem dX2_load_13 : decode cX2_load 13 = .ok (.iconst 1, 1) := by decide +kernel
theorem dX2_load_14 : decode cX2_load 14 = .ok (.goto 4, 3) := by decide +kernel
theorem dX2_load_17 : decode cX2_load 17 = .ok (.iconst 0, 1) := by decide +kernel
theorem dX2_load_18 : decode cX2_load 18 = .ok (.istore_n 3, 1) := by decide +kernel
theorem dX2_load_19 : decode cX2_load 19 = .ok (.aload_n 2, 1) := by decide +kernel
theorem dX2_load_20 : decode cX2_load 20 = .ok (.iload_n 3, 1) := by decide +kernel
theorem dX2_load_21 : decode cX2_load 21 = .ok (.invokevirtual 47, 3) := by decide +kernel
theorem dX2_load_24 : decode cX2_load 24 = .ok (.istore 4, 2) := by decide +kernel
theorem dX2_load_26 : decode cX2_load 26 = .ok (.aload_n 0, 1) := by decide +kernel
theorem dX2_load_27 : decode cX2_load 27 = .ok (.iload_n 3, 1) := by decide +kernel
theorem dX2_load_28 : decode cX2_load 28 = .ok (.ifCond .eq 7, 3) := by decide +kernel
theorem dX2_load_31 : decode cX2_load 31 = .ok (.iconst 1, 1) := by decide +kernel
theorem dX2_load_32 : decode cX2_load 32 = .ok (.goto 4, 3) := by decide +kernel
theorem dX2_load_35 : decode cX2_load 35 = .ok (.iconst 2, 1) := by decide +kernel
theorem dX2_load_36 : decode cX2_load 36 = .ok (.invokevirtual 51, 3) := by decide +kernel
theorem dX2_load_39 : decode cX2_load 39 = .ok (.aload_n 0, 1) := by decide +kernel
theorem dX2_load_40 : decode cX2_load 40 = .ok (.aload_n 1, 1) := by decide +kernel
theorem dX2_load_41 : decode cX2_load 41 = .ok (.aload_n 2, 1) := by decide +kernel
theorem dX2_load_42 : decode cX2_load 42 = .ok (.iload_n 3, 1) := by decide +kernel
theorem dX2_load_43 : decode cX2_load 43 = .ok (.iload 4, 2) := by decide +kernel
theorem dX2_load_45 : decode cX2_load 45 = .ok (.invokevirtual 55, 3) := by decide +kernel
theorem dX2_load_48 : decode cX2_load 48 = .ok (.aload_n 0, 1) := by decide +kernel
theorem dX2_load_49 : decode cX2_load 49 = .ok (.aload_n 1, 1) := by decide +kernel
theorem dX2_load_50 : decode cX2_load 50 = .ok (.aload_n 2, 1) := by decide +kernel
theorem dX2_load_51 : decode cX2_load 51 = .ok (.iload_n 3, 1) := by decide +kernel
theorem dX2_load_52 : decode cX2_load 52 = .ok (.ifCond .ne 7, 3) := by decide +kernel
theorem dX2_load_55 : decode cX2_load 55 = .ok (.iconst 1, 1) := by decide +kernel
theorem dX2_load_56 : decode cX2_load 56 = .ok (.goto 4, 3) := by decide +kernel
theorem dX2_load_59 : decode cX2_load 59 = .ok (.iconst 0, 1) := by decide +kernel
theorem dX2_load_60 : decode cX2_load 60 = .ok (.iload 4, 2) := by decide +kernel
theorem dX2_load_62 : decode cX2_load 62 = .ok (.invokevirtual 55, 3) := by decide +kernel
theorem dX2_load_65 : decode cX2_load 65 = .ok (.return_, 1) := by decide +kernel
theorem dX2_putAround_0 : decode cX2_putAround 0 = .ok (.iconst 0, 1) := by decide +kernel
theorem dX2_putAround_1 : decode cX2_putAround 1 = .ok (.istore 5, 2) := by decide +kernel
theorem dX2_putAround_3 : decode cX2_putAround 3 = .ok (.iload 5, 2) := by decide +kernel
theorem dX2_putAround_5 : decode cX2_putAround 5 = .ok (.aload_n 1, 1) := by decide +kernel
theorem dX2_putAround_6 : decode cX2_putAround 6 = .ok (.getfield 59, 3) := by decide +kernel
theorem dX2_putAround_9 : decode cX2_putAround 9 = .ok (.if_icmp .ge 81, 3) := by decide +kernel
theorem dX2_putAround_12 : decode cX2_putAround 12 = .ok (.iconst 0, 1) := by decide +kernel
theorem dX2_putAround_13 : decode cX2_putAround 13 = .ok (.istore 6, 2) := by decide +kernel
theorem dX2_putAround_15 : decode cX2_putAround 15 = .ok (.iload 6, 2) := by decide +kernel
theorem dX2_putAround_17 : decode cX2_putAround 17 = .ok (.aload_n 1, 1) := by decide +kernel
theorem dX2_putAround_18 : decode cX2_putAround 18 = .ok (.getfield 42, 3) := by decide +kernel
theorem dX2_putAround_21 : decode cX2_putAround 21 = .ok (.if_icmp .ge 63, 3) := by decide +kernel
theorem dX2_putAround_24 : decode cX2_putAround 24 = .ok (.aload_n 2, 1) := by decide +kernel
theorem dX2_putAround_25 : decode cX2_putAround 25 = .ok (.iload 6, 2) := by decide +kernel
theorem dX2_putAround_27 : decode cX2_putAround 27 = .ok (.invokevirtual 62, 3) := by decide +kernel
theorem dX2_putAround_30 : decode cX2_putAround 30 = .ok (.iload_n 3, 1) := by decide +kernel
theorem dX2_putAround_31 : decode cX2_putAround 31 = .ok (.if_icmp .ne 47, 3) := by decide +kernel
theorem dX2_putAround_34 : decode cX2_putAround 34 = .ok (.aload_n 1, 1) := by decide +kernel
theorem dX2_putAround_35 : decode cX2_putAround 35 = .ok (.iload 6, 2) := by decide +kernel
theorem dX2_putAround_37 : decode cX2_putAround 37 = .ok (.iload 4, 2) := by decide +kernel
theorem dX2_putAround_39 : decode cX2_putAround 39 = .ok (.invokevirtual 66, 3) := by decide +kernel
theorem dX2_putAround_42 : decode cX2_putAround 42 = .ok (.iload 5, 2) := by decide +kernel
theorem dX2_putAround_44 : decode cX2_putAround 44 = .ok (.if_icmp .ne 34, 3) := by decide +kernel
theorem dX2_putAround_47 : decode cX2_putAround 47 = .ok (.aload_n 0, 1) := by decide +kernel
theorem dX2_putAround_48 : decode cX2_putAround 48 = .ok (.aload_n 1, 1) := by decide +kernel
theorem dX2_putAround_49 : decode cX2_putAround 49 = .ok (.iload 6, 2) := by decide +kernel
theorem dX2_putAround_51 : decode cX2_putAround 51 = .ok (.invokevirtual 70, 3) := by decide +kernel
theorem dX2_putAround_54 : decode cX2_putAround 54 = .ok (.aload_n 1, 1) := by decide +kernel
theorem dX2_putAround_55 : decode cX2_putAround 55 = .ok (.iload 6, 2) := by decide +kernel
theorem dX2_putAround_57 : decode cX2_putAround 57 = .ok (.invokevirtual 74, 3) := by decide +kernel
theorem dX2_putAround_60 : decode cX2_putAround 60 = .ok (.aload_n 1, 1) := by decide +kernel
theorem dX2_putAround_61 : decode cX2_putAround 61 = .ok (.iload 6, 2) := by decide +kernel
theorem dX2_putAround_63 : decode cX2_putAround 63 = .ok (.invokevirtual 77, 3) := by decide +kernel
theorem dX2_putAround_66 : decode cX2_putAround 66 = .ok (.iload_n 3, 1) := by decide +kernel
theorem dX2_putAround_67 : decode cX2_putAround 67 = .ok (.ifCond .eq 7, 3) := by decide +kernel
theorem dX2_putAround_70 : decode cX2_putAround 70 = .ok (.iconst 1, 1) := by decide +kernel
theorem dX2_putAround_71 : decode cX2_putAround 71 = .ok (.goto 4, 3) := by decide +kernel
theorem dX2_putAround_74 : decode cX2_putAround 74 = .ok (.iconst 2, 1) := by decide +kernel
theorem dX2_putAround_75 : decode cX2_putAround 75 = .ok (.invokevirtual 80, 3) := by decide +kernel
theorem dX2_putAround_78 : decode cX2_putAround 78 = .ok (.iinc 6 1, 3) := by decide +kernel
theorem dX2_putAround_81 : decode cX2_putAround 81 = .ok (.goto (-66), 3) := by decide +kernel
theorem dX2_putAround_84 : decode cX2_putAround 84 = .ok (.iinc 5 1, 3) := by decide +kernel
theorem dX2_putAround_87 : decode cX2_putAround 87 = .ok (.goto (-84), 3) := by decide +kernel
theorem dX2_putAround_90 : decode cX2_putAround 90 = .ok (.return_, 1) := by decide +kernel
theorem dX2_clear_0 : decode cX2_clear 0 = .ok (.iconst 0, 1) := by decide +kernel
theorem dX2_clear_1 : decode cX2_clear 1 = .ok (.istore_n 2, 1) := by decide +kernel
theorem dX2_clear_2 : decode cX2_clear 2 = .ok (.iload_n 2, 1) := by decide +kernel
theorem dX2_clear_3 : decode cX2_clear 3 = .ok (.aload_n 0, 1) := by decide +kernel
theorem dX2_clear_4 : decode cX2_clear 4 = .ok (.getfield 84, 3) := by decide +kernel
theorem dX2_clear_7 : decode cX2_clear 7 = .ok (.if_icmp .ge 44, 3) := by decide +kernel
theorem dX2_clear_10 : decode cX2_clear 10 = .ok (.aload_n 0, 1) := by decide +kernel
theorem dX2_clear_11 : decode cX2_clear 11 = .ok (.getfield 23, 3) := by decide +kernel
theorem dX2_clear_14 : decode cX2_clear 14 = .ok (.aload_n 0, 1) := by decide +kernel
theorem dX2_clear_15 : decode cX2_clear 15 = .ok (.getfield 9, 3) := by decide +kernel
theorem dX2_clear_18 : decode cX2_clear 18 = .ok (.iload_n 2, 1) := by decide +kernel
theorem dX2_clear_19 : decode cX2_clear 19 = .ok (.invokestatic 87, 3) := by decide +kernel
theorem dX2_clear_22 : decode cX2_clear 22 = .ok (.aload_n 0, 1) := by decide +kernel
theorem dX2_clear_23 : decode cX2_clear 23 = .ok (.getfield 15, 3) := by decide +kernel
theorem dX2_clear_26 : decode cX2_clear 26 = .ok (.iload_n 2, 1) := by decide +kernel
theorem dX2_clear_27 : decode cX2_clear 27 = .ok (.invokestatic 87, 3) := by decide +kernel
theorem dX2_clear_30 : decode cX2_clear 30 = .ok (.aload_n 0, 1) := by decide +kernel
theorem dX2_clear_31 : decode cX2_clear 31 = .ok (.getfield 18, 3) := by decide +kernel
theorem dX2_clear_34 : decode cX2_clear 34 = .ok (.iload_n 2, 1) := by decide +kernel
theorem dX2_clear_35 : decode cX2_clear 35 = .ok (.invokestatic 87, 3) := by decide +kernel
theorem dX2_clear_38 : decode cX2_clear 38 = .ok (.invokestatic 93, 3) := by decide +kernel
theorem dX2_clear_41 : decode cX2_clear 41 = .ok (.iconst 0, 1) := by decide +kernel
theorem dX2_clear_42 : decode cX2_clear 42 = .ok (.invokestatic 97, 3) := by decide +kernel
theorem dX2_clear_45 : decode cX2_clear 45 = .ok (.iinc 2 1, 3) := by decide +kernel
theorem dX2_clear_48 : decode cX2_clear 48 = .ok (.goto (-46), 3) := by decide +kernel
theorem dX2_clear_51 : decode cX2_clear 51 = .ok (.aload_n 0, 1) := by decide +kernel
theorem dX2_clear_52 : decode cX2_clear 52 = .ok (.getfield 26, 3) := by decide +kernel
theorem dX2_clear_55 : decode cX2_clear 55 = .ok (.sipush 1000, 3) := by decide +kernel
theorem dX2_clear_58 : decode cX2_clear 58 = .ok (.invokestatic 100, 3) := by decide +kernel
theorem dX2_clear_61 : decode cX2_clear 61 = .ok (.aload_n 0, 1) := by decide +kernel
theorem dX2_clear_62 : decode cX2_clear 62 = .ok (.getfield 29, 3) := by decide +kernel
theorem dX2_clear_65 : decode cX2_clear 65 = .ok (.sipush (-1000), 3) := by decide +kernel
theorem dX2_clear_68 : decode cX2_clear 68 = .ok (.invokestatic 100, 3) := by decide +kernel
theorem dX2_clear_71 : decode cX2_clear 71 = .ok (.aload_n 0, 1) := by decide +kernel
theorem dX2_clear_72 : decode cX2_clear 72 = .ok (.iload_n 1, 1) := by decide +kernel
theorem dX2_clear_73 : decode cX2_clear 73 = .ok (.putfield 104, 3) := by decide +kernel
theorem dX2_clear_76 : decode cX2_clear 76 = .ok (.aload_n 0, 1) := by decide +kernel
theorem dX2_clear_77 : decode cX2_clear 77 = .ok (.iconst 0, 1) := by decide +kernel
theorem dX2_clear_78 : decode cX2_clear 78 = .ok (.putfield 107, 3) := by decide +kernel
theorem dX2_clear_81 : decode cX2_clear 81 = .ok (.aload_n 0, 1) := by decide +kernel
theorem dX2_clear_82 : decode cX2_clear 82 = .ok (.iconst 0, 1) := by decide +kernel
theorem dX2_clear_83 : decode cX2_clear 83 = .ok (.putfield 84, 3) := by decide +kernel
theorem dX2_clear_86 : decode cX2_clear 86 = .ok (.return_, 1) := by decide +kernel
theorem dX2_put_0 : decode cX2_put 0 = .ok (.iload_n 1, 1) := by decide +kernel
theorem dX2_put_1 : decode cX2_put 1 = .ok (.iload_n 2, 1) := by decide +kernel
theorem dX2_put_2 : decode cX2_put 2 = .ok (.iload_n 3, 1) := by decide +kernel
theorem dX2_put_3 : decode cX2_put 3 = .ok (.invokestatic 93, 3) := by decide +kernel
theorem dX2_put_6 : decode cX2_put 6 = .ok (.istore 5, 2) := by decide +kernel
theorem dX2_put_8 : decode cX2_put 8 = .ok (.aload_n 0, 1) := by decide +kernel
theorem dX2_put_9 : decode cX2_put 9 = .ok (.getfield 23, 3) := by decide +kernel
theorem dX2_put_12 : decode cX2_put 12 = .ok (.iload 5, 2) := by decide +kernel
theorem dX2_put_14 : decode cX2_put 14 = .ok (.invokestatic 87, 3) := by decide +kernel
theorem dX2_put_17 : decode cX2_put 17 = .ok (.ifCond .eq 4, 3) := by decide +kernel
theorem dX2_put_20 : decode cX2_put 20 = .ok (.return_, 1) := by decide +kernel
theorem dX2_put_21 : decode cX2_put 21 = .ok (.aload_n 0, 1) := by decide +kernel
theorem dX2_put_22 : decode cX2_put 22 = .ok (.getfield 23, 3) := by decide +kernel
theorem dX2_put_25 : decode cX2_put 25 = .ok (.iload 5, 2) := by decide +kernel
theorem dX2_put_27 : decode cX2_put 27 = .ok (.iload 4, 2) := by decide +kernel
theorem dX2_put_29 : decode cX2_put 29 = .ok (.invokestatic 97, 3) := by decide +kernel
theorem dX2_put_32 : decode cX2_put 32 = .ok (.aload_n 0, 1) := by decide +kernel
theorem dX2_put_33 : decode cX2_put 33 = .ok (.getfield 9, 3) := by decide +kernel
theorem dX2_put_36 : decode cX2_put 36 = .ok (.aload_n 0, 1) := by decide +kernel
theorem dX2_put_37 : decode cX2_put 37 = .ok (.getfield 84, 3) := by decide +kernel
theorem dX2_put_40 : decode cX2_put 40 = .ok (.iload_n 1, 1) := by decide +kernel
theorem dX2_put_41 : decode cX2_put 41 = .ok (.invokestatic 97, 3) := by decide +kernel
theorem dX2_put_44 : decode cX2_put 44 = .ok (.aload_n 0, 1) := by decide +kernel
theorem dX2_put_45 : decode cX2_put 45 = .ok (.getfield 15, 3) := by decide +kernel
theorem dX2_put_48 : decode cX2_put 48 = .ok (.aload_n 0, 1) := by decide +kernel
theorem dX2_put_49 : decode cX2_put 49 = .ok (.getfield 84, 3) := by decide +kernel
theorem dX2_put_52 : decode cX2_put 52 = .ok (.iload_n 2, 1) := by decide +kernel
theorem dX2_put_53 : decode cX2_put 53 = .ok (.invokestatic 97, 3) := by decide +kernel
theorem dX2_put_56 : decode cX2_put 56 = .ok (.aload_n 0, 1) := by decide +kernel
theorem dX2_put_57 : decode cX2_put 57 = .ok (.getfield 18, 3) := by decide +kernel
theorem dX2_put_60 : decode cX2_put 60 = .ok (.aload_n 0, 1) := by decide +kernel
theorem dX2_put_61 : decode cX2_put 61 = .ok (.getfield 84, 3) := by decide +kernel
theorem dX2_put_64 : decode cX2_put 64 = .ok (.iload_n 3, 1) := by decide +kernel
theorem dX2_put_65 : decode cX2_put 65 = .ok (.invokestatic 97, 3) := by decide +kernel
theorem dX2_put_68 : decode cX2_put 68 = .ok (.aload_n 0, 1) := by decide +kernel
theorem dX2_put_69 : decode cX2_put 69 = .ok (.dup, 1) := by decide +kernel
theorem dX2_put_70 : decode cX2_put 70 = .ok (.getfield 84, 3) := by decide +kernel
theorem dX2_put_73 : decode cX2_put 73 = .ok (.iconst 1, 1) := by decide +kernel
theorem dX2_put_74 : decode cX2_put 74 = .ok (.iadd, 1) := by decide +kernel
theorem dX2_put_75 : decode cX2_put 75 = .ok (.putfield 84, 3) := by decide +kernel
theorem dX2_put_78 : decode cX2_put 78 = .ok (.aload_n 0, 1) := by decide +kernel
theorem dX2_put_79 : decode cX2_put 79 = .ok (.dup, 1) := by decide +kernel
theorem dX2_put_80 : decode cX2_put 80 = .ok (.getfield 107, 3) := by decide +kernel
theorem dX2_put_83 : decode cX2_put 83 = .ok (.iload 4, 2) := by decide +kernel
theorem dX2_put_85 : decode cX2_put 85 = .ok (.aload_n 0, 1) := by decide +kernel
theorem dX2_put_86 : decode cX2_put 86 = .ok (.getfield 104, 3) := by decide +kernel
theorem dX2_put_89 : decode cX2_put 89 = .ok (.if_icmp .ne 7, 3) := by decide +kernel
theorem dX2_put_92 : decode cX2_put 92 = .ok (.iconst 1, 1) := by decide +kernel
theorem dX2_put_93 : decode cX2_put 93 = .ok (.goto 4, 3) := by decide +kernel
theorem dX2_put_96 : decode cX2_put 96 = .ok (.iconst 0, 1) := by decide +kernel
theorem dX2_put_97 : decode cX2_put 97 = .ok (.invokestatic 110, 3) := by decide +kernel
theorem dX2_put_100 : decode cX2_put 100 = .ok (.iadd, 1) := by decide +kernel
theorem dX2_put_101 : decode cX2_put 101 = .ok (.putfield 107, 3) := by decide +kernel
theorem dX2_put_104 : decode cX2_put 104 = .ok (.iconst 0, 1) := by decide +kernel
theorem dX2_put_105 : decode cX2_put 105 = .ok (.istore 6, 2) := by decide +kernel
theorem dX2_put_107 : decode cX2_put 107 = .ok (.iload 6, 2) := by decide +kernel
theorem dX2_put_109 : decode cX2_put 109 = .ok (.iconst 4, 1) := by decide +kernel
theorem dX2_put_110 : decode cX2_put 110 = .ok (.if_icmp .ge 28, 3) := by decide +kernel
theorem dX2_put_113 : decode cX2_put 113 = .ok (.aload_n 0, 1) := by decide +kernel
theorem dX2_put_114 : decode cX2_put 114 = .ok (.iload 4, 2) := by decide +kernel
theorem dX2_put_116 : decode cX2_put 116 = .ok (.iload 6, 2) := by decide +kernel
theorem dX2_put_118 : decode cX2_put 118 = .ok (.invokestatic 113, 3) := by decide +kernel
theorem dX2_put_121 : decode cX2_put 121 = .ok (.iload 6, 2) := by decide +kernel
theorem dX2_put_123 : decode cX2_put 123 = .ok (.iload_n 1, 1) := by decide +kernel
theorem dX2_put_124 : decode cX2_put 124 = .ok (.iload_n 2, 1) := by decide +kernel
theorem dX2_put_125 : decode cX2_put 125 = .ok (.iload_n 3, 1) := by decide +kernel
theorem dX2_put_126 : decode cX2_put 126 = .ok (.invokestatic 116, 3) := by decide +kernel
theorem dX2_put_129 : decode cX2_put 129 = .ok (.invokevirtual 120, 3) := by decide +kernel
theorem dX2_put_132 : decode cX2_put 132 = .ok (.iinc 6 1, 3) := by decide +kernel
theorem dX2_put_135 : decode cX2_put 135 = .ok (.goto (-28), 3) := by decide +kernel
theorem dX2_put_138 : decode cX2_put 138 = .ok (.return_, 1) := by decide +kernel
theorem dX2_secondKind_0 : decode cX2_secondKind 0 = .ok (.aload_n 0, 1) := by decide +kernel
theorem dX2_secondKind_1 : decode cX2_secondKind 1 = .ok (.getfield 104, 3) := by decide +kernel
theorem dX2_secondKind_4 : decode cX2_secondKind 4 = .ok (.iconst 1, 1) := by decide +kernel
theorem dX2_secondKind_5 : decode cX2_secondKind 5 = .ok (.if_icmp .ne 7, 3) := by decide +kernel
theorem dX2_secondKind_8 : decode cX2_secondKind 8 = .ok (.iconst 2, 1) := by decide +kernel
theorem dX2_secondKind_9 : decode cX2_secondKind 9 = .ok (.goto 4, 3) := by decide +kernel
theorem dX2_secondKind_12 : decode cX2_secondKind 12 = .ok (.iconst 1, 1) := by decide +kernel
theorem dX2_secondKind_13 : decode cX2_secondKind 13 = .ok (.ireturn, 1) := by decide +kernel
theorem dX2_widen_0 : decode cX2_widen 0 = .ok (.aload_n 0, 1) := by decide +kernel
theorem dX2_widen_1 : decode cX2_widen 1 = .ok (.getfield 26, 3) := by decide +kernel
theorem dX2_widen_4 : decode cX2_widen 4 = .ok (.iload_n 1, 1) := by decide +kernel
theorem dX2_widen_5 : decode cX2_widen 5 = .ok (.aload_n 0, 1) := by decide +kernel
theorem dX2_widen_6 : decode cX2_widen 6 = .ok (.getfield 26, 3) := by decide +kernel
theorem dX2_widen_9 : decode cX2_widen 9 = .ok (.iload_n 1, 1) := by decide +kernel
theorem dX2_widen_10 : decode cX2_widen 10 = .ok (.invokestatic 87, 3) := by decide +kernel
theorem dX2_widen_13 : decode cX2_widen 13 = .ok (.iload_n 2, 1) := by decide +kernel
theorem dX2_widen_14 : decode cX2_widen 14 = .ok (.invokestatic 124, 3) := by decide +kernel
theorem dX2_widen_17 : decode cX2_widen 17 = .ok (.invokestatic 97, 3) := by decide +kernel
theorem dX2_widen_20 : decode cX2_widen 20 = .ok (.aload_n 0, 1) := by decide +kernel
theorem dX2_widen_21 : decode cX2_widen 21 = .ok (.getfield 29, 3) := by decide +kernel
theorem dX2_widen_24 : decode cX2_widen 24 = .ok (.iload_n 1, 1) := by decide +kernel
theorem dX2_widen_25 : decode cX2_widen 25 = .ok (.aload_n 0, 1) := by decide +kernel
theorem dX2_widen_26 : decode cX2_widen 26 = .ok (.getfield 29, 3) := by decide +kernel
theorem dX2_widen_29 : decode cX2_widen 29 = .ok (.iload_n 1, 1) := by decide +kernel
theorem dX2_widen_30 : decode cX2_widen 30 = .ok (.invokestatic 87, 3) := by decide +kernel
theorem dX2_widen_33 : decode cX2_widen 33 = .ok (.iload_n 2, 1) := by decide +kernel
theorem dX2_widen_34 : decode cX2_widen 34 = .ok (.invokestatic 129, 3) := by decide +kernel
theorem dX2_widen_37 : decode cX2_widen 37 = .ok (.invokestatic 97, 3) := by decide +kernel
theorem dX2_widen_40 : decode cX2_widen 40 = .ok (.return_, 1) := by decide +kernel
theorem dX2_least_0 : decode cX2_least 0 = .ok (.aload_n 0, 1) := by decide +kernel
theorem dX2_least_1 : decode cX2_least 1 = .ok (.getfield 26, 3) := by decide +kernel
theorem dX2_least_4 : decode cX2_least 4 = .ok (.iconst 1, 1) := by decide +kernel
theorem dX2_least_5 : decode cX2_least 5 = .ok (.iload_n 1, 1) := by decide +kernel
theorem dX2_least_6 : decode cX2_least 6 = .ok (.invokestatic 113, 3) := by decide +kernel
theorem dX2_least_9 : decode cX2_least 9 = .ok (.invokestatic 87, 3) := by decide +kernel
theorem dX2_least_12 : decode cX2_least 12 = .ok (.aload_n 0, 1) := by decide +kernel
theorem dX2_least_13 : decode cX2_least 13 = .ok (.getfield 26, 3) := by decide +kernel
theorem dX2_least_16 : decode cX2_least 16 = .ok (.iconst 2, 1) := by decide +kernel
theorem dX2_least_17 : decode cX2_least 17 = .ok (.iload_n 1, 1) := by decide +kernel
theorem dX2_least_18 : decode cX2_least 18 = .ok (.invokestatic 113, 3) := by decide +kernel
theorem dX2_least_21 : decode cX2_least 21 = .ok (.invokestatic 87, 3) := by decide +kernel
theorem dX2_least_24 : decode cX2_least 24 = .ok (.invokestatic 124, 3) := by decide +kernel
theorem dX2_least_27 : decode cX2_least 27 = .ok (.ireturn, 1) := by decide +kernel
theorem dX2_greatest_0 : decode cX2_greatest 0 = .ok (.aload_n 0, 1) := by decide +kernel
theorem dX2_greatest_1 : decode cX2_greatest 1 = .ok (.getfield 29, 3) := by decide +kernel
theorem dX2_greatest_4 : decode cX2_greatest 4 = .ok (.iconst 1, 1) := by decide +kernel
theorem dX2_greatest_5 : decode cX2_greatest 5 = .ok (.iload_n 1, 1) := by decide +kernel
theorem dX2_greatest_6 : decode cX2_greatest 6 = .ok (.invokestatic 113, 3) := by decide +kernel
theorem dX2_greatest_9 : decode cX2_greatest 9 = .ok (.invokestatic 87, 3) := by decide +kernel
theorem dX2_greatest_12 : decode cX2_greatest 12 = .ok (.aload_n 0, 1) := by decide +kernel
theorem dX2_greatest_13 : decode cX2_greatest 13 = .ok (.getfield 29, 3) := by decide +kernel
theorem dX2_greatest_16 : decode cX2_greatest 16 = .ok (.iconst 2, 1) := by decide +kernel
theorem dX2_greatest_17 : decode cX2_greatest 17 = .ok (.iload_n 1, 1) := by decide +kernel
theorem dX2_greatest_18 : decode cX2_greatest 18 = .ok (.invokestatic 113, 3) := by decide +kernel
theorem dX2_greatest_21 : decode cX2_greatest 21 = .ok (.invokestatic 87, 3) := by decide +kernel
theorem dX2_greatest_24 : decode cX2_greatest 24 = .ok (.invokestatic 129, 3) := by decide +kernel
theorem dX2_greatest_27 : decode cX2_greatest 27 = .ok (.ireturn, 1) := by decide +kernel
theorem dX2_row_0 : decode cX2_row 0 = .ok (.iconst 4, 1) := by decide +kernel
theorem dX2_row_1 : decode cX2_row 1 = .ok (.iload_n 0, 1) := by decide +kernel
theorem dX2_row_2 : decode cX2_row 2 = .ok (.imul, 1) := by decide +kernel
theorem dX2_row_3 : decode cX2_row 3 = .ok (.iload_n 1, 1) := by decide +kernel
theorem dX2_row_4 : decode cX2_row 4 = .ok (.iadd, 1) := by decide +kernel
theorem dX2_row_5 : decode cX2_row 5 = .ok (.ireturn, 1) := by decide +kernel
theorem dX2_firstStrip_0 : decode cX2_firstStrip 0 = .ok (.sipush 1000, 3) := by decide +kernel
theorem dX2_firstStrip_3 : decode cX2_firstStrip 3 = .ok (.istore_n 1, 1) := by decide +kernel
theorem dX2_firstStrip_4 : decode cX2_firstStrip 4 = .ok (.iconst 0, 1) := by decide +kernel
theorem dX2_firstStrip_5 : decode cX2_firstStrip 5 = .ok (.istore_n 2, 1) := by decide +kernel
theorem dX2_firstStrip_6 : decode cX2_firstStrip 6 = .ok (.iload_n 2, 1) := by decide +kernel
theorem dX2_firstStrip_7 : decode cX2_firstStrip 7 = .ok (.iconst 4, 1) := by decide +kernel
theorem dX2_firstStrip_8 : decode cX2_firstStrip 8 = .ok (.if_icmp .ge 19, 3) := by decide +kernel
theorem dX2_firstStrip_11 : decode cX2_firstStrip 11 = .ok (.iload_n 1, 1) := by decide +kernel
theorem dX2_firstStrip_12 : decode cX2_firstStrip 12 = .ok (.aload_n 0, 1) := by decide +kernel
theorem dX2_firstStrip_13 : decode cX2_firstStrip 13 = .ok (.iload_n 2, 1) := by decide +kernel
theorem dX2_firstStrip_14 : decode cX2_firstStrip 14 = .ok (.invokevirtual 132, 3) := by decide +kernel
theorem dX2_firstStrip_17 : decode cX2_firstStrip 17 = .ok (.invokestatic 124, 3) := by decide +kernel
theorem dX2_firstStrip_20 : decode cX2_firstStrip 20 = .ok (.istore_n 1, 1) := by decide +kernel
theorem dX2_firstStrip_21 : decode cX2_firstStrip 21 = .ok (.iinc 2 1, 3) := by decide +kernel
theorem dX2_firstStrip_24 : decode cX2_firstStrip 24 = .ok (.goto (-18), 3) := by decide +kernel
theorem dX2_firstStrip_27 : decode cX2_firstStrip 27 = .ok (.iload_n 1, 1) := by decide +kernel
theorem dX2_firstStrip_28 : decode cX2_firstStrip 28 = .ok (.ireturn, 1) := by decide +kernel
theorem dX2_lastStrip_0 : decode cX2_lastStrip 0 = .ok (.sipush (-1000), 3) := by decide +kernel
theorem dX2_lastStrip_3 : decode cX2_lastStrip 3 = .ok (.istore_n 1, 1) := by decide +kernel
theorem dX2_lastStrip_4 : decode cX2_lastStrip 4 = .ok (.iconst 0, 1) := by decide +kernel
theorem dX2_lastStrip_5 : decode cX2_lastStrip 5 = .ok (.istore_n 2, 1) := by decide +kernel
theorem dX2_lastStrip_6 : decode cX2_lastStrip 6 = .ok (.iload_n 2, 1) := by decide +kernel
theorem dX2_lastStrip_7 : decode cX2_lastStrip 7 = .ok (.iconst 4, 1) := by decide +kernel
theorem dX2_lastStrip_8 : decode cX2_lastStrip 8 = .ok (.if_icmp .ge 19, 3) := by decide +kernel
theorem dX2_lastStrip_11 : decode cX2_lastStrip 11 = .ok (.iload_n 1, 1) := by decide +kernel
theorem dX2_lastStrip_12 : decode cX2_lastStrip 12 = .ok (.aload_n 0, 1) := by decide +kernel
theorem dX2_lastStrip_13 : decode cX2_lastStrip 13 = .ok (.iload_n 2, 1) := by decide +kernel
theorem dX2_lastStrip_14 : decode cX2_lastStrip 14 = .ok (.invokevirtual 135, 3) := by decide +kernel
theorem dX2_lastStrip_17 : decode cX2_lastStrip 17 = .ok (.invokestatic 129, 3) := by decide +kernel
theorem dX2_lastStrip_20 : decode cX2_lastStrip 20 = .ok (.istore_n 1, 1) := by decide +kernel
theorem dX2_lastStrip_21 : decode cX2_lastStrip 21 = .ok (.iinc 2 1, 3) := by decide +kernel
theorem dX2_lastStrip_24 : decode cX2_lastStrip 24 = .ok (.goto (-18), 3) := by decide +kernel
theorem dX2_lastStrip_27 : decode cX2_lastStrip 27 = .ok (.iload_n 1, 1) := by decide +kernel
theorem dX2_lastStrip_28 : decode cX2_lastStrip 28 = .ok (.ireturn, 1) := by decide +kernel
theorem dX2_isCrossed_0 : decode cX2_isCrossed 0 = .ok (.aload_n 0, 1) := by decide +kernel
theorem dX2_isCrossed_1 : decode cX2_isCrossed 1 = .ok (.iload_n 1, 1) := by decide +kernel
theorem dX2_isCrossed_2 : decode cX2_isCrossed 2 = .ok (.invokevirtual 132, 3) := by decide +kernel
theorem dX2_isCrossed_5 : decode cX2_isCrossed 5 = .ok (.iload_n 2, 1) := by decide +kernel
theorem dX2_isCrossed_6 : decode cX2_isCrossed 6 = .ok (.if_icmp .ge 16, 3) := by decide +kernel
theorem dX2_isCrossed_9 : decode cX2_isCrossed 9 = .ok (.aload_n 0, 1) := by decide +kernel
theorem dX2_isCrossed_10 : decode cX2_isCrossed 10 = .ok (.iload_n 1, 1) := by decide +kernel
theorem dX2_isCrossed_11 : decode cX2_isCrossed 11 = .ok (.invokevirtual 135, 3) := by decide +kernel
theorem dX2_isCrossed_14 : decode cX2_isCrossed 14 = .ok (.iload_n 2, 1) := by decide +kernel
theorem dX2_isCrossed_15 : decode cX2_isCrossed 15 = .ok (.if_icmp .lt 7, 3) := by decide +kernel
theorem dX2_isCrossed_18 : decode cX2_isCrossed 18 = .ok (.iconst 1, 1) := by decide +kernel
theorem dX2_isCrossed_19 : decode cX2_isCrossed 19 = .ok (.goto 4, 3) := by decide +kernel
theorem dX2_isCrossed_22 : decode cX2_isCrossed 22 = .ok (.iconst 0, 1) := by decide +kernel
theorem dX2_isCrossed_23 : decode cX2_isCrossed 23 = .ok (.ireturn, 1) := by decide +kernel
theorem dX2_fits_0 : decode cX2_fits 0 = .ok (.iconst 2, 1) := by decide +kernel
theorem dX2_fits_1 : decode cX2_fits 1 = .ok (.aload_n 0, 1) := by decide +kernel
theorem dX2_fits_2 : decode cX2_fits 2 = .ok (.getfield 107, 3) := by decide +kernel
theorem dX2_fits_5 : decode cX2_fits 5 = .ok (.imul, 1) := by decide +kernel
theorem dX2_fits_6 : decode cX2_fits 6 = .ok (.aload_n 0, 1) := by decide +kernel
theorem dX2_fits_7 : decode cX2_fits 7 = .ok (.getfield 84, 3) := by decide +kernel
theorem dX2_fits_10 : decode cX2_fits 10 = .ok (.if_icmp .gt 7, 3) := by decide +kernel
theorem dX2_fits_13 : decode cX2_fits 13 = .ok (.iconst 1, 1) := by decide +kernel
theorem dX2_fits_14 : decode cX2_fits 14 = .ok (.goto 4, 3) := by decide +kernel
theorem dX2_fits_17 : decode cX2_fits 17 = .ok (.iconst 0, 1) := by decide +kernel
theorem dX2_fits_18 : decode cX2_fits 18 = .ok (.istore_n 3, 1) := by decide +kernel
theorem dX2_fits_19 : decode cX2_fits 19 = .ok (.iload_n 3, 1) := by decide +kernel
theorem dX2_fits_20 : decode cX2_fits 20 = .ok (.ifCond .eq 10, 3) := by decide +kernel
theorem dX2_fits_23 : decode cX2_fits 23 = .ok (.aload_n 0, 1) := by decide +kernel
theorem dX2_fits_24 : decode cX2_fits 24 = .ok (.getfield 107, 3) := by decide +kernel
theorem dX2_fits_27 : decode cX2_fits 27 = .ok (.goto 7, 3) := by decide +kernel
theorem dX2_fits_30 : decode cX2_fits 30 = .ok (.aload_n 0, 1) := by decide +kernel
theorem dX2_fits_31 : decode cX2_fits 31 = .ok (.getfield 84, 3) := by decide +kernel
theorem dX2_fits_34 : decode cX2_fits 34 = .ok (.istore 4, 2) := by decide +kernel
theorem dX2_fits_36 : decode cX2_fits 36 = .ok (.iload_n 3, 1) := by decide +kernel
theorem dX2_fits_37 : decode cX2_fits 37 = .ok (.ifCond .eq 10, 3) := by decide +kernel
theorem dX2_fits_40 : decode cX2_fits 40 = .ok (.aload_n 0, 1) := by decide +kernel
theorem dX2_fits_41 : decode cX2_fits 41 = .ok (.invokevirtual 138, 3) := by decide +kernel
theorem dX2_fits_44 : decode cX2_fits 44 = .ok (.goto 7, 3) := by decide +kernel
theorem dX2_fits_47 : decode cX2_fits 47 = .ok (.aload_n 0, 1) := by decide +kernel
theorem dX2_fits_48 : decode cX2_fits 48 = .ok (.getfield 104, 3) := by decide +kernel
theorem dX2_fits_51 : decode cX2_fits 51 = .ok (.istore 5, 2) := by decide +kernel
theorem dX2_fits_53 : decode cX2_fits 53 = .ok (.iload_n 3, 1) := by decide +kernel
theorem dX2_fits_54 : decode cX2_fits 54 = .ok (.ifCond .eq 7, 3) := by decide +kernel
theorem dX2_fits_57 : decode cX2_fits 57 = .ok (.iconst 0, 1) := by decide +kernel
theorem dX2_fits_58 : decode cX2_fits 58 = .ok (.goto 7, 3) := by decide +kernel
theorem dX2_fits_61 : decode cX2_fits 61 = .ok (.aload_n 0, 1) := by decide +kernel
theorem dX2_fits_62 : decode cX2_fits 62 = .ok (.getfield 107, 3) := by decide +kernel
theorem dX2_fits_65 : decode cX2_fits 65 = .ok (.istore 6, 2) := by decide +kernel
theorem dX2_fits_67 : decode cX2_fits 67 = .ok (.iload 6, 2) := by decide +kernel
theorem dX2_fits_69 : decode cX2_fits 69 = .ok (.iload 4, 2) := by decide +kernel
theorem dX2_fits_71 : decode cX2_fits 71 = .ok (.if_icmp .ge 97, 3) := by decide +kernel
theorem dX2_fits_74 : decode cX2_fits 74 = .ok (.iload_n 1, 1) := by decide +kernel
theorem dX2_fits_75 : decode cX2_fits 75 = .ok (.iload_n 2, 1) := by decide +kernel
theorem dX2_fits_76 : decode cX2_fits 76 = .ok (.aload_n 0, 1) := by decide +kernel
theorem dX2_fits_77 : decode cX2_fits 77 = .ok (.getfield 9, 3) := by decide +kernel
theorem dX2_fits_80 : decode cX2_fits 80 = .ok (.iload 6, 2) := by decide +kernel
theorem dX2_fits_82 : decode cX2_fits 82 = .ok (.invokestatic 87, 3) := by decide +kernel
theorem dX2_fits_85 : decode cX2_fits 85 = .ok (.aload_n 0, 1) := by decide +kernel
theorem dX2_fits_86 : decode cX2_fits 86 = .ok (.getfield 15, 3) := by decide +kernel
theorem dX2_fits_89 : decode cX2_fits 89 = .ok (.iload 6, 2) := by decide +kernel
theorem dX2_fits_91 : decode cX2_fits 91 = .ok (.invokestatic 87, 3) := by decide +kernel
theorem dX2_fits_94 : decode cX2_fits 94 = .ok (.invokestatic 142, 3) := by decide +kernel
theorem dX2_fits_97 : decode cX2_fits 97 = .ok (.istore 7, 2) := by decide +kernel
theorem dX2_fits_99 : decode cX2_fits 99 = .ok (.iload_n 1, 1) := by decide +kernel
theorem dX2_fits_100 : decode cX2_fits 100 = .ok (.iload_n 2, 1) := by decide +kernel
theorem dX2_fits_101 : decode cX2_fits 101 = .ok (.aload_n 0, 1) := by decide +kernel
theorem dX2_fits_102 : decode cX2_fits 102 = .ok (.getfield 9, 3) := by decide +kernel
theorem dX2_fits_105 : decode cX2_fits 105 = .ok (.iload 6, 2) := by decide +kernel
theorem dX2_fits_107 : decode cX2_fits 107 = .ok (.invokestatic 87, 3) := by decide +kernel
theorem dX2_fits_110 : decode cX2_fits 110 = .ok (.aload_n 0, 1) := by decide +kernel
theorem dX2_fits_111 : decode cX2_fits 111 = .ok (.getfield 15, 3) := by decide +kernel
theorem dX2_fits_114 : decode cX2_fits 114 = .ok (.iload 6, 2) := by decide +kernel
theorem dX2_fits_116 : decode cX2_fits 116 = .ok (.invokestatic 87, 3) := by decide +kernel
theorem dX2_fits_119 : decode cX2_fits 119 = .ok (.invokestatic 145, 3) := by decide +kernel
theorem dX2_fits_122 : decode cX2_fits 122 = .ok (.istore 8, 2) := by decide +kernel
theorem dX2_fits_124 : decode cX2_fits 124 = .ok (.iload_n 1, 1) := by decide +kernel
theorem dX2_fits_125 : decode cX2_fits 125 = .ok (.aload_n 0, 1) := by decide +kernel
theorem dX2_fits_126 : decode cX2_fits 126 = .ok (.getfield 18, 3) := by decide +kernel
theorem dX2_fits_129 : decode cX2_fits 129 = .ok (.iload 6, 2) := by decide +kernel
theorem dX2_fits_131 : decode cX2_fits 131 = .ok (.invokestatic 87, 3) := by decide +kernel
theorem dX2_fits_134 : decode cX2_fits 134 = .ok (.invokestatic 148, 3) := by decide +kernel
theorem dX2_fits_137 : decode cX2_fits 137 = .ok (.istore 9, 2) := by decide +kernel
theorem dX2_fits_139 : decode cX2_fits 139 = .ok (.aload_n 0, 1) := by decide +kernel
theorem dX2_fits_140 : decode cX2_fits 140 = .ok (.getfield 23, 3) := by decide +kernel
theorem dX2_fits_143 : decode cX2_fits 143 = .ok (.iload 7, 2) := by decide +kernel
theorem dX2_fits_145 : decode cX2_fits 145 = .ok (.iload 8, 2) := by decide +kernel
theorem dX2_fits_147 : decode cX2_fits 147 = .ok (.iload 9, 2) := by decide +kernel
theorem dX2_fits_149 : decode cX2_fits 149 = .ok (.invokestatic 93, 3) := by decide +kernel
theorem dX2_fits_152 : decode cX2_fits 152 = .ok (.invokestatic 87, 3) := by decide +kernel
theorem dX2_fits_155 : decode cX2_fits 155 = .ok (.iload 5, 2) := by decide +kernel
theorem dX2_fits_157 : decode cX2_fits 157 = .ok (.if_icmp .ne 5, 3) := by decide +kernel
theorem dX2_fits_160 : decode cX2_fits 160 = .ok (.iconst 0, 1) := by decide +kernel
theorem dX2_fits_161 : decode cX2_fits 161 = .ok (.ireturn, 1) := by decide +kernel
theorem dX2_fits_162 : decode cX2_fits 162 = .ok (.iinc 6 1, 3) := by decide +kernel
theorem dX2_fits_165 : decode cX2_fits 165 = .ok (.goto (-98), 3) := by decide +kernel
theorem dX2_fits_168 : decode cX2_fits 168 = .ok (.iconst 1, 1) := by decide +kernel
theorem dX2_fits_169 : decode cX2_fits 169 = .ok (.ireturn, 1) := by decide +kernel
theorem dX2_turnInto_0 : decode cX2_turnInto 0 = .ok (.aload_n 1, 1) := by decide +kernel
theorem dX2_turnInto_1 : decode cX2_turnInto 1 = .ok (.aload_n 0, 1) := by decide +kernel
theorem dX2_turnInto_2 : decode cX2_turnInto 2 = .ok (.getfield 104, 3) := by decide +kernel
theorem dX2_turnInto_5 : decode cX2_turnInto 5 = .ok (.invokevirtual 51, 3) := by decide +kernel
theorem dX2_turnInto_8 : decode cX2_turnInto 8 = .ok (.iconst 0, 1) := by decide +kernel
theorem dX2_turnInto_9 : decode cX2_turnInto 9 = .ok (.istore 6, 2) := by decide +kernel
theorem dX2_turnInto_11 : decode cX2_turnInto 11 = .ok (.iload 6, 2) := by decide +kernel
theorem dX2_turnInto_13 : decode cX2_turnInto 13 = .ok (.aload_n 0, 1) := by decide +kernel
theorem dX2_turnInto_14 : decode cX2_turnInto 14 = .ok (.getfield 84, 3) := by decide +kernel
theorem dX2_turnInto_17 : decode cX2_turnInto 17 = .ok (.if_icmp .ge 154, 3) := by decide +kernel
theorem dX2_turnInto_20 : decode cX2_turnInto 20 = .ok (.aload_n 0, 1) := by decide +kernel
theorem dX2_turnInto_21 : decode cX2_turnInto 21 = .ok (.getfield 9, 3) := by decide +kernel
theorem dX2_turnInto_24 : decode cX2_turnInto 24 = .ok (.iload 6, 2) := by decide +kernel
theorem dX2_turnInto_26 : decode cX2_turnInto 26 = .ok (.invokestatic 87, 3) := by decide +kernel
theorem dX2_turnInto_29 : decode cX2_turnInto 29 = .ok (.istore 7, 2) := by decide +kernel
theorem dX2_turnInto_31 : decode cX2_turnInto 31 = .ok (.aload_n 0, 1) := by decide +kernel
theorem dX2_turnInto_32 : decode cX2_turnInto 32 = .ok (.getfield 15, 3) := by decide +kernel
theorem dX2_turnInto_35 : decode cX2_turnInto 35 = .ok (.iload 6, 2) := by decide +kernel
theorem dX2_turnInto_37 : decode cX2_turnInto 37 = .ok (.invokestatic 87, 3) := by decide +kernel
theorem dX2_turnInto_40 : decode cX2_turnInto 40 = .ok (.istore 8, 2) := by decide +kernel
theorem dX2_turnInto_42 : decode cX2_turnInto 42 = .ok (.aload_n 0, 1) := by decide +kernel
theorem dX2_turnInto_43 : decode cX2_turnInto 43 = .ok (.getfield 18, 3) := by decide +kernel
theorem dX2_turnInto_46 : decode cX2_turnInto 46 = .ok (.iload 6, 2) := by decide +kernel
theorem dX2_turnInto_48 : decode cX2_turnInto 48 = .ok (.invokestatic 87, 3) := by decide +kernel
theorem dX2_turnInto_51 : decode cX2_turnInto 51 = .ok (.istore 9, 2) := by decide +kernel
theorem dX2_turnInto_53 : decode cX2_turnInto 53 = .ok (.iload 6, 2) := by decide +kernel
theorem dX2_turnInto_55 : decode cX2_turnInto 55 = .ok (.aload_n 0, 1) := by decide +kernel
theorem dX2_turnInto_56 : decode cX2_turnInto 56 = .ok (.getfield 107, 3) := by decide +kernel
theorem dX2_turnInto_59 : decode cX2_turnInto 59 = .ok (.if_icmp .ge 10, 3) := by decide +kernel
theorem dX2_turnInto_62 : decode cX2_turnInto 62 = .ok (.aload_n 0, 1) := by decide +kernel
theorem dX2_turnInto_63 : decode cX2_turnInto 63 = .ok (.getfield 104, 3) := by decide +kernel
theorem dX2_turnInto_66 : decode cX2_turnInto 66 = .ok (.goto 7, 3) := by decide +kernel
theorem dX2_turnInto_69 : decode cX2_turnInto 69 = .ok (.aload_n 0, 1) := by decide +kernel
theorem dX2_turnInto_70 : decode cX2_turnInto 70 = .ok (.invokevirtual 138, 3) := by decide +kernel
theorem dX2_turnInto_73 : decode cX2_turnInto 73 = .ok (.istore 10, 2) := by decide +kernel
theorem dX2_turnInto_75 : decode cX2_turnInto 75 = .ok (.iload_n 2, 1) := by decide +kernel
theorem dX2_turnInto_76 : decode cX2_turnInto 76 = .ok (.iload 7, 2) := by decide +kernel
theorem dX2_turnInto_78 : decode cX2_turnInto 78 = .ok (.iload 8, 2) := by decide +kernel
theorem dX2_turnInto_80 : decode cX2_turnInto 80 = .ok (.iload 9, 2) := by decide +kernel
theorem dX2_turnInto_82 : decode cX2_turnInto 82 = .ok (.invokestatic 116, 3) := by decide +kernel
theorem dX2_turnInto_85 : decode cX2_turnInto 85 = .ok (.iload_n 3, 1) := by decide +kernel
theorem dX2_turnInto_86 : decode cX2_turnInto 86 = .ok (.iload 4, 2) := by decide +kernel
theorem dX2_turnInto_88 : decode cX2_turnInto 88 = .ok (.invokestatic 151, 3) := by decide +kernel
theorem dX2_turnInto_91 : decode cX2_turnInto 91 = .ok (.ifCond .eq 40, 3) := by decide +kernel
theorem dX2_turnInto_94 : decode cX2_turnInto 94 = .ok (.iload_n 2, 1) := by decide +kernel
theorem dX2_turnInto_95 : decode cX2_turnInto 95 = .ok (.iload 9, 2) := by decide +kernel
theorem dX2_turnInto_97 : decode cX2_turnInto 97 = .ok (.invokestatic 148, 3) := by decide +kernel
theorem dX2_turnInto_100 : decode cX2_turnInto 100 = .ok (.istore 11, 2) := by decide +kernel
theorem dX2_turnInto_102 : decode cX2_turnInto 102 = .ok (.aload_n 1, 1) := by decide +kernel
theorem dX2_turnInto_103 : decode cX2_turnInto 103 = .ok (.iload_n 2, 1) := by decide +kernel
theorem dX2_turnInto_104 : decode cX2_turnInto 104 = .ok (.iload_n 3, 1) := by decide +kernel
theorem dX2_turnInto_105 : decode cX2_turnInto 105 = .ok (.iload 7, 2) := by decide +kernel
theorem dX2_turnInto_107 : decode cX2_turnInto 107 = .ok (.iload 8, 2) := by decide +kernel
theorem dX2_turnInto_109 : decode cX2_turnInto 109 = .ok (.invokestatic 142, 3) := by decide +kernel
theorem dX2_turnInto_112 : decode cX2_turnInto 112 = .ok (.iload_n 2, 1) := by decide +kernel
theorem dX2_turnInto_113 : decode cX2_turnInto 113 = .ok (.iload_n 3, 1) := by decide +kernel
theorem dX2_turnInto_114 : decode cX2_turnInto 114 = .ok (.iload 7, 2) := by decide +kernel
theorem dX2_turnInto_116 : decode cX2_turnInto 116 = .ok (.iload 8, 2) := by decide +kernel
theorem dX2_turnInto_118 : decode cX2_turnInto 118 = .ok (.invokestatic 145, 3) := by decide +kernel
theorem dX2_turnInto_121 : decode cX2_turnInto 121 = .ok (.iload 11, 2) := by decide +kernel
theorem dX2_turnInto_123 : decode cX2_turnInto 123 = .ok (.iload 10, 2) := by decide +kernel
theorem dX2_turnInto_125 : decode cX2_turnInto 125 = .ok (.invokevirtual 80, 3) := by decide +kernel
theorem dX2_turnInto_128 : decode cX2_turnInto 128 = .ok (.goto 15, 3) := by decide +kernel
theorem dX2_turnInto_131 : decode cX2_turnInto 131 = .ok (.aload_n 1, 1) := by decide +kernel
theorem dX2_turnInto_132 : decode cX2_turnInto 132 = .ok (.iload 7, 2) := by decide +kernel
theorem dX2_turnInto_134 : decode cX2_turnInto 134 = .ok (.iload 8, 2) := by decide +kernel
theorem dX2_turnInto_136 : decode cX2_turnInto 136 = .ok (.iload 9, 2) := by decide +kernel
theorem dX2_turnInto_138 : decode cX2_turnInto 138 = .ok (.iload 10, 2) := by decide +kernel
theorem dX2_turnInto_140 : decode cX2_turnInto 140 = .ok (.invokevirtual 80, 3) := by decide +kernel
theorem dX2_turnInto_143 : decode cX2_turnInto 143 = .ok (.iload 5, 2) := by decide +kernel
theorem dX2_turnInto_145 : decode cX2_turnInto 145 = .ok (.ifCond .eq 20, 3) := by decide +kernel
theorem dX2_turnInto_148 : decode cX2_turnInto 148 = .ok (.iload 6, 2) := by decide +kernel
theorem dX2_turnInto_150 : decode cX2_turnInto 150 = .ok (.aload_n 0, 1) := by decide +kernel
theorem dX2_turnInto_151 : decode cX2_turnInto 151 = .ok (.getfield 107, 3) := by decide +kernel
theorem dX2_turnInto_154 : decode cX2_turnInto 154 = .ok (.if_icmp .lt 11, 3) := by decide +kernel
theorem dX2_turnInto_157 : decode cX2_turnInto 157 = .ok (.aload_n 1, 1) := by decide +kernel
theorem dX2_turnInto_158 : decode cX2_turnInto 158 = .ok (.invokevirtual 155, 3) := by decide +kernel
theorem dX2_turnInto_161 : decode cX2_turnInto 161 = .ok (.ifCond .eq 4, 3) := by decide +kernel
theorem dX2_turnInto_164 : decode cX2_turnInto 164 = .ok (.return_, 1) := by decide +kernel
theorem dX2_turnInto_165 : decode cX2_turnInto 165 = .ok (.iinc 6 1, 3) := by decide +kernel
theorem dX2_turnInto_168 : decode cX2_turnInto 168 = .ok (.goto (-157), 3) := by decide +kernel
theorem dX2_turnInto_171 : decode cX2_turnInto 171 = .ok (.return_, 1) := by decide +kernel
theorem dX2_isEntangled_0 : decode cX2_isEntangled 0 = .ok (.iconst 0, 1) := by decide +kernel
theorem dX2_isEntangled_1 : decode cX2_isEntangled 1 = .ok (.istore_n 1, 1) := by decide +kernel
theorem dX2_isEntangled_2 : decode cX2_isEntangled 2 = .ok (.iload_n 1, 1) := by decide +kernel
theorem dX2_isEntangled_3 : decode cX2_isEntangled 3 = .ok (.iconst 4, 1) := by decide +kernel
theorem dX2_isEntangled_4 : decode cX2_isEntangled 4 = .ok (.if_icmp .ge 41, 3) := by decide +kernel
theorem dX2_isEntangled_7 : decode cX2_isEntangled 7 = .ok (.aload_n 0, 1) := by decide +kernel
theorem dX2_isEntangled_8 : decode cX2_isEntangled 8 = .ok (.iload_n 1, 1) := by decide +kernel
theorem dX2_isEntangled_9 : decode cX2_isEntangled 9 = .ok (.iconst 0, 1) := by decide +kernel
theorem dX2_isEntangled_10 : decode cX2_isEntangled 10 = .ok (.invokevirtual 159, 3) := by decide +kernel
theorem dX2_isEntangled_13 : decode cX2_isEntangled 13 = .ok (.aload_n 0, 1) := by decide +kernel
theorem dX2_isEntangled_14 : decode cX2_isEntangled 14 = .ok (.iload_n 1, 1) := by decide +kernel
theorem dX2_isEntangled_15 : decode cX2_isEntangled 15 = .ok (.iconst 0, 1) := by decide +kernel
theorem dX2_isEntangled_16 : decode cX2_isEntangled 16 = .ok (.invokevirtual 162, 3) := by decide +kernel
theorem dX2_isEntangled_19 : decode cX2_isEntangled 19 = .ok (.if_icmp .le 18, 3) := by decide +kernel
theorem dX2_isEntangled_22 : decode cX2_isEntangled 22 = .ok (.aload_n 0, 1) := by decide +kernel
theorem dX2_isEntangled_23 : decode cX2_isEntangled 23 = .ok (.iload_n 1, 1) := by decide +kernel
theorem dX2_isEntangled_24 : decode cX2_isEntangled 24 = .ok (.iconst 1, 1) := by decide +kernel
theorem dX2_isEntangled_25 : decode cX2_isEntangled 25 = .ok (.invokevirtual 159, 3) := by decide +kernel
theorem dX2_isEntangled_28 : decode cX2_isEntangled 28 = .ok (.aload_n 0, 1) := by decide +kernel
theorem dX2_isEntangled_29 : decode cX2_isEntangled 29 = .ok (.iload_n 1, 1) := by decide +kernel
theorem dX2_isEntangled_30 : decode cX2_isEntangled 30 = .ok (.iconst 1, 1) := by decide +kernel
theorem dX2_isEntangled_31 : decode cX2_isEntangled 31 = .ok (.invokevirtual 162, 3) := by decide +kernel
theorem dX2_isEntangled_34 : decode cX2_isEntangled 34 = .ok (.if_icmp .gt 5, 3) := by decide +kernel
theorem dX2_isEntangled_37 : decode cX2_isEntangled 37 = .ok (.iconst 0, 1) := by decide +kernel
theorem dX2_isEntangled_38 : decode cX2_isEntangled 38 = .ok (.ireturn, 1) := by decide +kernel
theorem dX2_isEntangled_39 : decode cX2_isEntangled 39 = .ok (.iinc 1 1, 3) := by decide +kernel
theorem dX2_isEntangled_42 : decode cX2_isEntangled 42 = .ok (.goto (-40), 3) := by decide +kernel
theorem dX2_isEntangled_45 : decode cX2_isEntangled 45 = .ok (.iconst 1, 1) := by decide +kernel
theorem dX2_isEntangled_46 : decode cX2_isEntangled 46 = .ok (.ireturn, 1) := by decide +kernel
theorem dX2_cuts_0 : decode cX2_cuts 0 = .ok (.iconst 0, 1) := by decide +kernel
theorem dX2_cuts_1 : decode cX2_cuts 1 = .ok (.istore_n 1, 1) := by decide +kernel
theorem dX2_cuts_2 : decode cX2_cuts 2 = .ok (.iconst 0, 1) := by decide +kernel
theorem dX2_cuts_3 : decode cX2_cuts 3 = .ok (.istore_n 2, 1) := by decide +kernel
theorem dX2_cuts_4 : decode cX2_cuts 4 = .ok (.iload_n 2, 1) := by decide +kernel
theorem dX2_cuts_5 : decode cX2_cuts 5 = .ok (.iconst 4, 1) := by decide +kernel
theorem dX2_cuts_6 : decode cX2_cuts 6 = .ok (.if_icmp .ge 44, 3) := by decide +kernel
theorem dX2_cuts_9 : decode cX2_cuts 9 = .ok (.iconst 0, 1) := by decide +kernel
theorem dX2_cuts_10 : decode cX2_cuts 10 = .ok (.istore_n 3, 1) := by decide +kernel
theorem dX2_cuts_11 : decode cX2_cuts 11 = .ok (.iload_n 3, 1) := by decide +kernel
theorem dX2_cuts_12 : decode cX2_cuts 12 = .ok (.iconst 2, 1) := by decide +kernel
theorem dX2_cuts_13 : decode cX2_cuts 13 = .ok (.if_icmp .ge 31, 3) := by decide +kernel
theorem dX2_cuts_16 : decode cX2_cuts 16 = .ok (.iload_n 1, 1) := by decide +kernel
theorem dX2_cuts_17 : decode cX2_cuts 17 = .ok (.iconst 0, 1) := by decide +kernel
theorem dX2_cuts_18 : decode cX2_cuts 18 = .ok (.aload_n 0, 1) := by decide +kernel
theorem dX2_cuts_19 : decode cX2_cuts 19 = .ok (.iload_n 2, 1) := by decide +kernel
theorem dX2_cuts_20 : decode cX2_cuts 20 = .ok (.iload_n 3, 1) := by decide +kernel
theorem dX2_cuts_21 : decode cX2_cuts 21 = .ok (.invokevirtual 162, 3) := by decide +kernel
theorem dX2_cuts_24 : decode cX2_cuts 24 = .ok (.aload_n 0, 1) := by decide +kernel
theorem dX2_cuts_25 : decode cX2_cuts 25 = .ok (.iload_n 2, 1) := by decide +kernel
theorem dX2_cuts_26 : decode cX2_cuts 26 = .ok (.iload_n 3, 1) := by decide +kernel
theorem dX2_cuts_27 : decode cX2_cuts 27 = .ok (.invokevirtual 159, 3) := by decide +kernel
theorem dX2_cuts_30 : decode cX2_cuts 30 = .ok (.isub, 1) := by decide +kernel
theorem dX2_cuts_31 : decode cX2_cuts 31 = .ok (.iconst 1, 1) := by decide +kernel
theorem dX2_cuts_32 : decode cX2_cuts 32 = .ok (.iadd, 1) := by decide +kernel
theorem dX2_cuts_33 : decode cX2_cuts 33 = .ok (.invokestatic 129, 3) := by decide +kernel
theorem dX2_cuts_36 : decode cX2_cuts 36 = .ok (.iadd, 1) := by decide +kernel
theorem dX2_cuts_37 : decode cX2_cuts 37 = .ok (.istore_n 1, 1) := by decide +kernel
theorem dX2_cuts_38 : decode cX2_cuts 38 = .ok (.iinc 3 1, 3) := by decide +kernel
theorem dX2_cuts_41 : decode cX2_cuts 41 = .ok (.goto (-30), 3) := by decide +kernel
theorem dX2_cuts_44 : decode cX2_cuts 44 = .ok (.iinc 2 1, 3) := by decide +kernel
theorem dX2_cuts_47 : decode cX2_cuts 47 = .ok (.goto (-43), 3) := by decide +kernel
theorem dX2_cuts_50 : decode cX2_cuts 50 = .ok (.iload_n 1, 1) := by decide +kernel
theorem dX2_cuts_51 : decode cX2_cuts 51 = .ok (.ireturn, 1) := by decide +kernel
theorem dX2_firstCut_0 : decode cX2_firstCut 0 = .ok (.sipush 10000, 3) := by decide +kernel
theorem dX2_firstCut_3 : decode cX2_firstCut 3 = .ok (.istore_n 1, 1) := by decide +kernel
theorem dX2_firstCut_4 : decode cX2_firstCut 4 = .ok (.iconst 0, 1) := by decide +kernel
theorem dX2_firstCut_5 : decode cX2_firstCut 5 = .ok (.istore_n 2, 1) := by decide +kernel
theorem dX2_firstCut_6 : decode cX2_firstCut 6 = .ok (.iload_n 2, 1) := by decide +kernel
theorem dX2_firstCut_7 : decode cX2_firstCut 7 = .ok (.iconst 4, 1) := by decide +kernel
theorem dX2_firstCut_8 : decode cX2_firstCut 8 = .ok (.if_icmp .ge 53, 3) := by decide +kernel
theorem dX2_firstCut_11 : decode cX2_firstCut 11 = .ok (.iconst 0, 1) := by decide +kernel
theorem dX2_firstCut_12 : decode cX2_firstCut 12 = .ok (.istore_n 3, 1) := by decide +kernel
theorem dX2_firstCut_13 : decode cX2_firstCut 13 = .ok (.iload_n 3, 1) := by decide +kernel
theorem dX2_firstCut_14 : decode cX2_firstCut 14 = .ok (.iconst 2, 1) := by decide +kernel
theorem dX2_firstCut_15 : decode cX2_firstCut 15 = .ok (.if_icmp .ge 40, 3) := by decide +kernel
theorem dX2_firstCut_18 : decode cX2_firstCut 18 = .ok (.aload_n 0, 1) := by decide +kernel
theorem dX2_firstCut_19 : decode cX2_firstCut 19 = .ok (.iload_n 2, 1) := by decide +kernel
theorem dX2_firstCut_20 : decode cX2_firstCut 20 = .ok (.iload_n 3, 1) := by decide +kernel
theorem dX2_firstCut_21 : decode cX2_firstCut 21 = .ok (.invokevirtual 159, 3) := by decide +kernel
theorem dX2_firstCut_24 : decode cX2_firstCut 24 = .ok (.istore 4, 2) := by decide +kernel
theorem dX2_firstCut_26 : decode cX2_firstCut 26 = .ok (.iload 4, 2) := by decide +kernel
theorem dX2_firstCut_28 : decode cX2_firstCut 28 = .ok (.aload_n 0, 1) := by decide +kernel
theorem dX2_firstCut_29 : decode cX2_firstCut 29 = .ok (.iload_n 2, 1) := by decide +kernel
theorem dX2_firstCut_30 : decode cX2_firstCut 30 = .ok (.iload_n 3, 1) := by decide +kernel
theorem dX2_firstCut_31 : decode cX2_firstCut 31 = .ok (.invokevirtual 162, 3) := by decide +kernel
theorem dX2_firstCut_34 : decode cX2_firstCut 34 = .ok (.if_icmp .gt 15, 3) := by decide +kernel
theorem dX2_firstCut_37 : decode cX2_firstCut 37 = .ok (.iload_n 1, 1) := by decide +kernel
theorem dX2_firstCut_38 : decode cX2_firstCut 38 = .ok (.iload_n 2, 1) := by decide +kernel
theorem dX2_firstCut_39 : decode cX2_firstCut 39 = .ok (.iload 4, 2) := by decide +kernel
theorem dX2_firstCut_41 : decode cX2_firstCut 41 = .ok (.iload_n 3, 1) := by decide +kernel
theorem dX2_firstCut_42 : decode cX2_firstCut 42 = .ok (.invokestatic 165, 3) := by decide +kernel
theorem dX2_firstCut_45 : decode cX2_firstCut 45 = .ok (.invokestatic 124, 3) := by decide +kernel
theorem dX2_firstCut_48 : decode cX2_firstCut 48 = .ok (.istore_n 1, 1) := by decide +kernel
theorem dX2_firstCut_49 : decode cX2_firstCut 49 = .ok (.iinc 3 1, 3) := by decide +kernel
theorem dX2_firstCut_52 : decode cX2_firstCut 52 = .ok (.goto (-39), 3) := by decide +kernel
theorem dX2_firstCut_55 : decode cX2_firstCut 55 = .ok (.iinc 2 1, 3) := by decide +kernel
theorem dX2_firstCut_58 : decode cX2_firstCut 58 = .ok (.goto (-52), 3) := by decide +kernel
theorem dX2_firstCut_61 : decode cX2_firstCut 61 = .ok (.iload_n 1, 1) := by decide +kernel
theorem dX2_firstCut_62 : decode cX2_firstCut 62 = .ok (.ireturn, 1) := by decide +kernel
theorem dX2_firstCut__0 : decode cX2_firstCut_ 0 = .ok (.iload_n 2, 1) := by decide +kernel
theorem dX2_firstCut__1 : decode cX2_firstCut_ 1 = .ok (.ifCond .ne 7, 3) := by decide +kernel
theorem dX2_firstCut__4 : decode cX2_firstCut_ 4 = .ok (.iconst 1, 1) := by decide +kernel
theorem dX2_firstCut__5 : decode cX2_firstCut_ 5 = .ok (.goto 4, 3) := by decide +kernel
theorem dX2_firstCut__8 : decode cX2_firstCut_ 8 = .ok (.iconst 2, 1) := by decide +kernel
theorem dX2_firstCut__9 : decode cX2_firstCut_ 9 = .ok (.istore_n 3, 1) := by decide +kernel
theorem dX2_firstCut__10 : decode cX2_firstCut_ 10 = .ok (.bipush (-24), 2) := by decide +kernel
theorem dX2_firstCut__12 : decode cX2_firstCut_ 12 = .ok (.aload_n 0, 1) := by decide +kernel
theorem dX2_firstCut__13 : decode cX2_firstCut_ 13 = .ok (.getfield 29, 3) := by decide +kernel
theorem dX2_firstCut__16 : decode cX2_firstCut_ 16 = .ok (.iload_n 3, 1) := by decide +kernel
theorem dX2_firstCut__17 : decode cX2_firstCut_ 17 = .ok (.iload_n 1, 1) := by decide +kernel
theorem dX2_firstCut__18 : decode cX2_firstCut_ 18 = .ok (.invokestatic 113, 3) := by decide +kernel
theorem dX2_firstCut__21 : decode cX2_firstCut_ 21 = .ok (.invokestatic 87, 3) := by decide +kernel
theorem dX2_firstCut__24 : decode cX2_firstCut_ 24 = .ok (.iconst 1, 1) := by decide +kernel
theorem dX2_firstCut__25 : decode cX2_firstCut_ 25 = .ok (.iadd, 1) := by decide +kernel
theorem dX2_firstCut__26 : decode cX2_firstCut_ 26 = .ok (.invokestatic 129, 3) := by decide +kernel
theorem dX2_firstCut__29 : decode cX2_firstCut_ 29 = .ok (.ireturn, 1) := by decide +kernel
theorem dX2_lastCut_0 : decode cX2_lastCut 0 = .ok (.iload_n 2, 1) := by decide +kernel
theorem dX2_lastCut_1 : decode cX2_lastCut 1 = .ok (.ifCond .ne 7, 3) := by decide +kernel
theorem dX2_lastCut_4 : decode cX2_lastCut 4 = .ok (.iconst 2, 1) := by decide +kernel
theorem dX2_lastCut_5 : decode cX2_lastCut 5 = .ok (.goto 4, 3) := by decide +kernel
theorem dX2_lastCut_8 : decode cX2_lastCut 8 = .ok (.iconst 1, 1) := by decide +kernel
theorem dX2_lastCut_9 : decode cX2_lastCut 9 = .ok (.istore_n 3, 1) := by decide +kernel
theorem dX2_lastCut_10 : decode cX2_lastCut 10 = .ok (.bipush 48, 2) := by decide +kernel
theorem dX2_lastCut_12 : decode cX2_lastCut 12 = .ok (.aload_n 0, 1) := by decide +kernel
theorem dX2_lastCut_13 : decode cX2_lastCut 13 = .ok (.getfield 26, 3) := by decide +kernel
theorem dX2_lastCut_16 : decode cX2_lastCut 16 = .ok (.iload_n 3, 1) := by decide +kernel
theorem dX2_lastCut_17 : decode cX2_lastCut 17 = .ok (.iload_n 1, 1) := by decide +kernel
theorem dX2_lastCut_18 : decode cX2_lastCut 18 = .ok (.invokestatic 113, 3) := by decide +kernel
theorem dX2_lastCut_21 : decode cX2_lastCut 21 = .ok (.invokestatic 87, 3) := by decide +kernel
theorem dX2_lastCut_24 : decode cX2_lastCut 24 = .ok (.invokestatic 124, 3) := by decide +kernel
theorem dX2_lastCut_27 : decode cX2_lastCut 27 = .ok (.ireturn, 1) := by decide +kernel
theorem dX3_isLine_0 : decode cX3_isLine 0 = .ok (.iload_n 0, 1) := by decide +kernel
theorem dX3_isLine_1 : decode cX3_isLine 1 = .ok (.ifCond .lt 24, 3) := by decide +kernel
theorem dX3_isLine_4 : decode cX3_isLine 4 = .ok (.iload_n 0, 1) := by decide +kernel
theorem dX3_isLine_5 : decode cX3_isLine 5 = .ok (.iconst 4, 1) := by decide +kernel
theorem dX3_isLine_6 : decode cX3_isLine 6 = .ok (.if_icmp .ge 19, 3) := by decide +kernel
theorem dX3_isLine_9 : decode cX3_isLine 9 = .ok (.iload_n 1, 1) := by decide +kernel
theorem dX3_isLine_10 : decode cX3_isLine 10 = .ok (.bipush (-24), 2) := by decide +kernel
theorem dX3_isLine_12 : decode cX3_isLine 12 = .ok (.if_icmp .lt 13, 3) := by decide +kernel
theorem dX3_isLine_15 : decode cX3_isLine 15 = .ok (.iload_n 1, 1) := by decide +kernel
theorem dX3_isLine_16 : decode cX3_isLine 16 = .ok (.bipush 48, 2) := by decide +kernel
theorem dX3_isLine_18 : decode cX3_isLine 18 = .ok (.if_icmp .gt 7, 3) := by decide +kernel
theorem dX3_isLine_21 : decode cX3_isLine 21 = .ok (.iconst 1, 1) := by decide +kernel
theorem dX3_isLine_22 : decode cX3_isLine 22 = .ok (.goto 4, 3) := by decide +kernel
theorem dX3_isLine_25 : decode cX3_isLine 25 = .ok (.iconst 0, 1) := by decide +kernel
theorem dX3_isLine_26 : decode cX3_isLine 26 = .ok (.ireturn, 1) := by decide +kernel
theorem dX3_isSide_0 : decode cX3_isSide 0 = .ok (.iload_n 0, 1) := by decide +kernel
theorem dX3_isSide_1 : decode cX3_isSide 1 = .ok (.ifCond .eq 8, 3) := by decide +kernel
theorem dX3_isSide_4 : decode cX3_isSide 4 = .ok (.iload_n 0, 1) := by decide +kernel
theorem dX3_isSide_5 : decode cX3_isSide 5 = .ok (.iconst 1, 1) := by decide +kernel
theorem dX3_isSide_6 : decode cX3_isSide 6 = .ok (.if_icmp .ne 7, 3) := by decide +kernel
theorem dX3_isSide_9 : decode cX3_isSide 9 = .ok (.iconst 1, 1) := by decide +kernel
theorem dX3_isSide_10 : decode cX3_isSide 10 = .ok (.goto 4, 3) := by decide +kernel
theorem dX3_isSide_13 : decode cX3_isSide 13 = .ok (.iconst 0, 1) := by decide +kernel
theorem dX3_isSide_14 : decode cX3_isSide 14 = .ok (.ireturn, 1) := by decide +kernel
theorem dX3_strip_0 : decode cX3_strip 0 = .ok (.iload_n 0, 1) := by decide +kernel
theorem dX3_strip_1 : decode cX3_strip 1 = .ok (.tableswitch 48 0 2 #[27, 29, 31], 27) := by decide +kernel
theorem dX3_strip_28 : decode cX3_strip 28 = .ok (.iload_n 1, 1) := by decide +kernel
theorem dX3_strip_29 : decode cX3_strip 29 = .ok (.ireturn, 1) := by decide +kernel
theorem dX3_strip_30 : decode cX3_strip 30 = .ok (.iload_n 2, 1) := by decide +kernel
theorem dX3_strip_31 : decode cX3_strip 31 = .ok (.ireturn, 1) := by decide +kernel
theorem dX3_strip_32 : decode cX3_strip 32 = .ok (.iload_n 3, 1) := by decide +kernel
theorem dX3_strip_33 : decode cX3_strip 33 = .ok (.iconst 2, 1) := by decide +kernel
theorem dX3_strip_34 : decode cX3_strip 34 = .ok (.if_icmp .ge 9, 3) := by decide +kernel
theorem dX3_strip_37 : decode cX3_strip 37 = .ok (.iload_n 1, 1) := by decide +kernel
theorem dX3_strip_38 : decode cX3_strip 38 = .ok (.iload_n 2, 1) := by decide +kernel
theorem dX3_strip_39 : decode cX3_strip 39 = .ok (.isub, 1) := by decide +kernel
theorem dX3_strip_40 : decode cX3_strip 40 = .ok (.goto 8, 3) := by decide +kernel
theorem dX3_strip_43 : decode cX3_strip 43 = .ok (.iload_n 1, 1) := by decide +kernel
theorem dX3_strip_44 : decode cX3_strip 44 = .ok (.iload_n 2, 1) := by decide +kernel
theorem dX3_strip_45 : decode cX3_strip 45 = .ok (.isub, 1) := by decide +kernel
theorem dX3_strip_46 : decode cX3_strip 46 = .ok (.iconst 1, 1) := by decide +kernel
theorem dX3_strip_47 : decode cX3_strip 47 = .ok (.isub, 1) := by decide +kernel
theorem dX3_strip_48 : decode cX3_strip 48 = .ok (.ireturn, 1) := by decide +kernel
theorem dX3_strip_49 : decode cX3_strip 49 = .ok (.iload_n 3, 1) := by decide +kernel
theorem dX3_strip_50 : decode cX3_strip 50 = .ok (.ifCond .eq 8, 3) := by decide +kernel
theorem dX3_strip_53 : decode cX3_strip 53 = .ok (.iload_n 3, 1) := by decide +kernel
theorem dX3_strip_54 : decode cX3_strip 54 = .ok (.iconst 3, 1) := by decide +kernel
theorem dX3_strip_55 : decode cX3_strip 55 = .ok (.if_icmp .ne 9, 3) := by decide +kernel
theorem dX3_strip_58 : decode cX3_strip 58 = .ok (.iload_n 1, 1) := by decide +kernel
theorem dX3_strip_59 : decode cX3_strip 59 = .ok (.iload_n 2, 1) := by decide +kernel
theorem dX3_strip_60 : decode cX3_strip 60 = .ok (.iadd, 1) := by decide +kernel
theorem dX3_strip_61 : decode cX3_strip 61 = .ok (.goto 8, 3) := by decide +kernel
theorem dX3_strip_64 : decode cX3_strip 64 = .ok (.iload_n 1, 1) := by decide +kernel
theorem dX3_strip_65 : decode cX3_strip 65 = .ok (.iload_n 2, 1) := by decide +kernel
theorem dX3_strip_66 : decode cX3_strip 66 = .ok (.iadd, 1) := by decide +kernel
theorem dX3_strip_67 : decode cX3_strip 67 = .ok (.iconst 1, 1) := by decide +kernel
theorem dX3_strip_68 : decode cX3_strip 68 = .ok (.iadd, 1) := by decide +kernel
theorem dX3_strip_69 : decode cX3_strip 69 = .ok (.ireturn, 1) := by decide +kernel
theorem dX3_isOn_0 : decode cX3_isOn 0 = .ok (.iload_n 2, 1) := by decide +kernel
theorem dX3_isOn_1 : decode cX3_isOn 1 = .ok (.ifCond .ne 16, 3) := by decide +kernel
theorem dX3_isOn_4 : decode cX3_isOn 4 = .ok (.iload_n 0, 1) := by decide +kernel
theorem dX3_isOn_5 : decode cX3_isOn 5 = .ok (.iload_n 1, 1) := by decide +kernel
theorem dX3_isOn_6 : decode cX3_isOn 6 = .ok (.if_icmp .ge 7, 3) := by decide +kernel
theorem dX3_isOn_9 : decode cX3_isOn 9 = .ok (.iconst 1, 1) := by decide +kernel
theorem dX3_isOn_10 : decode cX3_isOn 10 = .ok (.goto 17, 3) := by decide +kernel
theorem dX3_isOn_13 : decode cX3_isOn 13 = .ok (.iconst 0, 1) := by decide +kernel
theorem dX3_isOn_14 : decode cX3_isOn 14 = .ok (.goto 13, 3) := by decide +kernel
theorem dX3_isOn_17 : decode cX3_isOn 17 = .ok (.iload_n 0, 1) := by decide +kernel
theorem dX3_isOn_18 : decode cX3_isOn 18 = .ok (.iload_n 1, 1) := by decide +kernel
theorem dX3_isOn_19 : decode cX3_isOn 19 = .ok (.if_icmp .lt 7, 3) := by decide +kernel
theorem dX3_isOn_22 : decode cX3_isOn 22 = .ok (.iconst 1, 1) := by decide +kernel
theorem dX3_isOn_23 : decode cX3_isOn 23 = .ok (.goto 4, 3) := by decide +kernel
theorem dX3_isOn_26 : decode cX3_isOn 26 = .ok (.iconst 0, 1) := by decide +kernel
theorem dX3_isOn_27 : decode cX3_isOn 27 = .ok (.ireturn, 1) := by decide +kernel
theorem dX3_mirrorX_0 : decode cX3_mirrorX 0 = .ok (.iload_n 0, 1) := by decide +kernel
theorem dX3_mirrorX_1 : decode cX3_mirrorX 1 = .ok (.tableswitch 41 0 2 #[27, 35, 37], 27) := by decide +kernel
theorem dX3_mirrorX_28 : decode cX3_mirrorX 28 = .ok (.iconst 2, 1) := by decide +kernel
theorem dX3_mirrorX_29 : decode cX3_mirrorX 29 = .ok (.iload_n 1, 1) := by decide +kernel
theorem dX3_mirrorX_30 : decode cX3_mirrorX 30 = .ok (.imul, 1) := by decide +kernel
theorem dX3_mirrorX_31 : decode cX3_mirrorX 31 = .ok (.iconst 1, 1) := by decide +kernel
theorem dX3_mirrorX_32 : decode cX3_mirrorX 32 = .ok (.isub, 1) := by decide +kernel
theorem dX3_mirrorX_33 : decode cX3_mirrorX 33 = .ok (.iload_n 2, 1) := by decide +kernel
theorem dX3_mirrorX_34 : decode cX3_mirrorX 34 = .ok (.isub, 1) := by decide +kernel
theorem dX3_mirrorX_35 : decode cX3_mirrorX 35 = .ok (.ireturn, 1) := by decide +kernel
theorem dX3_mirrorX_36 : decode cX3_mirrorX 36 = .ok (.iload_n 2, 1) := by decide +kernel
theorem dX3_mirrorX_37 : decode cX3_mirrorX 37 = .ok (.ireturn, 1) := by decide +kernel
theorem dX3_mirrorX_38 : decode cX3_mirrorX 38 = .ok (.iload_n 3, 1) := by decide +kernel
theorem dX3_mirrorX_39 : decode cX3_mirrorX 39 = .ok (.iload_n 1, 1) := by decide +kernel
theorem dX3_mirrorX_40 : decode cX3_mirrorX 40 = .ok (.iadd, 1) := by decide +kernel
theorem dX3_mirrorX_41 : decode cX3_mirrorX 41 = .ok (.ireturn, 1) := by decide +kernel
theorem dX3_mirrorX_42 : decode cX3_mirrorX 42 = .ok (.iload_n 1, 1) := by decide +kernel
theorem dX3_mirrorX_43 : decode cX3_mirrorX 43 = .ok (.iconst 1, 1) := by decide +kernel
theorem dX3_mirrorX_44 : decode cX3_mirrorX 44 = .ok (.isub, 1) := by decide +kernel
theorem dX3_mirrorX_45 : decode cX3_mirrorX 45 = .ok (.iload_n 3, 1) := by decide +kernel
theorem dX3_mirrorX_46 : decode cX3_mirrorX 46 = .ok (.isub, 1) := by decide +kernel
theorem dX3_mirrorX_47 : decode cX3_mirrorX 47 = .ok (.ireturn, 1) := by decide +kernel
theorem dX3_mirrorY_0 : decode cX3_mirrorY 0 = .ok (.iload_n 0, 1) := by decide +kernel
theorem dX3_mirrorY_1 : decode cX3_mirrorY 1 = .ok (.tableswitch 41 0 2 #[27, 29, 37], 27) := by decide +kernel
theorem dX3_mirrorY_28 : decode cX3_mirrorY 28 = .ok (.iload_n 3, 1) := by decide +kernel
theorem dX3_mirrorY_29 : decode cX3_mirrorY 29 = .ok (.ireturn, 1) := by decide +kernel
theorem dX3_mirrorY_30 : decode cX3_mirrorY 30 = .ok (.iconst 2, 1) := by decide +kernel
theorem dX3_mirrorY_31 : decode cX3_mirrorY 31 = .ok (.iload_n 1, 1) := by decide +kernel
theorem dX3_mirrorY_32 : decode cX3_mirrorY 32 = .ok (.imul, 1) := by decide +kernel
theorem dX3_mirrorY_33 : decode cX3_mirrorY 33 = .ok (.iconst 1, 1) := by decide +kernel
theorem dX3_mirrorY_34 : decode cX3_mirrorY 34 = .ok (.isub, 1) := by decide +kernel
theorem dX3_mirrorY_35 : decode cX3_mirrorY 35 = .ok (.iload_n 3, 1) := by decide +kernel
theorem dX3_mirrorY_36 : decode cX3_mirrorY 36 = .ok (.isub, 1) := by decide +kernel
theorem dX3_mirrorY_37 : decode cX3_mirrorY 37 = .ok (.ireturn, 1) := by decide +kernel
theorem dX3_mirrorY_38 : decode cX3_mirrorY 38 = .ok (.iload_n 2, 1) := by decide +kernel
theorem dX3_mirrorY_39 : decode cX3_mirrorY 39 = .ok (.iload_n 1, 1) := by decide +kernel
theorem dX3_mirrorY_40 : decode cX3_mirrorY 40 = .ok (.isub, 1) := by decide +kernel
theorem dX3_mirrorY_41 : decode cX3_mirrorY 41 = .ok (.ireturn, 1) := by decide +kernel
theorem dX3_mirrorY_42 : decode cX3_mirrorY 42 = .ok (.iload_n 1, 1) := by decide +kernel
theorem dX3_mirrorY_43 : decode cX3_mirrorY 43 = .ok (.iconst 1, 1) := by decide +kernel
theorem dX3_mirrorY_44 : decode cX3_mirrorY 44 = .ok (.isub, 1) := by decide +kernel
theorem dX3_mirrorY_45 : decode cX3_mirrorY 45 = .ok (.iload_n 2, 1) := by decide +kernel
theorem dX3_mirrorY_46 : decode cX3_mirrorY 46 = .ok (.isub, 1) := by decide +kernel
theorem dX3_mirrorY_47 : decode cX3_mirrorY 47 = .ok (.ireturn, 1) := by decide +kernel
theorem dX3_mirrorQuarter_0 : decode cX3_mirrorQuarter 0 = .ok (.iload_n 0, 1) := by decide +kernel
theorem dX3_mirrorQuarter_1 : decode cX3_mirrorQuarter 1 = .ok (.tableswitch 43 0 2 #[27, 33, 39], 27) := by decide +kernel
theorem dX3_mirrorQuarter_28 : decode cX3_mirrorQuarter 28 = .ok (.iconst 4, 1) := by decide +kernel
theorem dX3_mirrorQuarter_29 : decode cX3_mirrorQuarter 29 = .ok (.iload_n 1, 1) := by decide +kernel
theorem dX3_mirrorQuarter_30 : decode cX3_mirrorQuarter 30 = .ok (.isub, 1) := by decide +kernel
theorem dX3_mirrorQuarter_31 : decode cX3_mirrorQuarter 31 = .ok (.iconst 3, 1) := by decide +kernel
theorem dX3_mirrorQuarter_32 : decode cX3_mirrorQuarter 32 = .ok (.iand, 1) := by decide +kernel
theorem dX3_mirrorQuarter_33 : decode cX3_mirrorQuarter 33 = .ok (.ireturn, 1) := by decide +kernel
theorem dX3_mirrorQuarter_34 : decode cX3_mirrorQuarter 34 = .ok (.iconst 2, 1) := by decide +kernel
theorem dX3_mirrorQuarter_35 : decode cX3_mirrorQuarter 35 = .ok (.iload_n 1, 1) := by decide +kernel
theorem dX3_mirrorQuarter_36 : decode cX3_mirrorQuarter 36 = .ok (.isub, 1) := by decide +kernel
theorem dX3_mirrorQuarter_37 : decode cX3_mirrorQuarter 37 = .ok (.iconst 3, 1) := by decide +kernel
theorem dX3_mirrorQuarter_38 : decode cX3_mirrorQuarter 38 = .ok (.iand, 1) := by decide +kernel
theorem dX3_mirrorQuarter_39 : decode cX3_mirrorQuarter 39 = .ok (.ireturn, 1) := by decide +kernel
theorem dX3_mirrorQuarter_40 : decode cX3_mirrorQuarter 40 = .ok (.iconst 3, 1) := by decide +kernel
theorem dX3_mirrorQuarter_41 : decode cX3_mirrorQuarter 41 = .ok (.iload_n 1, 1) := by decide +kernel
theorem dX3_mirrorQuarter_42 : decode cX3_mirrorQuarter 42 = .ok (.isub, 1) := by decide +kernel
theorem dX3_mirrorQuarter_43 : decode cX3_mirrorQuarter 43 = .ok (.ireturn, 1) := by decide +kernel
theorem dX3_mirrorQuarter_44 : decode cX3_mirrorQuarter 44 = .ok (.iconst 1, 1) := by decide +kernel
theorem dX3_mirrorQuarter_45 : decode cX3_mirrorQuarter 45 = .ok (.iload_n 1, 1) := by decide +kernel
theorem dX3_mirrorQuarter_46 : decode cX3_mirrorQuarter 46 = .ok (.isub, 1) := by decide +kernel
theorem dX3_mirrorQuarter_47 : decode cX3_mirrorQuarter 47 = .ok (.iconst 3, 1) := by decide +kernel
theorem dX3_mirrorQuarter_48 : decode cX3_mirrorQuarter 48 = .ok (.iand, 1) := by decide +kernel
theorem dX3_mirrorQuarter_49 : decode cX3_mirrorQuarter 49 = .ok (.ireturn, 1) := by decide +kernel
theorem dX3_touches_0 : decode cX3_touches 0 = .ok (.iload_n 0, 1) := by decide +kernel
theorem dX3_touches_1 : decode cX3_touches 1 = .ok (.tableswitch 99 0 2 #[27, 57, 86], 27) := by decide +kernel
theorem dX3_touches_28 : decode cX3_touches 28 = .ok (.iload 4, 2) := by decide +kernel
theorem dX3_touches_30 : decode cX3_touches 30 = .ok (.iconst 1, 1) := by decide +kernel
theorem dX3_touches_31 : decode cX3_touches 31 = .ok (.if_icmp .ne 10, 3) := by decide +kernel
theorem dX3_touches_34 : decode cX3_touches 34 = .ok (.iload_n 2, 1) := by decide +kernel
theorem dX3_touches_35 : decode cX3_touches 35 = .ok (.iconst 1, 1) := by decide +kernel
theorem dX3_touches_36 : decode cX3_touches 36 = .ok (.iadd, 1) := by decide +kernel
theorem dX3_touches_37 : decode cX3_touches 37 = .ok (.iload_n 1, 1) := by decide +kernel
theorem dX3_touches_38 : decode cX3_touches 38 = .ok (.if_icmp .eq 14, 3) := by decide +kernel
theorem dX3_touches_41 : decode cX3_touches 41 = .ok (.iload 4, 2) := by decide +kernel
theorem dX3_touches_43 : decode cX3_touches 43 = .ok (.iconst 3, 1) := by decide +kernel
theorem dX3_touches_44 : decode cX3_touches 44 = .ok (.if_icmp .ne 12, 3) := by decide +kernel
theorem dX3_touches_47 : decode cX3_touches 47 = .ok (.iload_n 2, 1) := by decide +kernel
theorem dX3_touches_48 : decode cX3_touches 48 = .ok (.iload_n 1, 1) := by decide +kernel
theorem dX3_touches_49 : decode cX3_touches 49 = .ok (.if_icmp .ne 7, 3) := by decide +kernel
theorem dX3_touches_52 : decode cX3_touches 52 = .ok (.iconst 1, 1) := by decide +kernel
theorem dX3_touches_53 : decode cX3_touches 53 = .ok (.goto 4, 3) := by decide +kernel
theorem dX3_touches_56 : decode cX3_touches 56 = .ok (.iconst 0, 1) := by decide +kernel
theorem dX3_touches_57 : decode cX3_touches 57 = .ok (.ireturn, 1) := by decide +kernel
theorem dX3_touches_58 : decode cX3_touches 58 = .ok (.iload 4, 2) := by decide +kernel
theorem dX3_touches_60 : decode cX3_touches 60 = .ok (.iconst 2, 1) := by decide +kernel
theorem dX3_touches_61 : decode cX3_touches 61 = .ok (.if_icmp .ne 10, 3) := by decide +kernel
theorem dX3_touches_64 : decode cX3_touches 64 = .ok (.iload_n 3, 1) := by decide +kernel
theorem dX3_touches_65 : decode cX3_touches 65 = .ok (.iconst 1, 1) := by decide +kernel
theorem dX3_touches_66 : decode cX3_touches 66 = .ok (.iadd, 1) := by decide +kernel
theorem dX3_touches_67 : decode cX3_touches 67 = .ok (.iload_n 1, 1) := by decide +kernel
theorem dX3_touches_68 : decode cX3_touches 68 = .ok (.if_icmp .eq 13, 3) := by decide +kernel
theorem dX3_touches_71 : decode cX3_touches 71 = .ok (.iload 4, 2) := by decide +kernel
theorem dX3_touches_73 : decode cX3_touches 73 = .ok (.ifCond .ne 12, 3) := by decide +kernel
theorem dX3_touches_76 : decode cX3_touches 76 = .ok (.iload_n 3, 1) := by decide +kernel
theorem dX3_touches_77 : decode cX3_touches 77 = .ok (.iload_n 1, 1) := by decide +kernel
theorem dX3_touches_78 : decode cX3_touches 78 = .ok (.if_icmp .ne 7, 3) := by decide +kernel
theorem dX3_touches_81 : decode cX3_touches 81 = .ok (.iconst 1, 1) := by decide +kernel
theorem dX3_touches_82 : decode cX3_touches 82 = .ok (.goto 4, 3) := by decide +kernel
theorem dX3_touches_85 : decode cX3_touches 85 = .ok (.iconst 0, 1) := by decide +kernel
theorem dX3_touches_86 : decode cX3_touches 86 = .ok (.ireturn, 1) := by decide +kernel
theorem dX3_touches_87 : decode cX3_touches 87 = .ok (.iload_n 2, 1) := by decide +kernel
theorem dX3_touches_88 : decode cX3_touches 88 = .ok (.iload_n 3, 1) := by decide +kernel
theorem dX3_touches_89 : decode cX3_touches 89 = .ok (.isub, 1) := by decide +kernel
theorem dX3_touches_90 : decode cX3_touches 90 = .ok (.iload_n 1, 1) := by decide +kernel
theorem dX3_touches_91 : decode cX3_touches 91 = .ok (.if_icmp .ne 7, 3) := by decide +kernel
theorem dX3_touches_94 : decode cX3_touches 94 = .ok (.iconst 1, 1) := by decide +kernel
theorem dX3_touches_95 : decode cX3_touches 95 = .ok (.goto 4, 3) := by decide +kernel
theorem dX3_touches_98 : decode cX3_touches 98 = .ok (.iconst 0, 1) := by decide +kernel
theorem dX3_touches_99 : decode cX3_touches 99 = .ok (.ireturn, 1) := by decide +kernel
theorem dX3_touches_100 : decode cX3_touches 100 = .ok (.iload_n 2, 1) := by decide +kernel
theorem dX3_touches_101 : decode cX3_touches 101 = .ok (.iload_n 3, 1) := by decide +kernel
theorem dX3_touches_102 : decode cX3_touches 102 = .ok (.iadd, 1) := by decide +kernel
theorem dX3_touches_103 : decode cX3_touches 103 = .ok (.iconst 1, 1) := by decide +kernel
theorem dX3_touches_104 : decode cX3_touches 104 = .ok (.iadd, 1) := by decide +kernel
theorem dX3_touches_105 : decode cX3_touches 105 = .ok (.iload_n 1, 1) := by decide +kernel
theorem dX3_touches_106 : decode cX3_touches 106 = .ok (.if_icmp .ne 7, 3) := by decide +kernel
theorem dX3_touches_109 : decode cX3_touches 109 = .ok (.iconst 1, 1) := by decide +kernel
theorem dX3_touches_110 : decode cX3_touches 110 = .ok (.goto 4, 3) := by decide +kernel
theorem dX3_touches_113 : decode cX3_touches 113 = .ok (.iconst 0, 1) := by decide +kernel
theorem dX3_touches_114 : decode cX3_touches 114 = .ok (.ireturn, 1) := by decide +kernel
theorem dX3_spot_0 : decode cX3_spot 0 = .ok (.iload_n 0, 1) := by decide +kernel
theorem dX3_spot_1 : decode cX3_spot 1 = .ok (.bipush 15, 2) := by decide +kernel
theorem dX3_spot_3 : decode cX3_spot 3 = .ok (.iand, 1) := by decide +kernel
theorem dX3_spot_4 : decode cX3_spot 4 = .ok (.bipush 6, 2) := by decide +kernel
theorem dX3_spot_6 : decode cX3_spot 6 = .ok (.ishl, 1) := by decide +kernel
theorem dX3_spot_7 : decode cX3_spot 7 = .ok (.iload_n 1, 1) := by decide +kernel
theorem dX3_spot_8 : decode cX3_spot 8 = .ok (.bipush 15, 2) := by decide +kernel
theorem dX3_spot_10 : decode cX3_spot 10 = .ok (.iand, 1) := by decide +kernel
theorem dX3_spot_11 : decode cX3_spot 11 = .ok (.iconst 2, 1) := by decide +kernel
theorem dX3_spot_12 : decode cX3_spot 12 = .ok (.ishl, 1) := by decide +kernel
theorem dX3_spot_13 : decode cX3_spot 13 = .ok (.ior, 1) := by decide +kernel
theorem dX3_spot_14 : decode cX3_spot 14 = .ok (.iload_n 2, 1) := by decide +kernel
theorem dX3_spot_15 : decode cX3_spot 15 = .ok (.iconst 3, 1) := by decide +kernel
theorem dX3_spot_16 : decode cX3_spot 16 = .ok (.iand, 1) := by decide +kernel
theorem dX3_spot_17 : decode cX3_spot 17 = .ok (.ior, 1) := by decide +kernel
theorem dX3_spot_18 : decode cX3_spot 18 = .ok (.ireturn, 1) := by decide +kernel
theorem dX4_init_0 : decode cX4_init 0 = .ok (.aload_n 0, 1) := by decide +kernel
theorem dX4_init_1 : decode cX4_init 1 = .ok (.invokespecial 3, 3) := by decide +kernel
theorem dX4_init_4 : decode cX4_init 4 = .ok (.aload_n 0, 1) := by decide +kernel
theorem dX4_init_5 : decode cX4_init 5 = .ok (.sipush 144, 3) := by decide +kernel
theorem dX4_init_8 : decode cX4_init 8 = .ok (.newarray .int, 2) := by decide +kernel
theorem dX4_init_10 : decode cX4_init 10 = .ok (.putfield 9, 3) := by decide +kernel
theorem dX4_init_13 : decode cX4_init 13 = .ok (.aload_n 0, 1) := by decide +kernel
theorem dX4_init_14 : decode cX4_init 14 = .ok (.sipush 144, 3) := by decide +kernel
theorem dX4_init_17 : decode cX4_init 17 = .ok (.newarray .int, 2) := by decide +kernel
theorem dX4_init_19 : decode cX4_init 19 = .ok (.putfield 15, 3) := by decide +kernel
theorem dX4_init_22 : decode cX4_init 22 = .ok (.aload_n 0, 1) := by decide +kernel
theorem dX4_init_23 : decode cX4_init 23 = .ok (.sipush 144, 3) := by decide +kernel
theorem dX4_init_26 : decode cX4_init 26 = .ok (.newarray .int, 2) := by decide +kernel
theorem dX4_init_28 : decode cX4_init 28 = .ok (.putfield 18, 3) := by decide +kernel
theorem dX4_init_31 : decode cX4_init 31 = .ok (.aload_n 0, 1) := by decide +kernel
theorem dX4_init_32 : decode cX4_init 32 = .ok (.sipush 144, 3) := by decide +kernel
theorem dX4_init_35 : decode cX4_init 35 = .ok (.newarray .int, 2) := by decide +kernel
theorem dX4_init_37 : decode cX4_init 37 = .ok (.putfield 21, 3) := by decide +kernel
theorem dX4_init_40 : decode cX4_init 40 = .ok (.aload_n 0, 1) := by decide +kernel
theorem dX4_init_41 : decode cX4_init 41 = .ok (.sipush 144, 3) := by decide +kernel
theorem dX4_init_44 : decode cX4_init 44 = .ok (.newarray .int, 2) := by decide +kernel
theorem dX4_init_46 : decode cX4_init 46 = .ok (.putfield 24, 3) := by decide +kernel
theorem dX4_init_49 : decode cX4_init 49 = .ok (.aload_n 0, 1) := by decide +kernel
theorem dX4_init_50 : decode cX4_init 50 = .ok (.sipush 1024, 3) := by decide +kernel
theorem dX4_init_53 : decode cX4_init 53 = .ok (.newarray .int, 2) := by decide +kernel
theorem dX4_init_55 : decode cX4_init 55 = .ok (.putfield 29, 3) := by decide +kernel
theorem dX4_init_58 : decode cX4_init 58 = .ok (.aload_n 0, 1) := by decide +kernel
theorem dX4_init_59 : decode cX4_init 59 = .ok (.bipush 8, 2) := by decide +kernel
theorem dX4_init_61 : decode cX4_init 61 = .ok (.newarray .int, 2) := by decide +kernel
theorem dX4_init_63 : decode cX4_init 63 = .ok (.putfield 32, 3) := by decide +kernel
theorem dX4_init_66 : decode cX4_init 66 = .ok (.aload_n 0, 1) := by decide +kernel
theorem dX4_init_67 : decode cX4_init 67 = .ok (.bipush 8, 2) := by decide +kernel
theorem dX4_init_69 : decode cX4_init 69 = .ok (.newarray .int, 2) := by decide +kernel
theorem dX4_init_71 : decode cX4_init 71 = .ok (.putfield 35, 3) := by decide +kernel
theorem dX4_init_74 : decode cX4_init 74 = .ok (.aload_n 0, 1) := by decide +kernel
theorem dX4_init_75 : decode cX4_init 75 = .ok (.bipush 8, 2) := by decide +kernel
theorem dX4_init_77 : decode cX4_init 77 = .ok (.newarray .int, 2) := by decide +kernel
theorem dX4_init_79 : decode cX4_init 79 = .ok (.putfield 38, 3) := by decide +kernel
theorem dX4_init_82 : decode cX4_init 82 = .ok (.aload_n 0, 1) := by decide +kernel
theorem dX4_init_83 : decode cX4_init 83 = .ok (.bipush 8, 2) := by decide +kernel
theorem dX4_init_85 : decode cX4_init 85 = .ok (.newarray .int, 2) := by decide +kernel
theorem dX4_init_87 : decode cX4_init 87 = .ok (.putfield 41, 3) := by decide +kernel
theorem dX4_init_90 : decode cX4_init 90 = .ok (.aload_n 0, 1) := by decide +kernel
theorem dX4_init_91 : decode cX4_init 91 = .ok (.aload_n 1, 1) := by decide +kernel
theorem dX4_init_92 : decode cX4_init 92 = .ok (.putfield 44, 3) := by decide +kernel
theorem dX4_init_95 : decode cX4_init 95 = .ok (.return_, 1) := by decide +kernel
theorem dX4_flatten_0 : decode cX4_flatten 0 = .ok (.aload_n 0, 1) := by decide +kernel
theorem dX4_flatten_1 : decode cX4_flatten 1 = .ok (.iconst 0, 1) := by decide +kernel
theorem dX4_flatten_2 : decode cX4_flatten 2 = .ok (.putfield 48, 3) := by decide +kernel
theorem dX4_flatten_5 : decode cX4_flatten 5 = .ok (.aload_n 0, 1) := by decide +kernel
theorem dX4_flatten_6 : decode cX4_flatten 6 = .ok (.invokevirtual 52, 3) := by decide +kernel
theorem dX4_flatten_9 : decode cX4_flatten 9 = .ok (.return_, 1) := by decide +kernel
theorem dX4_add_0 : decode cX4_add 0 = .ok (.aload_n 0, 1) := by decide +kernel
theorem dX4_add_1 : decode cX4_add 1 = .ok (.getfield 32, 3) := by decide +kernel
theorem dX4_add_4 : decode cX4_add 4 = .ok (.aload_n 0, 1) := by decide +kernel
theorem dX4_add_5 : decode cX4_add 5 = .ok (.getfield 48, 3) := by decide +kernel
theorem dX4_add_8 : decode cX4_add 8 = .ok (.iload_n 1, 1) := by decide +kernel
theorem dX4_add_9 : decode cX4_add 9 = .ok (.invokestatic 55, 3) := by decide +kernel
theorem dX4_add_12 : decode cX4_add 12 = .ok (.aload_n 0, 1) := by decide +kernel
theorem dX4_add_13 : decode cX4_add 13 = .ok (.getfield 35, 3) := by decide +kernel
theorem dX4_add_16 : decode cX4_add 16 = .ok (.aload_n 0, 1) := by decide +kernel
theorem dX4_add_17 : decode cX4_add 17 = .ok (.getfield 48, 3) := by decide +kernel
theorem dX4_add_20 : decode cX4_add 20 = .ok (.iload_n 2, 1) := by decide +kernel
theorem dX4_add_21 : decode cX4_add 21 = .ok (.invokestatic 55, 3) := by decide +kernel
theorem dX4_add_24 : decode cX4_add 24 = .ok (.aload_n 0, 1) := by decide +kernel
theorem dX4_add_25 : decode cX4_add 25 = .ok (.getfield 38, 3) := by decide +kernel
theorem dX4_add_28 : decode cX4_add 28 = .ok (.aload_n 0, 1) := by decide +kernel
theorem dX4_add_29 : decode cX4_add 29 = .ok (.getfield 48, 3) := by decide +kernel
theorem dX4_add_32 : decode cX4_add 32 = .ok (.iload_n 3, 1) := by decide +kernel
theorem dX4_add_33 : decode cX4_add 33 = .ok (.invokestatic 55, 3) := by decide +kernel
theorem dX4_add_36 : decode cX4_add 36 = .ok (.aload_n 0, 1) := by decide +kernel
theorem dX4_add_37 : decode cX4_add 37 = .ok (.getfield 41, 3) := by decide +kernel
theorem dX4_add_40 : decode cX4_add 40 = .ok (.aload_n 0, 1) := by decide +kernel
theorem dX4_add_41 : decode cX4_add 41 = .ok (.getfield 48, 3) := by decide +kernel
theorem dX4_add_44 : decode cX4_add 44 = .ok (.iload 4, 2) := by decide +kernel
theorem dX4_add_46 : decode cX4_add 46 = .ok (.invokestatic 61, 3) := by decide +kernel
theorem dX4_add_49 : decode cX4_add 49 = .ok (.invokestatic 55, 3) := by decide +kernel
theorem dX4_add_52 : decode cX4_add 52 = .ok (.aload_n 0, 1) := by decide +kernel
theorem dX4_add_53 : decode cX4_add 53 = .ok (.dup, 1) := by decide +kernel
theorem dX4_add_54 : decode cX4_add 54 = .ok (.getfield 48, 3) := by decide +kernel
theorem dX4_add_57 : decode cX4_add 57 = .ok (.iconst 1, 1) := by decide +kernel
theorem dX4_add_58 : decode cX4_add 58 = .ok (.iadd, 1) := by decide +kernel
theorem dX4_add_59 : decode cX4_add 59 = .ok (.putfield 48, 3) := by decide +kernel
theorem dX4_add_62 : decode cX4_add 62 = .ok (.aload_n 0, 1) := by decide +kernel
theorem dX4_add_63 : decode cX4_add 63 = .ok (.iload_n 1, 1) := by decide +kernel
theorem dX4_add_64 : decode cX4_add 64 = .ok (.iload_n 2, 1) := by decide +kernel
theorem dX4_add_65 : decode cX4_add 65 = .ok (.iload_n 3, 1) := by decide +kernel
theorem dX4_add_66 : decode cX4_add 66 = .ok (.iload 4, 2) := by decide +kernel
theorem dX4_add_68 : decode cX4_add 68 = .ok (.invokevirtual 65, 3) := by decide +kernel
theorem dX4_add_71 : decode cX4_add 71 = .ok (.return_, 1) := by decide +kernel
theorem dX4_undo_0 : decode cX4_undo 0 = .ok (.aload_n 0, 1) := by decide +kernel
theorem dX4_undo_1 : decode cX4_undo 1 = .ok (.dup, 1) := by decide +kernel
theorem dX4_undo_2 : decode cX4_undo 2 = .ok (.getfield 48, 3) := by decide +kernel
theorem dX4_undo_5 : decode cX4_undo 5 = .ok (.iconst 1, 1) := by decide +kernel
theorem dX4_undo_6 : decode cX4_undo 6 = .ok (.isub, 1) := by decide +kernel
theorem dX4_undo_7 : decode cX4_undo 7 = .ok (.putfield 48, 3) := by decide +kernel
theorem dX4_undo_10 : decode cX4_undo 10 = .ok (.aload_n 0, 1) := by decide +kernel
theorem dX4_undo_11 : decode cX4_undo 11 = .ok (.invokevirtual 52, 3) := by decide +kernel
theorem dX4_undo_14 : decode cX4_undo 14 = .ok (.iconst 0, 1) := by decide +kernel
theorem dX4_undo_15 : decode cX4_undo 15 = .ok (.istore_n 1, 1) := by decide +kernel
theorem dX4_undo_16 : decode cX4_undo 16 = .ok (.iload_n 1, 1) := by decide +kernel
theorem dX4_undo_17 : decode cX4_undo 17 = .ok (.aload_n 0, 1) := by decide +kernel
theorem dX4_undo_18 : decode cX4_undo 18 = .ok (.getfield 48, 3) := by decide +kernel
theorem dX4_undo_21 : decode cX4_undo 21 = .ok (.if_icmp .ge 60, 3) := by decide +kernel
theorem dX4_undo_24 : decode cX4_undo 24 = .ok (.iload_n 1, 1) := by decide +kernel
theorem dX4_undo_25 : decode cX4_undo 25 = .ok (.bipush 8, 2) := by decide +kernel
theorem dX4_undo_27 : decode cX4_undo 27 = .ok (.if_icmp .ge 54, 3) := by decide +kernel
theorem dX4_undo_30 : decode cX4_undo 30 = .ok (.aload_n 0, 1) := by decide +kernel
theorem dX4_undo_31 : decode cX4_undo 31 = .ok (.aload_n 0, 1) := by decide +kernel
theorem dX4_undo_32 : decode cX4_undo 32 = .ok (.getfield 32, 3) := by decide +kernel
theorem dX4_undo_35 : decode cX4_undo 35 = .ok (.iload_n 1, 1) := by decide +kernel
theorem dX4_undo_36 : decode cX4_undo 36 = .ok (.invokestatic 69, 3) := by decide +kernel
theorem dX4_undo_39 : decode cX4_undo 39 = .ok (.aload_n 0, 1) := by decide +kernel
theorem dX4_undo_40 : decode cX4_undo 40 = .ok (.getfield 35, 3) := by decide +kernel
theorem dX4_undo_43 : decode cX4_undo 43 = .ok (.iload_n 1, 1) := by decide +kernel
theorem dX4_undo_44 : decode cX4_undo 44 = .ok (.invokestatic 69, 3) := by decide +kernel
theorem dX4_undo_47 : decode cX4_undo 47 = .ok (.aload_n 0, 1) := by decide +kernel
theorem dX4_undo_48 : decode cX4_undo 48 = .ok (.getfield 38, 3) := by decide +kernel
theorem dX4_undo_51 : decode cX4_undo 51 = .ok (.iload_n 1, 1) := by decide +kernel
theorem dX4_undo_52 : decode cX4_undo 52 = .ok (.invokestatic 69, 3) := by decide +kernel
theorem dX4_undo_55 : decode cX4_undo 55 = .ok (.aload_n 0, 1) := by decide +kernel
theorem dX4_undo_56 : decode cX4_undo 56 = .ok (.getfield 41, 3) := by decide +kernel
theorem dX4_undo_59 : decode cX4_undo 59 = .ok (.iload_n 1, 1) := by decide +kernel
theorem dX4_undo_60 : decode cX4_undo 60 = .ok (.invokestatic 69, 3) := by decide +kernel
theorem dX4_undo_63 : decode cX4_undo 63 = .ok (.iconst 1, 1) := by decide +kernel
theorem dX4_undo_64 : decode cX4_undo 64 = .ok (.if_icmp .ne 7, 3) := by decide +kernel
theorem dX4_undo_67 : decode cX4_undo 67 = .ok (.iconst 1, 1) := by decide +kernel
theorem dX4_undo_68 : decode cX4_undo 68 = .ok (.goto 4, 3) := by decide +kernel
theorem dX4_undo_71 : decode cX4_undo 71 = .ok (.iconst 0, 1) := by decide +kernel
theorem dX4_undo_72 : decode cX4_undo 72 = .ok (.invokevirtual 65, 3) := by decide +kernel
theorem dX4_undo_75 : decode cX4_undo 75 = .ok (.iinc 1 1, 3) := by decide +kernel
theorem dX4_undo_78 : decode cX4_undo 78 = .ok (.goto (-62), 3) := by decide +kernel
theorem dX4_undo_81 : decode cX4_undo 81 = .ok (.return_, 1) := by decide +kernel
theorem dX4_spread_0 : decode cX4_spread 0 = .ok (.iconst 0, 1) := by decide +kernel
theorem dX4_spread_1 : decode cX4_spread 1 = .ok (.istore_n 1, 1) := by decide +kernel
theorem dX4_spread_2 : decode cX4_spread 2 = .ok (.iload_n 1, 1) := by decide +kernel
theorem dX4_spread_3 : decode cX4_spread 3 = .ok (.aload_n 0, 1) := by decide +kernel
theorem dX4_spread_4 : decode cX4_spread 4 = .ok (.getfield 44, 3) := by decide +kernel
theorem dX4_spread_7 : decode cX4_spread 7 = .ok (.getfield 73, 3) := by decide +kernel
theorem dX4_spread_10 : decode cX4_spread 10 = .ok (.if_icmp .ge 75, 3) := by decide +kernel
theorem dX4_spread_13 : decode cX4_spread 13 = .ok (.aload_n 0, 1) := by decide +kernel
theorem dX4_spread_14 : decode cX4_spread 14 = .ok (.getfield 9, 3) := by decide +kernel
theorem dX4_spread_17 : decode cX4_spread 17 = .ok (.iload_n 1, 1) := by decide +kernel
theorem dX4_spread_18 : decode cX4_spread 18 = .ok (.aload_n 0, 1) := by decide +kernel
theorem dX4_spread_19 : decode cX4_spread 19 = .ok (.getfield 44, 3) := by decide +kernel
theorem dX4_spread_22 : decode cX4_spread 22 = .ok (.iload_n 1, 1) := by decide +kernel
theorem dX4_spread_23 : decode cX4_spread 23 = .ok (.invokevirtual 78, 3) := by decide +kernel
theorem dX4_spread_26 : decode cX4_spread 26 = .ok (.invokestatic 55, 3) := by decide +kernel
theorem dX4_spread_29 : decode cX4_spread 29 = .ok (.aload_n 0, 1) := by decide +kernel
theorem dX4_spread_30 : decode cX4_spread 30 = .ok (.getfield 15, 3) := by decide +kernel
theorem dX4_spread_33 : decode cX4_spread 33 = .ok (.iload_n 1, 1) := by decide +kernel
theorem dX4_spread_34 : decode cX4_spread 34 = .ok (.aload_n 0, 1) := by decide +kernel
theorem dX4_spread_35 : decode cX4_spread 35 = .ok (.getfield 44, 3) := by decide +kernel
theorem dX4_spread_38 : decode cX4_spread 38 = .ok (.iload_n 1, 1) := by decide +kernel
theorem dX4_spread_39 : decode cX4_spread 39 = .ok (.invokevirtual 82, 3) := by decide +kernel
theorem dX4_spread_42 : decode cX4_spread 42 = .ok (.invokestatic 55, 3) := by decide +kernel
theorem dX4_spread_45 : decode cX4_spread 45 = .ok (.aload_n 0, 1) := by decide +kernel
theorem dX4_spread_46 : decode cX4_spread 46 = .ok (.getfield 18, 3) := by decide +kernel
theorem dX4_spread_49 : decode cX4_spread 49 = .ok (.iload_n 1, 1) := by decide +kernel
theorem dX4_spread_50 : decode cX4_spread 50 = .ok (.aload_n 0, 1) := by decide +kernel
theorem dX4_spread_51 : decode cX4_spread 51 = .ok (.getfield 44, 3) := by decide +kernel
theorem dX4_spread_54 : decode cX4_spread 54 = .ok (.iload_n 1, 1) := by decide +kernel
theorem dX4_spread_55 : decode cX4_spread 55 = .ok (.invokevirtual 85, 3) := by decide +kernel
theorem dX4_spread_58 : decode cX4_spread 58 = .ok (.invokestatic 55, 3) := by decide +kernel
theorem dX4_spread_61 : decode cX4_spread 61 = .ok (.aload_n 0, 1) := by decide +kernel
theorem dX4_spread_62 : decode cX4_spread 62 = .ok (.getfield 21, 3) := by decide +kernel
theorem dX4_spread_65 : decode cX4_spread 65 = .ok (.iload_n 1, 1) := by decide +kernel
theorem dX4_spread_66 : decode cX4_spread 66 = .ok (.iconst 0, 1) := by decide +kernel
theorem dX4_spread_67 : decode cX4_spread 67 = .ok (.invokestatic 55, 3) := by decide +kernel
theorem dX4_spread_70 : decode cX4_spread 70 = .ok (.aload_n 0, 1) := by decide +kernel
theorem dX4_spread_71 : decode cX4_spread 71 = .ok (.getfield 24, 3) := by decide +kernel
theorem dX4_spread_74 : decode cX4_spread 74 = .ok (.iload_n 1, 1) := by decide +kernel
theorem dX4_spread_75 : decode cX4_spread 75 = .ok (.iconst 1, 1) := by decide +kernel
theorem dX4_spread_76 : decode cX4_spread 76 = .ok (.invokestatic 55, 3) := by decide +kernel
theorem dX4_spread_79 : decode cX4_spread 79 = .ok (.iinc 1 1, 3) := by decide +kernel
theorem dX4_spread_82 : decode cX4_spread 82 = .ok (.goto (-80), 3) := by decide +kernel
theorem dX4_spread_85 : decode cX4_spread 85 = .ok (.aload_n 0, 1) := by decide +kernel
theorem dX4_spread_86 : decode cX4_spread 86 = .ok (.invokevirtual 88, 3) := by decide +kernel
theorem dX4_spread_89 : decode cX4_spread 89 = .ok (.return_, 1) := by decide +kernel
theorem dX4_turn_0 : decode cX4_turn 0 = .ok (.iconst 0, 1) := by decide +kernel
theorem dX4_turn_1 : decode cX4_turn 1 = .ok (.istore 5, 2) := by decide +kernel
theorem dX4_turn_3 : decode cX4_turn 3 = .ok (.iload 5, 2) := by decide +kernel
theorem dX4_turn_5 : decode cX4_turn 5 = .ok (.aload_n 0, 1) := by decide +kernel
theorem dX4_turn_6 : decode cX4_turn 6 = .ok (.getfield 44, 3) := by decide +kernel
theorem dX4_turn_9 : decode cX4_turn 9 = .ok (.getfield 73, 3) := by decide +kernel
theorem dX4_turn_12 : decode cX4_turn 12 = .ok (.if_icmp .ge 29, 3) := by decide +kernel
theorem dX4_turn_15 : decode cX4_turn 15 = .ok (.aload_n 0, 1) := by decide +kernel
theorem dX4_turn_16 : decode cX4_turn 16 = .ok (.getfield 21, 3) := by decide +kernel
theorem dX4_turn_19 : decode cX4_turn 19 = .ok (.iload 5, 2) := by decide +kernel
theorem dX4_turn_21 : decode cX4_turn 21 = .ok (.aload_n 0, 1) := by decide +kernel
theorem dX4_turn_22 : decode cX4_turn 22 = .ok (.iload 5, 2) := by decide +kernel
theorem dX4_turn_24 : decode cX4_turn 24 = .ok (.iload_n 1, 1) := by decide +kernel
theorem dX4_turn_25 : decode cX4_turn 25 = .ok (.iload_n 2, 1) := by decide +kernel
theorem dX4_turn_26 : decode cX4_turn 26 = .ok (.iload_n 3, 1) := by decide +kernel
theorem dX4_turn_27 : decode cX4_turn 27 = .ok (.iload 4, 2) := by decide +kernel
theorem dX4_turn_29 : decode cX4_turn 29 = .ok (.invokevirtual 91, 3) := by decide +kernel
theorem dX4_turn_32 : decode cX4_turn 32 = .ok (.invokestatic 55, 3) := by decide +kernel
theorem dX4_turn_35 : decode cX4_turn 35 = .ok (.iinc 5 1, 3) := by decide +kernel
theorem dX4_turn_38 : decode cX4_turn 38 = .ok (.goto (-35), 3) := by decide +kernel
theorem dX4_turn_41 : decode cX4_turn 41 = .ok (.iconst 0, 1) := by decide +kernel
theorem dX4_turn_42 : decode cX4_turn 42 = .ok (.istore 5, 2) := by decide +kernel
theorem dX4_turn_44 : decode cX4_turn 44 = .ok (.iload 5, 2) := by decide +kernel
theorem dX4_turn_46 : decode cX4_turn 46 = .ok (.aload_n 0, 1) := by decide +kernel
theorem dX4_turn_47 : decode cX4_turn 47 = .ok (.getfield 44, 3) := by decide +kernel
theorem dX4_turn_50 : decode cX4_turn 50 = .ok (.getfield 73, 3) := by decide +kernel
theorem dX4_turn_53 : decode cX4_turn 53 = .ok (.if_icmp .ge 29, 3) := by decide +kernel
theorem dX4_turn_56 : decode cX4_turn 56 = .ok (.aload_n 0, 1) := by decide +kernel
theorem dX4_turn_57 : decode cX4_turn 57 = .ok (.iload 5, 2) := by decide +kernel
theorem dX4_turn_59 : decode cX4_turn 59 = .ok (.iload_n 1, 1) := by decide +kernel
theorem dX4_turn_60 : decode cX4_turn 60 = .ok (.iload_n 2, 1) := by decide +kernel
theorem dX4_turn_61 : decode cX4_turn 61 = .ok (.iload_n 3, 1) := by decide +kernel
theorem dX4_turn_62 : decode cX4_turn 62 = .ok (.invokevirtual 95, 3) := by decide +kernel
theorem dX4_turn_65 : decode cX4_turn 65 = .ok (.ifCond .eq 11, 3) := by decide +kernel
theorem dX4_turn_68 : decode cX4_turn 68 = .ok (.aload_n 0, 1) := by decide +kernel
theorem dX4_turn_69 : decode cX4_turn 69 = .ok (.iload 5, 2) := by decide +kernel
theorem dX4_turn_71 : decode cX4_turn 71 = .ok (.iload_n 1, 1) := by decide +kernel
theorem dX4_turn_72 : decode cX4_turn 72 = .ok (.iload_n 2, 1) := by decide +kernel
theorem dX4_turn_73 : decode cX4_turn 73 = .ok (.invokevirtual 99, 3) := by decide +kernel
theorem dX4_turn_76 : decode cX4_turn 76 = .ok (.iinc 5 1, 3) := by decide +kernel
theorem dX4_turn_79 : decode cX4_turn 79 = .ok (.goto (-35), 3) := by decide +kernel
theorem dX4_turn_82 : decode cX4_turn 82 = .ok (.aload_n 0, 1) := by decide +kernel
theorem dX4_turn_83 : decode cX4_turn 83 = .ok (.invokevirtual 88, 3) := by decide +kernel
theorem dX4_turn_86 : decode cX4_turn 86 = .ok (.return_, 1) := by decide +kernel
theorem dX4_layerBehind_0 : decode cX4_layerBehind 0 = .ok (.aload_n 0, 1) := by decide +kernel
theorem dX4_layerBehind_1 : decode cX4_layerBehind 1 = .ok (.getfield 29, 3) := by decide +kernel
theorem dX4_layerBehind_4 : decode cX4_layerBehind 4 = .ok (.aload_n 0, 1) := by decide +kernel
theorem dX4_layerBehind_5 : decode cX4_layerBehind 5 = .ok (.iload_n 1, 1) := by decide +kernel
theorem dX4_layerBehind_6 : decode cX4_layerBehind 6 = .ok (.iload_n 2, 1) := by decide +kernel
theorem dX4_layerBehind_7 : decode cX4_layerBehind 7 = .ok (.iload_n 3, 1) := by decide +kernel
theorem dX4_layerBehind_8 : decode cX4_layerBehind 8 = .ok (.invokevirtual 103, 3) := by decide +kernel
theorem dX4_layerBehind_11 : decode cX4_layerBehind 11 = .ok (.invokestatic 69, 3) := by decide +kernel
theorem dX4_layerBehind_14 : decode cX4_layerBehind 14 = .ok (.istore 6, 2) := by decide +kernel
theorem dX4_layerBehind_16 : decode cX4_layerBehind 16 = .ok (.aload_n 0, 1) := by decide +kernel
theorem dX4_layerBehind_17 : decode cX4_layerBehind 17 = .ok (.iload_n 1, 1) := by decide +kernel
theorem dX4_layerBehind_18 : decode cX4_layerBehind 18 = .ok (.iload_n 2, 1) := by decide +kernel
theorem dX4_layerBehind_19 : decode cX4_layerBehind 19 = .ok (.iload_n 3, 1) := by decide +kernel
theorem dX4_layerBehind_20 : decode cX4_layerBehind 20 = .ok (.iload 4, 2) := by decide +kernel
theorem dX4_layerBehind_22 : decode cX4_layerBehind 22 = .ok (.invokevirtual 95, 3) := by decide +kernel
theorem dX4_layerBehind_25 : decode cX4_layerBehind 25 = .ok (.ifCond .eq 34, 3) := by decide +kernel
theorem dX4_layerBehind_28 : decode cX4_layerBehind 28 = .ok (.aload_n 0, 1) := by decide +kernel
theorem dX4_layerBehind_29 : decode cX4_layerBehind 29 = .ok (.iload_n 1, 1) := by decide +kernel
theorem dX4_layerBehind_30 : decode cX4_layerBehind 30 = .ok (.invokevirtual 107, 3) := by decide +kernel
theorem dX4_layerBehind_33 : decode cX4_layerBehind 33 = .ok (.iconst 1, 1) := by decide +kernel
theorem dX4_layerBehind_34 : decode cX4_layerBehind 34 = .ok (.isub, 1) := by decide +kernel
theorem dX4_layerBehind_35 : decode cX4_layerBehind 35 = .ok (.aload_n 0, 1) := by decide +kernel
theorem dX4_layerBehind_36 : decode cX4_layerBehind 36 = .ok (.iload_n 1, 1) := by decide +kernel
theorem dX4_layerBehind_37 : decode cX4_layerBehind 37 = .ok (.invokevirtual 110, 3) := by decide +kernel
theorem dX4_layerBehind_40 : decode cX4_layerBehind 40 = .ok (.isub, 1) := by decide +kernel
theorem dX4_layerBehind_41 : decode cX4_layerBehind 41 = .ok (.istore 7, 2) := by decide +kernel
theorem dX4_layerBehind_43 : decode cX4_layerBehind 43 = .ok (.iload 5, 2) := by decide +kernel
theorem dX4_layerBehind_45 : decode cX4_layerBehind 45 = .ok (.ifCond .eq 11, 3) := by decide +kernel
theorem dX4_layerBehind_48 : decode cX4_layerBehind 48 = .ok (.iload 6, 2) := by decide +kernel
theorem dX4_layerBehind_50 : decode cX4_layerBehind 50 = .ok (.iload 7, 2) := by decide +kernel
theorem dX4_layerBehind_52 : decode cX4_layerBehind 52 = .ok (.iadd, 1) := by decide +kernel
theorem dX4_layerBehind_53 : decode cX4_layerBehind 53 = .ok (.goto 5, 3) := by decide +kernel
theorem dX4_layerBehind_56 : decode cX4_layerBehind 56 = .ok (.iload 7, 2) := by decide +kernel
theorem dX4_layerBehind_58 : decode cX4_layerBehind 58 = .ok (.ireturn, 1) := by decide +kernel
theorem dX4_layerBehind_59 : decode cX4_layerBehind 59 = .ok (.iload 5, 2) := by decide +kernel
theorem dX4_layerBehind_61 : decode cX4_layerBehind 61 = .ok (.ifCond .eq 11, 3) := by decide +kernel
theorem dX4_layerBehind_64 : decode cX4_layerBehind 64 = .ok (.aload_n 0, 1) := by decide +kernel
theorem dX4_layerBehind_65 : decode cX4_layerBehind 65 = .ok (.iload_n 1, 1) := by decide +kernel
theorem dX4_layerBehind_66 : decode cX4_layerBehind 66 = .ok (.invokevirtual 110, 3) := by decide +kernel
theorem dX4_layerBehind_69 : decode cX4_layerBehind 69 = .ok (.goto 11, 3) := by decide +kernel
theorem dX4_layerBehind_72 : decode cX4_layerBehind 72 = .ok (.iload 6, 2) := by decide +kernel
theorem dX4_layerBehind_74 : decode cX4_layerBehind 74 = .ok (.aload_n 0, 1) := by decide +kernel
theorem dX4_layerBehind_75 : decode cX4_layerBehind 75 = .ok (.iload_n 1, 1) := by decide +kernel
theorem dX4_layerBehind_76 : decode cX4_layerBehind 76 = .ok (.invokevirtual 110, 3) := by decide +kernel
theorem dX4_layerBehind_79 : decode cX4_layerBehind 79 = .ok (.iadd, 1) := by decide +kernel
theorem dX4_layerBehind_80 : decode cX4_layerBehind 80 = .ok (.ireturn, 1) := by decide +kernel
theorem dX4_flip_0 : decode cX4_flip 0 = .ok (.iload_n 2, 1) := by decide +kernel
theorem dX4_flip_1 : decode cX4_flip 1 = .ok (.iload_n 3, 1) := by decide +kernel
theorem dX4_flip_2 : decode cX4_flip 2 = .ok (.aload_n 0, 1) := by decide +kernel
theorem dX4_flip_3 : decode cX4_flip 3 = .ok (.iload_n 1, 1) := by decide +kernel
theorem dX4_flip_4 : decode cX4_flip 4 = .ok (.invokevirtual 113, 3) := by decide +kernel
theorem dX4_flip_7 : decode cX4_flip 7 = .ok (.aload_n 0, 1) := by decide +kernel
theorem dX4_flip_8 : decode cX4_flip 8 = .ok (.iload_n 1, 1) := by decide +kernel
theorem dX4_flip_9 : decode cX4_flip 9 = .ok (.invokevirtual 114, 3) := by decide +kernel
theorem dX4_flip_12 : decode cX4_flip 12 = .ok (.invokestatic 115, 3) := by decide +kernel
theorem dX4_flip_15 : decode cX4_flip 15 = .ok (.istore 4, 2) := by decide +kernel
theorem dX4_flip_17 : decode cX4_flip 17 = .ok (.iload_n 2, 1) := by decide +kernel
theorem dX4_flip_18 : decode cX4_flip 18 = .ok (.iload_n 3, 1) := by decide +kernel
theorem dX4_flip_19 : decode cX4_flip 19 = .ok (.aload_n 0, 1) := by decide +kernel
theorem dX4_flip_20 : decode cX4_flip 20 = .ok (.iload_n 1, 1) := by decide +kernel
theorem dX4_flip_21 : decode cX4_flip 21 = .ok (.invokevirtual 113, 3) := by decide +kernel
theorem dX4_flip_24 : decode cX4_flip 24 = .ok (.aload_n 0, 1) := by decide +kernel
theorem dX4_flip_25 : decode cX4_flip 25 = .ok (.iload_n 1, 1) := by decide +kernel
theorem dX4_flip_26 : decode cX4_flip 26 = .ok (.invokevirtual 114, 3) := by decide +kernel
theorem dX4_flip_29 : decode cX4_flip 29 = .ok (.invokestatic 119, 3) := by decide +kernel
theorem dX4_flip_32 : decode cX4_flip 32 = .ok (.istore 5, 2) := by decide +kernel
theorem dX4_flip_34 : decode cX4_flip 34 = .ok (.aload_n 0, 1) := by decide +kernel
theorem dX4_flip_35 : decode cX4_flip 35 = .ok (.getfield 9, 3) := by decide +kernel
theorem dX4_flip_38 : decode cX4_flip 38 = .ok (.iload_n 1, 1) := by decide +kernel
theorem dX4_flip_39 : decode cX4_flip 39 = .ok (.iload 4, 2) := by decide +kernel
theorem dX4_flip_41 : decode cX4_flip 41 = .ok (.invokestatic 55, 3) := by decide +kernel
theorem dX4_flip_44 : decode cX4_flip 44 = .ok (.aload_n 0, 1) := by decide +kernel
theorem dX4_flip_45 : decode cX4_flip 45 = .ok (.getfield 15, 3) := by decide +kernel
theorem dX4_flip_48 : decode cX4_flip 48 = .ok (.iload_n 1, 1) := by decide +kernel
theorem dX4_flip_49 : decode cX4_flip 49 = .ok (.iload 5, 2) := by decide +kernel
theorem dX4_flip_51 : decode cX4_flip 51 = .ok (.invokestatic 55, 3) := by decide +kernel
theorem dX4_flip_54 : decode cX4_flip 54 = .ok (.aload_n 0, 1) := by decide +kernel
theorem dX4_flip_55 : decode cX4_flip 55 = .ok (.getfield 18, 3) := by decide +kernel
theorem dX4_flip_58 : decode cX4_flip 58 = .ok (.iload_n 1, 1) := by decide +kernel
theorem dX4_flip_59 : decode cX4_flip 59 = .ok (.iload_n 2, 1) := by decide +kernel
theorem dX4_flip_60 : decode cX4_flip 60 = .ok (.aload_n 0, 1) := by decide +kernel
theorem dX4_flip_61 : decode cX4_flip 61 = .ok (.iload_n 1, 1) := by decide +kernel
theorem dX4_flip_62 : decode cX4_flip 62 = .ok (.invokevirtual 122, 3) := by decide +kernel
theorem dX4_flip_65 : decode cX4_flip 65 = .ok (.invokestatic 123, 3) := by decide +kernel
theorem dX4_flip_68 : decode cX4_flip 68 = .ok (.invokestatic 55, 3) := by decide +kernel
theorem dX4_flip_71 : decode cX4_flip 71 = .ok (.aload_n 0, 1) := by decide +kernel
theorem dX4_flip_72 : decode cX4_flip 72 = .ok (.getfield 24, 3) := by decide +kernel
theorem dX4_flip_75 : decode cX4_flip 75 = .ok (.iload_n 1, 1) := by decide +kernel
theorem dX4_flip_76 : decode cX4_flip 76 = .ok (.aload_n 0, 1) := by decide +kernel
theorem dX4_flip_77 : decode cX4_flip 77 = .ok (.iload_n 1, 1) := by decide +kernel
theorem dX4_flip_78 : decode cX4_flip 78 = .ok (.invokevirtual 127, 3) := by decide +kernel
theorem dX4_flip_81 : decode cX4_flip 81 = .ok (.ifCond .ne 7, 3) := by decide +kernel
theorem dX4_flip_84 : decode cX4_flip 84 = .ok (.iconst 1, 1) := by decide +kernel
theorem dX4_flip_85 : decode cX4_flip 85 = .ok (.goto 4, 3) := by decide +kernel
theorem dX4_flip_88 : decode cX4_flip 88 = .ok (.iconst 0, 1) := by decide +kernel
theorem dX4_flip_89 : decode cX4_flip 89 = .ok (.invokestatic 61, 3) := by decide +kernel
theorem dX4_flip_92 : decode cX4_flip 92 = .ok (.invokestatic 55, 3) := by decide +kernel
theorem dX4_flip_95 : decode cX4_flip 95 = .ok (.return_, 1) := by decide +kernel
theorem dX4_measure_0 : decode cX4_measure 0 = .ok (.aload_n 0, 1) := by decide +kernel
theorem dX4_measure_1 : decode cX4_measure 1 = .ok (.getfield 29, 3) := by decide +kernel
theorem dX4_measure_4 : decode cX4_measure 4 = .ok (.iconst 0, 1) := by decide +kernel
theorem dX4_measure_5 : decode cX4_measure 5 = .ok (.invokestatic 131, 3) := by decide +kernel
theorem dX4_measure_8 : decode cX4_measure 8 = .ok (.iconst 0, 1) := by decide +kernel
theorem dX4_measure_9 : decode cX4_measure 9 = .ok (.istore_n 1, 1) := by decide +kernel
theorem dX4_measure_10 : decode cX4_measure 10 = .ok (.iload_n 1, 1) := by decide +kernel
theorem dX4_measure_11 : decode cX4_measure 11 = .ok (.aload_n 0, 1) := by decide +kernel
theorem dX4_measure_12 : decode cX4_measure 12 = .ok (.getfield 44, 3) := by decide +kernel
theorem dX4_measure_15 : decode cX4_measure 15 = .ok (.getfield 73, 3) := by decide +kernel
theorem dX4_measure_18 : decode cX4_measure 18 = .ok (.if_icmp .ge 33, 3) := by decide +kernel
theorem dX4_measure_21 : decode cX4_measure 21 = .ok (.aload_n 0, 1) := by decide +kernel
theorem dX4_measure_22 : decode cX4_measure 22 = .ok (.iload_n 1, 1) := by decide +kernel
theorem dX4_measure_23 : decode cX4_measure 23 = .ok (.invokevirtual 135, 3) := by decide +kernel
theorem dX4_measure_26 : decode cX4_measure 26 = .ok (.istore_n 2, 1) := by decide +kernel
theorem dX4_measure_27 : decode cX4_measure 27 = .ok (.aload_n 0, 1) := by decide +kernel
theorem dX4_measure_28 : decode cX4_measure 28 = .ok (.getfield 29, 3) := by decide +kernel
theorem dX4_measure_31 : decode cX4_measure 31 = .ok (.iload_n 2, 1) := by decide +kernel
theorem dX4_measure_32 : decode cX4_measure 32 = .ok (.aload_n 0, 1) := by decide +kernel
theorem dX4_measure_33 : decode cX4_measure 33 = .ok (.getfield 29, 3) := by decide +kernel
theorem dX4_measure_36 : decode cX4_measure 36 = .ok (.iload_n 2, 1) := by decide +kernel
theorem dX4_measure_37 : decode cX4_measure 37 = .ok (.invokestatic 69, 3) := by decide +kernel
theorem dX4_measure_40 : decode cX4_measure 40 = .ok (.iconst 1, 1) := by decide +kernel
theorem dX4_measure_41 : decode cX4_measure 41 = .ok (.iadd, 1) := by decide +kernel
theorem dX4_measure_42 : decode cX4_measure 42 = .ok (.invokestatic 55, 3) := by decide +kernel
theorem dX4_measure_45 : decode cX4_measure 45 = .ok (.iinc 1 1, 3) := by decide +kernel
theorem dX4_measure_48 : decode cX4_measure 48 = .ok (.goto (-38), 3) := by decide +kernel
theorem dX4_measure_51 : decode cX4_measure 51 = .ok (.return_, 1) := by decide +kernel
theorem dX4_spot_0 : decode cX4_spot 0 = .ok (.aload_n 0, 1) := by decide +kernel
theorem dX4_spot_1 : decode cX4_spot 1 = .ok (.getfield 9, 3) := by decide +kernel
theorem dX4_spot_4 : decode cX4_spot 4 = .ok (.iload_n 1, 1) := by decide +kernel
theorem dX4_spot_5 : decode cX4_spot 5 = .ok (.invokestatic 69, 3) := by decide +kernel
theorem dX4_spot_8 : decode cX4_spot 8 = .ok (.aload_n 0, 1) := by decide +kernel
theorem dX4_spot_9 : decode cX4_spot 9 = .ok (.getfield 15, 3) := by decide +kernel
theorem dX4_spot_12 : decode cX4_spot 12 = .ok (.iload_n 1, 1) := by decide +kernel
theorem dX4_spot_13 : decode cX4_spot 13 = .ok (.invokestatic 69, 3) := by decide +kernel
theorem dX4_spot_16 : decode cX4_spot 16 = .ok (.aload_n 0, 1) := by decide +kernel
theorem dX4_spot_17 : decode cX4_spot 17 = .ok (.getfield 18, 3) := by decide +kernel
theorem dX4_spot_20 : decode cX4_spot 20 = .ok (.iload_n 1, 1) := by decide +kernel
theorem dX4_spot_21 : decode cX4_spot 21 = .ok (.invokestatic 69, 3) := by decide +kernel
theorem dX4_spot_24 : decode cX4_spot 24 = .ok (.invokestatic 138, 3) := by decide +kernel
theorem dX4_spot_27 : decode cX4_spot 27 = .ok (.ireturn, 1) := by decide +kernel
theorem dX4_mirrorSpot_0 : decode cX4_mirrorSpot 0 = .ok (.iload_n 2, 1) := by decide +kernel
theorem dX4_mirrorSpot_1 : decode cX4_mirrorSpot 1 = .ok (.iload_n 3, 1) := by decide +kernel
theorem dX4_mirrorSpot_2 : decode cX4_mirrorSpot 2 = .ok (.aload_n 0, 1) := by decide +kernel
theorem dX4_mirrorSpot_3 : decode cX4_mirrorSpot 3 = .ok (.iload_n 1, 1) := by decide +kernel
theorem dX4_mirrorSpot_4 : decode cX4_mirrorSpot 4 = .ok (.invokevirtual 113, 3) := by decide +kernel
theorem dX4_mirrorSpot_7 : decode cX4_mirrorSpot 7 = .ok (.aload_n 0, 1) := by decide +kernel
theorem dX4_mirrorSpot_8 : decode cX4_mirrorSpot 8 = .ok (.iload_n 1, 1) := by decide +kernel
theorem dX4_mirrorSpot_9 : decode cX4_mirrorSpot 9 = .ok (.invokevirtual 114, 3) := by decide +kernel
theorem dX4_mirrorSpot_12 : decode cX4_mirrorSpot 12 = .ok (.invokestatic 115, 3) := by decide +kernel
theorem dX4_mirrorSpot_15 : decode cX4_mirrorSpot 15 = .ok (.istore 4, 2) := by decide +kernel
theorem dX4_mirrorSpot_17 : decode cX4_mirrorSpot 17 = .ok (.iload_n 2, 1) := by decide +kernel
theorem dX4_mirrorSpot_18 : decode cX4_mirrorSpot 18 = .ok (.iload_n 3, 1) := by decide +kernel
theorem dX4_mirrorSpot_19 : decode cX4_mirrorSpot 19 = .ok (.aload_n 0, 1) := by decide +kernel
theorem dX4_mirrorSpot_20 : decode cX4_mirrorSpot 20 = .ok (.iload_n 1, 1) := by decide +kernel
theorem dX4_mirrorSpot_21 : decode cX4_mirrorSpot 21 = .ok (.invokevirtual 113, 3) := by decide +kernel
theorem dX4_mirrorSpot_24 : decode cX4_mirrorSpot 24 = .ok (.aload_n 0, 1) := by decide +kernel
theorem dX4_mirrorSpot_25 : decode cX4_mirrorSpot 25 = .ok (.iload_n 1, 1) := by decide +kernel
theorem dX4_mirrorSpot_26 : decode cX4_mirrorSpot 26 = .ok (.invokevirtual 114, 3) := by decide +kernel
theorem dX4_mirrorSpot_29 : decode cX4_mirrorSpot 29 = .ok (.invokestatic 119, 3) := by decide +kernel
theorem dX4_mirrorSpot_32 : decode cX4_mirrorSpot 32 = .ok (.istore 5, 2) := by decide +kernel
theorem dX4_mirrorSpot_34 : decode cX4_mirrorSpot 34 = .ok (.iload 4, 2) := by decide +kernel
theorem dX4_mirrorSpot_36 : decode cX4_mirrorSpot 36 = .ok (.iload 5, 2) := by decide +kernel
theorem dX4_mirrorSpot_38 : decode cX4_mirrorSpot 38 = .ok (.iload_n 2, 1) := by decide +kernel
theorem dX4_mirrorSpot_39 : decode cX4_mirrorSpot 39 = .ok (.aload_n 0, 1) := by decide +kernel
theorem dX4_mirrorSpot_40 : decode cX4_mirrorSpot 40 = .ok (.iload_n 1, 1) := by decide +kernel
theorem dX4_mirrorSpot_41 : decode cX4_mirrorSpot 41 = .ok (.invokevirtual 122, 3) := by decide +kernel
theorem dX4_mirrorSpot_44 : decode cX4_mirrorSpot 44 = .ok (.invokestatic 123, 3) := by decide +kernel
theorem dX4_mirrorSpot_47 : decode cX4_mirrorSpot 47 = .ok (.invokestatic 138, 3) := by decide +kernel
theorem dX4_mirrorSpot_50 : decode cX4_mirrorSpot 50 = .ok (.ireturn, 1) := by decide +kernel
theorem dX4_x_0 : decode cX4_x 0 = .ok (.aload_n 0, 1) := by decide +kernel
theorem dX4_x_1 : decode cX4_x 1 = .ok (.getfield 9, 3) := by decide +kernel
theorem dX4_x_4 : decode cX4_x 4 = .ok (.iload_n 1, 1) := by decide +kernel
theorem dX4_x_5 : decode cX4_x 5 = .ok (.invokestatic 69, 3) := by decide +kernel
theorem dX4_x_8 : decode cX4_x 8 = .ok (.ireturn, 1) := by decide +kernel
theorem dX4_y_0 : decode cX4_y 0 = .ok (.aload_n 0, 1) := by decide +kernel
theorem dX4_y_1 : decode cX4_y 1 = .ok (.getfield 15, 3) := by decide +kernel
theorem dX4_y_4 : decode cX4_y 4 = .ok (.iload_n 1, 1) := by decide +kernel
theorem dX4_y_5 : decode cX4_y 5 = .ok (.invokestatic 69, 3) := by decide +kernel
theorem dX4_y_8 : decode cX4_y 8 = .ok (.ireturn, 1) := by decide +kernel
theorem dX4_quarter_0 : decode cX4_quarter 0 = .ok (.aload_n 0, 1) := by decide +kernel
theorem dX4_quarter_1 : decode cX4_quarter 1 = .ok (.getfield 18, 3) := by decide +kernel
theorem dX4_quarter_4 : decode cX4_quarter 4 = .ok (.iload_n 1, 1) := by decide +kernel
theorem dX4_quarter_5 : decode cX4_quarter 5 = .ok (.invokestatic 69, 3) := by decide +kernel
theorem dX4_quarter_8 : decode cX4_quarter 8 = .ok (.ireturn, 1) := by decide +kernel
theorem dX4_layer_0 : decode cX4_layer 0 = .ok (.aload_n 0, 1) := by decide +kernel
theorem dX4_layer_1 : decode cX4_layer 1 = .ok (.getfield 21, 3) := by decide +kernel
theorem dX4_layer_4 : decode cX4_layer 4 = .ok (.iload_n 1, 1) := by decide +kernel
theorem dX4_layer_5 : decode cX4_layer 5 = .ok (.invokestatic 69, 3) := by decide +kernel
theorem dX4_layer_8 : decode cX4_layer 8 = .ok (.ireturn, 1) := by decide +kernel
theorem dX4_isUp_0 : decode cX4_isUp 0 = .ok (.aload_n 0, 1) := by decide +kernel
theorem dX4_isUp_1 : decode cX4_isUp 1 = .ok (.getfield 24, 3) := by decide +kernel
theorem dX4_isUp_4 : decode cX4_isUp 4 = .ok (.iload_n 1, 1) := by decide +kernel
theorem dX4_isUp_5 : decode cX4_isUp 5 = .ok (.invokestatic 69, 3) := by decide +kernel
theorem dX4_isUp_8 : decode cX4_isUp 8 = .ok (.iconst 1, 1) := by decide +kernel
theorem dX4_isUp_9 : decode cX4_isUp 9 = .ok (.if_icmp .ne 7, 3) := by decide +kernel
theorem dX4_isUp_12 : decode cX4_isUp 12 = .ok (.iconst 1, 1) := by decide +kernel
theorem dX4_isUp_13 : decode cX4_isUp 13 = .ok (.goto 4, 3) := by decide +kernel
theorem dX4_isUp_16 : decode cX4_isUp 16 = .ok (.iconst 0, 1) := by decide +kernel
theorem dX4_isUp_17 : decode cX4_isUp 17 = .ok (.ireturn, 1) := by decide +kernel
theorem dX4_heightOver_0 : decode cX4_heightOver 0 = .ok (.aload_n 0, 1) := by decide +kernel
theorem dX4_heightOver_1 : decode cX4_heightOver 1 = .ok (.getfield 29, 3) := by decide +kernel
theorem dX4_heightOver_4 : decode cX4_heightOver 4 = .ok (.aload_n 0, 1) := by decide +kernel
theorem dX4_heightOver_5 : decode cX4_heightOver 5 = .ok (.iload_n 1, 1) := by decide +kernel
theorem dX4_heightOver_6 : decode cX4_heightOver 6 = .ok (.invokevirtual 135, 3) := by decide +kernel
theorem dX4_heightOver_9 : decode cX4_heightOver 9 = .ok (.invokestatic 69, 3) := by decide +kernel
theorem dX4_heightOver_12 : decode cX4_heightOver 12 = .ok (.ireturn, 1) := by decide +kernel
theorem dX4_isOn_0 : decode cX4_isOn 0 = .ok (.iload_n 2, 1) := by decide +kernel
theorem dX4_isOn_1 : decode cX4_isOn 1 = .ok (.aload_n 0, 1) := by decide +kernel
theorem dX4_isOn_2 : decode cX4_isOn 2 = .ok (.iload_n 1, 1) := by decide +kernel
theorem dX4_isOn_3 : decode cX4_isOn 3 = .ok (.invokevirtual 113, 3) := by decide +kernel
theorem dX4_isOn_6 : decode cX4_isOn 6 = .ok (.aload_n 0, 1) := by decide +kernel
theorem dX4_isOn_7 : decode cX4_isOn 7 = .ok (.iload_n 1, 1) := by decide +kernel
theorem dX4_isOn_8 : decode cX4_isOn 8 = .ok (.invokevirtual 114, 3) := by decide +kernel
theorem dX4_isOn_11 : decode cX4_isOn 11 = .ok (.aload_n 0, 1) := by decide +kernel
theorem dX4_isOn_12 : decode cX4_isOn 12 = .ok (.iload_n 1, 1) := by decide +kernel
theorem dX4_isOn_13 : decode cX4_isOn 13 = .ok (.invokevirtual 122, 3) := by decide +kernel
theorem dX4_isOn_16 : decode cX4_isOn 16 = .ok (.invokestatic 140, 3) := by decide +kernel
theorem dX4_isOn_19 : decode cX4_isOn 19 = .ok (.iload_n 3, 1) := by decide +kernel
theorem dX4_isOn_20 : decode cX4_isOn 20 = .ok (.iload 4, 2) := by decide +kernel
theorem dX4_isOn_22 : decode cX4_isOn 22 = .ok (.invokestatic 143, 3) := by decide +kernel
theorem dX4_isOn_25 : decode cX4_isOn 25 = .ok (.ireturn, 1) := by decide +kernel
theorem dX4_lying_0 : decode cX4_lying 0 = .ok (.iconst 0, 1) := by decide +kernel
theorem dX4_lying_1 : decode cX4_lying 1 = .ok (.istore 4, 2) := by decide +kernel
theorem dX4_lying_3 : decode cX4_lying 3 = .ok (.iconst 0, 1) := by decide +kernel
theorem dX4_lying_4 : decode cX4_lying 4 = .ok (.istore 5, 2) := by decide +kernel
theorem dX4_lying_6 : decode cX4_lying 6 = .ok (.iload 5, 2) := by decide +kernel
theorem dX4_lying_8 : decode cX4_lying 8 = .ok (.aload_n 0, 1) := by decide +kernel
theorem dX4_lying_9 : decode cX4_lying 9 = .ok (.getfield 44, 3) := by decide +kernel
theorem dX4_lying_12 : decode cX4_lying 12 = .ok (.getfield 73, 3) := by decide +kernel
theorem dX4_lying_15 : decode cX4_lying 15 = .ok (.if_icmp .ge 26, 3) := by decide +kernel
theorem dX4_lying_18 : decode cX4_lying 18 = .ok (.iload 4, 2) := by decide +kernel
theorem dX4_lying_20 : decode cX4_lying 20 = .ok (.aload_n 0, 1) := by decide +kernel
theorem dX4_lying_21 : decode cX4_lying 21 = .ok (.iload 5, 2) := by decide +kernel
theorem dX4_lying_23 : decode cX4_lying 23 = .ok (.iload_n 1, 1) := by decide +kernel
theorem dX4_lying_24 : decode cX4_lying 24 = .ok (.iload_n 2, 1) := by decide +kernel
theorem dX4_lying_25 : decode cX4_lying 25 = .ok (.iload_n 3, 1) := by decide +kernel
theorem dX4_lying_26 : decode cX4_lying 26 = .ok (.invokevirtual 95, 3) := by decide +kernel
theorem dX4_lying_29 : decode cX4_lying 29 = .ok (.invokestatic 61, 3) := by decide +kernel
theorem dX4_lying_32 : decode cX4_lying 32 = .ok (.iadd, 1) := by decide +kernel
theorem dX4_lying_33 : decode cX4_lying 33 = .ok (.istore 4, 2) := by decide +kernel
theorem dX4_lying_35 : decode cX4_lying 35 = .ok (.iinc 5 1, 3) := by decide +kernel
theorem dX4_lying_38 : decode cX4_lying 38 = .ok (.goto (-32), 3) := by decide +kernel
theorem dX4_lying_41 : decode cX4_lying 41 = .ok (.iload 4, 2) := by decide +kernel
theorem dX4_lying_43 : decode cX4_lying 43 = .ok (.ireturn, 1) := by decide +kernel
theorem dX4_isCrossed_0 : decode cX4_isCrossed 0 = .ok (.aload_n 0, 1) := by decide +kernel
theorem dX4_isCrossed_1 : decode cX4_isCrossed 1 = .ok (.iload_n 1, 1) := by decide +kernel
theorem dX4_isCrossed_2 : decode cX4_isCrossed 2 = .ok (.iload_n 2, 1) := by decide +kernel
theorem dX4_isCrossed_3 : decode cX4_isCrossed 3 = .ok (.iconst 0, 1) := by decide +kernel
theorem dX4_isCrossed_4 : decode cX4_isCrossed 4 = .ok (.invokevirtual 146, 3) := by decide +kernel
theorem dX4_isCrossed_7 : decode cX4_isCrossed 7 = .ok (.istore_n 3, 1) := by decide +kernel
theorem dX4_isCrossed_8 : decode cX4_isCrossed 8 = .ok (.iload_n 3, 1) := by decide +kernel
theorem dX4_isCrossed_9 : decode cX4_isCrossed 9 = .ok (.ifCond .le 18, 3) := by decide +kernel
theorem dX4_isCrossed_12 : decode cX4_isCrossed 12 = .ok (.iload_n 3, 1) := by decide +kernel
theorem dX4_isCrossed_13 : decode cX4_isCrossed 13 = .ok (.aload_n 0, 1) := by decide +kernel
theorem dX4_isCrossed_14 : decode cX4_isCrossed 14 = .ok (.getfield 44, 3) := by decide +kernel
theorem dX4_isCrossed_17 : decode cX4_isCrossed 17 = .ok (.getfield 73, 3) := by decide +kernel
theorem dX4_isCrossed_20 : decode cX4_isCrossed 20 = .ok (.if_icmp .ge 7, 3) := by decide +kernel
theorem dX4_isCrossed_23 : decode cX4_isCrossed 23 = .ok (.iconst 1, 1) := by decide +kernel
theorem dX4_isCrossed_24 : decode cX4_isCrossed 24 = .ok (.goto 4, 3) := by decide +kernel
theorem dX4_isCrossed_27 : decode cX4_isCrossed 27 = .ok (.iconst 0, 1) := by decide +kernel
theorem dX4_isCrossed_28 : decode cX4_isCrossed 28 = .ok (.ireturn, 1) := by decide +kernel
theorem dX4_find_0 : decode cX4_find 0 = .ok (.iconst 0, 1) := by decide +kernel
theorem dX4_find_1 : decode cX4_find 1 = .ok (.istore 5, 2) := by decide +kernel
theorem dX4_find_3 : decode cX4_find 3 = .ok (.iload 5, 2) := by decide +kernel
theorem dX4_find_5 : decode cX4_find 5 = .ok (.aload_n 0, 1) := by decide +kernel
theorem dX4_find_6 : decode cX4_find 6 = .ok (.getfield 44, 3) := by decide +kernel
theorem dX4_find_9 : decode cX4_find 9 = .ok (.getfield 73, 3) := by decide +kernel
theorem dX4_find_12 : decode cX4_find 12 = .ok (.if_icmp .ge 53, 3) := by decide +kernel
theorem dX4_find_15 : decode cX4_find 15 = .ok (.aload_n 0, 1) := by decide +kernel
theorem dX4_find_16 : decode cX4_find 16 = .ok (.iload 5, 2) := by decide +kernel
theorem dX4_find_18 : decode cX4_find 18 = .ok (.invokevirtual 113, 3) := by decide +kernel
theorem dX4_find_21 : decode cX4_find 21 = .ok (.iload_n 1, 1) := by decide +kernel
theorem dX4_find_22 : decode cX4_find 22 = .ok (.if_icmp .ne 37, 3) := by decide +kernel
theorem dX4_find_25 : decode cX4_find 25 = .ok (.aload_n 0, 1) := by decide +kernel
theorem dX4_find_26 : decode cX4_find 26 = .ok (.iload 5, 2) := by decide +kernel
theorem dX4_find_28 : decode cX4_find 28 = .ok (.invokevirtual 114, 3) := by decide +kernel
theorem dX4_find_31 : decode cX4_find 31 = .ok (.iload_n 2, 1) := by decide +kernel
theorem dX4_find_32 : decode cX4_find 32 = .ok (.if_icmp .ne 27, 3) := by decide +kernel
theorem dX4_find_35 : decode cX4_find 35 = .ok (.aload_n 0, 1) := by decide +kernel
theorem dX4_find_36 : decode cX4_find 36 = .ok (.iload 5, 2) := by decide +kernel
theorem dX4_find_38 : decode cX4_find 38 = .ok (.invokevirtual 122, 3) := by decide +kernel
theorem dX4_find_41 : decode cX4_find 41 = .ok (.iload_n 3, 1) := by decide +kernel
theorem dX4_find_42 : decode cX4_find 42 = .ok (.if_icmp .ne 17, 3) := by decide +kernel
theorem dX4_find_45 : decode cX4_find 45 = .ok (.aload_n 0, 1) := by decide +kernel
theorem dX4_find_46 : decode cX4_find 46 = .ok (.iload 5, 2) := by decide +kernel
theorem dX4_find_48 : decode cX4_find 48 = .ok (.invokevirtual 110, 3) := by decide +kernel
theorem dX4_find_51 : decode cX4_find 51 = .ok (.iload 4, 2) := by decide +kernel
theorem dX4_find_53 : decode cX4_find 53 = .ok (.if_icmp .ne 6, 3) := by decide +kernel
theorem dX4_find_56 : decode cX4_find 56 = .ok (.iload 5, 2) := by decide +kernel
theorem dX4_find_58 : decode cX4_find 58 = .ok (.ireturn, 1) := by decide +kernel
theorem dX4_find_59 : decode cX4_find 59 = .ok (.iinc 5 1, 3) := by decide +kernel
theorem dX4_find_62 : decode cX4_find 62 = .ok (.goto (-59), 3) := by decide +kernel
theorem dX4_find_65 : decode cX4_find 65 = .ok (.ldc 149, 2) := by decide +kernel
theorem dX4_find_67 : decode cX4_find 67 = .ok (.ireturn, 1) := by decide +kernel
theorem dX4_taken_0 : decode cX4_taken 0 = .ok (.iconst 0, 1) := by decide +kernel
theorem dX4_taken_1 : decode cX4_taken 1 = .ok (.istore_n 1, 1) := by decide +kernel
theorem dX4_taken_2 : decode cX4_taken 2 = .ok (.iconst 0, 1) := by decide +kernel
theorem dX4_taken_3 : decode cX4_taken 3 = .ok (.istore_n 2, 1) := by decide +kernel
theorem dX4_taken_4 : decode cX4_taken 4 = .ok (.iload_n 2, 1) := by decide +kernel
theorem dX4_taken_5 : decode cX4_taken 5 = .ok (.aload_n 0, 1) := by decide +kernel
theorem dX4_taken_6 : decode cX4_taken 6 = .ok (.getfield 44, 3) := by decide +kernel
theorem dX4_taken_9 : decode cX4_taken 9 = .ok (.getfield 73, 3) := by decide +kernel
theorem dX4_taken_12 : decode cX4_taken 12 = .ok (.if_icmp .ge 28, 3) := by decide +kernel
theorem dX4_taken_15 : decode cX4_taken 15 = .ok (.iload_n 1, 1) := by decide +kernel
theorem dX4_taken_16 : decode cX4_taken 16 = .ok (.aload_n 0, 1) := by decide +kernel
theorem dX4_taken_17 : decode cX4_taken 17 = .ok (.iload_n 2, 1) := by decide +kernel
theorem dX4_taken_18 : decode cX4_taken 18 = .ok (.invokevirtual 110, 3) := by decide +kernel
theorem dX4_taken_21 : decode cX4_taken 21 = .ok (.ifCond .ne 7, 3) := by decide +kernel
theorem dX4_taken_24 : decode cX4_taken 24 = .ok (.iconst 1, 1) := by decide +kernel
theorem dX4_taken_25 : decode cX4_taken 25 = .ok (.goto 4, 3) := by decide +kernel
theorem dX4_taken_28 : decode cX4_taken 28 = .ok (.iconst 0, 1) := by decide +kernel
theorem dX4_taken_29 : decode cX4_taken 29 = .ok (.invokestatic 61, 3) := by decide +kernel
theorem dX4_taken_32 : decode cX4_taken 32 = .ok (.iadd, 1) := by decide +kernel
theorem dX4_taken_33 : decode cX4_taken 33 = .ok (.istore_n 1, 1) := by decide +kernel
theorem dX4_taken_34 : decode cX4_taken 34 = .ok (.iinc 2 1, 3) := by decide +kernel
theorem dX4_taken_37 : decode cX4_taken 37 = .ok (.goto (-33), 3) := by decide +kernel
theorem dX4_taken_40 : decode cX4_taken 40 = .ok (.iload_n 1, 1) := by decide +kernel
theorem dX4_taken_41 : decode cX4_taken 41 = .ok (.ireturn, 1) := by decide +kernel
theorem dX4_highest_0 : decode cX4_highest 0 = .ok (.iconst 0, 1) := by decide +kernel
theorem dX4_highest_1 : decode cX4_highest 1 = .ok (.istore_n 1, 1) := by decide +kernel
theorem dX4_highest_2 : decode cX4_highest 2 = .ok (.iconst 0, 1) := by decide +kernel
theorem dX4_highest_3 : decode cX4_highest 3 = .ok (.istore_n 2, 1) := by decide +kernel
theorem dX4_highest_4 : decode cX4_highest 4 = .ok (.iload_n 2, 1) := by decide +kernel
theorem dX4_highest_5 : decode cX4_highest 5 = .ok (.aload_n 0, 1) := by decide +kernel
theorem dX4_highest_6 : decode cX4_highest 6 = .ok (.getfield 44, 3) := by decide +kernel
theorem dX4_highest_9 : decode cX4_highest 9 = .ok (.getfield 73, 3) := by decide +kernel
theorem dX4_highest_12 : decode cX4_highest 12 = .ok (.if_icmp .ge 19, 3) := by decide +kernel
theorem dX4_highest_15 : decode cX4_highest 15 = .ok (.iload_n 1, 1) := by decide +kernel
theorem dX4_highest_16 : decode cX4_highest 16 = .ok (.aload_n 0, 1) := by decide +kernel
theorem dX4_highest_17 : decode cX4_highest 17 = .ok (.iload_n 2, 1) := by decide +kernel
theorem dX4_highest_18 : decode cX4_highest 18 = .ok (.invokevirtual 107, 3) := by decide +kernel
theorem dX4_highest_21 : decode cX4_highest 21 = .ok (.invokestatic 150, 3) := by decide +kernel
theorem dX4_highest_24 : decode cX4_highest 24 = .ok (.istore_n 1, 1) := by decide +kernel
theorem dX4_highest_25 : decode cX4_highest 25 = .ok (.iinc 2 1, 3) := by decide +kernel
theorem dX4_highest_28 : decode cX4_highest 28 = .ok (.goto (-24), 3) := by decide +kernel
theorem dX4_highest_31 : decode cX4_highest 31 = .ok (.iload_n 1, 1) := by decide +kernel
theorem dX4_highest_32 : decode cX4_highest 32 = .ok (.ireturn, 1) := by decide +kernel
theorem dX4_heightOn_0 : decode cX4_heightOn 0 = .ok (.iconst 0, 1) := by decide +kernel
theorem dX4_heightOn_1 : decode cX4_heightOn 1 = .ok (.istore_n 3, 1) := by decide +kernel
theorem dX4_heightOn_2 : decode cX4_heightOn 2 = .ok (.iconst 0, 1) := by decide +kernel
theorem dX4_heightOn_3 : decode cX4_heightOn 3 = .ok (.istore 4, 2) := by decide +kernel
theorem dX4_heightOn_5 : decode cX4_heightOn 5 = .ok (.iload 4, 2) := by decide +kernel
theorem dX4_heightOn_7 : decode cX4_heightOn 7 = .ok (.aload_n 0, 1) := by decide +kernel
theorem dX4_heightOn_8 : decode cX4_heightOn 8 = .ok (.getfield 44, 3) := by decide +kernel
theorem dX4_heightOn_11 : decode cX4_heightOn 11 = .ok (.getfield 73, 3) := by decide +kernel
theorem dX4_heightOn_14 : decode cX4_heightOn 14 = .ok (.if_icmp .ge 46, 3) := by decide +kernel
theorem dX4_heightOn_17 : decode cX4_heightOn 17 = .ok (.iload_n 1, 1) := by decide +kernel
theorem dX4_heightOn_18 : decode cX4_heightOn 18 = .ok (.iload_n 2, 1) := by decide +kernel
theorem dX4_heightOn_19 : decode cX4_heightOn 19 = .ok (.aload_n 0, 1) := by decide +kernel
theorem dX4_heightOn_20 : decode cX4_heightOn 20 = .ok (.iload 4, 2) := by decide +kernel
theorem dX4_heightOn_22 : decode cX4_heightOn 22 = .ok (.invokevirtual 113, 3) := by decide +kernel
theorem dX4_heightOn_25 : decode cX4_heightOn 25 = .ok (.aload_n 0, 1) := by decide +kernel
theorem dX4_heightOn_26 : decode cX4_heightOn 26 = .ok (.iload 4, 2) := by decide +kernel
theorem dX4_heightOn_28 : decode cX4_heightOn 28 = .ok (.invokevirtual 114, 3) := by decide +kernel
theorem dX4_heightOn_31 : decode cX4_heightOn 31 = .ok (.aload_n 0, 1) := by decide +kernel
theorem dX4_heightOn_32 : decode cX4_heightOn 32 = .ok (.iload 4, 2) := by decide +kernel
theorem dX4_heightOn_34 : decode cX4_heightOn 34 = .ok (.invokevirtual 122, 3) := by decide +kernel
theorem dX4_heightOn_37 : decode cX4_heightOn 37 = .ok (.invokestatic 155, 3) := by decide +kernel
theorem dX4_heightOn_40 : decode cX4_heightOn 40 = .ok (.ifCond .eq 14, 3) := by decide +kernel
theorem dX4_heightOn_43 : decode cX4_heightOn 43 = .ok (.iload_n 3, 1) := by decide +kernel
theorem dX4_heightOn_44 : decode cX4_heightOn 44 = .ok (.aload_n 0, 1) := by decide +kernel
theorem dX4_heightOn_45 : decode cX4_heightOn 45 = .ok (.iload 4, 2) := by decide +kernel
theorem dX4_heightOn_47 : decode cX4_heightOn 47 = .ok (.invokevirtual 107, 3) := by decide +kernel
theorem dX4_heightOn_50 : decode cX4_heightOn 50 = .ok (.invokestatic 150, 3) := by decide +kernel
theorem dX4_heightOn_53 : decode cX4_heightOn 53 = .ok (.istore_n 3, 1) := by decide +kernel
theorem dX4_heightOn_54 : decode cX4_heightOn 54 = .ok (.iinc 4 1, 3) := by decide +kernel
theorem dX4_heightOn_57 : decode cX4_heightOn 57 = .ok (.goto (-52), 3) := by decide +kernel
theorem dX4_heightOn_60 : decode cX4_heightOn 60 = .ok (.iload_n 3, 1) := by decide +kernel
theorem dX4_heightOn_61 : decode cX4_heightOn 61 = .ok (.ireturn, 1) := by decide +kernel
theorem dX4_turnedDown_0 : decode cX4_turnedDown 0 = .ok (.iconst 0, 1) := by decide +kernel
theorem dX4_turnedDown_1 : decode cX4_turnedDown 1 = .ok (.istore_n 1, 1) := by decide +kernel
theorem dX4_turnedDown_2 : decode cX4_turnedDown 2 = .ok (.iconst 0, 1) := by decide +kernel
theorem dX4_turnedDown_3 : decode cX4_turnedDown 3 = .ok (.istore_n 2, 1) := by decide +kernel
theorem dX4_turnedDown_4 : decode cX4_turnedDown 4 = .ok (.iload_n 2, 1) := by decide +kernel
theorem dX4_turnedDown_5 : decode cX4_turnedDown 5 = .ok (.aload_n 0, 1) := by decide +kernel
theorem dX4_turnedDown_6 : decode cX4_turnedDown 6 = .ok (.getfield 44, 3) := by decide +kernel
theorem dX4_turnedDown_9 : decode cX4_turnedDown 9 = .ok (.getfield 73, 3) := by decide +kernel
theorem dX4_turnedDown_12 : decode cX4_turnedDown 12 = .ok (.if_icmp .ge 28, 3) := by decide +kernel
theorem dX4_turnedDown_15 : decode cX4_turnedDown 15 = .ok (.iload_n 1, 1) := by decide +kernel
theorem dX4_turnedDown_16 : decode cX4_turnedDown 16 = .ok (.aload_n 0, 1) := by decide +kernel
theorem dX4_turnedDown_17 : decode cX4_turnedDown 17 = .ok (.iload_n 2, 1) := by decide +kernel
theorem dX4_turnedDown_18 : decode cX4_turnedDown 18 = .ok (.invokevirtual 127, 3) := by decide +kernel
theorem dX4_turnedDown_21 : decode cX4_turnedDown 21 = .ok (.ifCond .ne 7, 3) := by decide +kernel
theorem dX4_turnedDown_24 : decode cX4_turnedDown 24 = .ok (.iconst 1, 1) := by decide +kernel
theorem dX4_turnedDown_25 : decode cX4_turnedDown 25 = .ok (.goto 4, 3) := by decide +kernel
theorem dX4_turnedDown_28 : decode cX4_turnedDown 28 = .ok (.iconst 0, 1) := by decide +kernel
theorem dX4_turnedDown_29 : decode cX4_turnedDown 29 = .ok (.invokestatic 61, 3) := by decide +kernel
theorem dX4_turnedDown_32 : decode cX4_turnedDown 32 = .ok (.iadd, 1) := by decide +kernel
theorem dX4_turnedDown_33 : decode cX4_turnedDown 33 = .ok (.istore_n 1, 1) := by decide +kernel
theorem dX4_turnedDown_34 : decode cX4_turnedDown 34 = .ok (.iinc 2 1, 3) := by decide +kernel
theorem dX4_turnedDown_37 : decode cX4_turnedDown 37 = .ok (.goto (-33), 3) := by decide +kernel
theorem dX4_turnedDown_40 : decode cX4_turnedDown 40 = .ok (.iload_n 1, 1) := by decide +kernel
theorem dX4_turnedDown_41 : decode cX4_turnedDown 41 = .ok (.ireturn, 1) := by decide +kernel
theorem dX4_leastX_0 : decode cX4_leastX 0 = .ok (.aload_n 0, 1) := by decide +kernel
theorem dX4_leastX_1 : decode cX4_leastX 1 = .ok (.aload_n 0, 1) := by decide +kernel
theorem dX4_leastX_2 : decode cX4_leastX 2 = .ok (.getfield 9, 3) := by decide +kernel
theorem dX4_leastX_5 : decode cX4_leastX 5 = .ok (.invokevirtual 159, 3) := by decide +kernel
theorem dX4_leastX_8 : decode cX4_leastX 8 = .ok (.ireturn, 1) := by decide +kernel
theorem dX4_greatestX_0 : decode cX4_greatestX 0 = .ok (.aload_n 0, 1) := by decide +kernel
theorem dX4_greatestX_1 : decode cX4_greatestX 1 = .ok (.aload_n 0, 1) := by decide +kernel
theorem dX4_greatestX_2 : decode cX4_greatestX 2 = .ok (.getfield 9, 3) := by decide +kernel
theorem dX4_greatestX_5 : decode cX4_greatestX 5 = .ok (.invokevirtual 163, 3) := by decide +kernel
theorem dX4_greatestX_8 : decode cX4_greatestX 8 = .ok (.ireturn, 1) := by decide +kernel
theorem dX4_leastY_0 : decode cX4_leastY 0 = .ok (.aload_n 0, 1) := by decide +kernel
theorem dX4_leastY_1 : decode cX4_leastY 1 = .ok (.aload_n 0, 1) := by decide +kernel
theorem dX4_leastY_2 : decode cX4_leastY 2 = .ok (.getfield 15, 3) := by decide +kernel
theorem dX4_leastY_5 : decode cX4_leastY 5 = .ok (.invokevirtual 159, 3) := by decide +kernel
theorem dX4_leastY_8 : decode cX4_leastY 8 = .ok (.ireturn, 1) := by decide +kernel
theorem dX4_greatestY_0 : decode cX4_greatestY 0 = .ok (.aload_n 0, 1) := by decide +kernel
theorem dX4_greatestY_1 : decode cX4_greatestY 1 = .ok (.aload_n 0, 1) := by decide +kernel
theorem dX4_greatestY_2 : decode cX4_greatestY 2 = .ok (.getfield 15, 3) := by decide +kernel
theorem dX4_greatestY_5 : decode cX4_greatestY 5 = .ok (.invokevirtual 163, 3) := by decide +kernel
theorem dX4_greatestY_8 : decode cX4_greatestY 8 = .ok (.ireturn, 1) := by decide +kernel
theorem dX4_least_0 : decode cX4_least 0 = .ok (.aload_n 1, 1) := by decide +kernel
theorem dX4_least_1 : decode cX4_least 1 = .ok (.iconst 0, 1) := by decide +kernel
theorem dX4_least_2 : decode cX4_least 2 = .ok (.invokestatic 69, 3) := by decide +kernel
theorem dX4_least_5 : decode cX4_least 5 = .ok (.istore_n 2, 1) := by decide +kernel
theorem dX4_least_6 : decode cX4_least 6 = .ok (.iconst 1, 1) := by decide +kernel
theorem dX4_least_7 : decode cX4_least 7 = .ok (.istore_n 3, 1) := by decide +kernel
theorem dX4_least_8 : decode cX4_least 8 = .ok (.iload_n 3, 1) := by decide +kernel
theorem dX4_least_9 : decode cX4_least 9 = .ok (.aload_n 0, 1) := by decide +kernel
theorem dX4_least_10 : decode cX4_least 10 = .ok (.getfield 44, 3) := by decide +kernel
theorem dX4_least_13 : decode cX4_least 13 = .ok (.getfield 73, 3) := by decide +kernel
theorem dX4_least_16 : decode cX4_least 16 = .ok (.if_icmp .ge 19, 3) := by decide +kernel
theorem dX4_least_19 : decode cX4_least 19 = .ok (.iload_n 2, 1) := by decide +kernel
theorem dX4_least_20 : decode cX4_least 20 = .ok (.aload_n 1, 1) := by decide +kernel
theorem dX4_least_21 : decode cX4_least 21 = .ok (.iload_n 3, 1) := by decide +kernel
theorem dX4_least_22 : decode cX4_least 22 = .ok (.invokestatic 69, 3) := by decide +kernel
theorem dX4_least_25 : decode cX4_least 25 = .ok (.invokestatic 166, 3) := by decide +kernel
theorem dX4_least_28 : decode cX4_least 28 = .ok (.istore_n 2, 1) := by decide +kernel
theorem dX4_least_29 : decode cX4_least 29 = .ok (.iinc 3 1, 3) := by decide +kernel
theorem dX4_least_32 : decode cX4_least 32 = .ok (.goto (-24), 3) := by decide +kernel
theorem dX4_least_35 : decode cX4_least 35 = .ok (.iload_n 2, 1) := by decide +kernel
theorem dX4_least_36 : decode cX4_least 36 = .ok (.ireturn, 1) := by decide +kernel
theorem dX4_greatest_0 : decode cX4_greatest 0 = .ok (.aload_n 1, 1) := by decide +kernel
theorem dX4_greatest_1 : decode cX4_greatest 1 = .ok (.iconst 0, 1) := by decide +kernel
theorem dX4_greatest_2 : decode cX4_greatest 2 = .ok (.invokestatic 69, 3) := by decide +kernel
theorem dX4_greatest_5 : decode cX4_greatest 5 = .ok (.istore_n 2, 1) := by decide +kernel
theorem dX4_greatest_6 : decode cX4_greatest 6 = .ok (.iconst 1, 1) := by decide +kernel
theorem dX4_greatest_7 : decode cX4_greatest 7 = .ok (.istore_n 3, 1) := by decide +kernel
theorem dX4_greatest_8 : decode cX4_greatest 8 = .ok (.iload_n 3, 1) := by decide +kernel
theorem dX4_greatest_9 : decode cX4_greatest 9 = .ok (.aload_n 0, 1) := by decide +kernel
theorem dX4_greatest_10 : decode cX4_greatest 10 = .ok (.getfield 44, 3) := by decide +kernel
theorem dX4_greatest_13 : decode cX4_greatest 13 = .ok (.getfield 73, 3) := by decide +kernel
theorem dX4_greatest_16 : decode cX4_greatest 16 = .ok (.if_icmp .ge 19, 3) := by decide +kernel
theorem dX4_greatest_19 : decode cX4_greatest 19 = .ok (.iload_n 2, 1) := by decide +kernel
theorem dX4_greatest_20 : decode cX4_greatest 20 = .ok (.aload_n 1, 1) := by decide +kernel
theorem dX4_greatest_21 : decode cX4_greatest 21 = .ok (.iload_n 3, 1) := by decide +kernel
theorem dX4_greatest_22 : decode cX4_greatest 22 = .ok (.invokestatic 69, 3) := by decide +kernel
theorem dX4_greatest_25 : decode cX4_greatest 25 = .ok (.invokestatic 150, 3) := by decide +kernel
theorem dX4_greatest_28 : decode cX4_greatest 28 = .ok (.istore_n 2, 1) := by decide +kernel
theorem dX4_greatest_29 : decode cX4_greatest 29 = .ok (.iinc 3 1, 3) := by decide +kernel
theorem dX4_greatest_32 : decode cX4_greatest 32 = .ok (.goto (-24), 3) := by decide +kernel
theorem dX4_greatest_35 : decode cX4_greatest 35 = .ok (.iload_n 2, 1) := by decide +kernel
theorem dX4_greatest_36 : decode cX4_greatest 36 = .ok (.ireturn, 1) := by decide +kernel
theorem dX5_get_0 : decode cX5_get 0 = .ok (.aload_n 0, 1) := by decide +kernel
theorem dX5_get_1 : decode cX5_get 1 = .ok (.ifnull 19, 3) := by decide +kernel
theorem dX5_get_4 : decode cX5_get 4 = .ok (.iload_n 1, 1) := by decide +kernel
theorem dX5_get_5 : decode cX5_get 5 = .ok (.ifCond .lt 15, 3) := by decide +kernel
theorem dX5_get_8 : decode cX5_get 8 = .ok (.iload_n 1, 1) := by decide +kernel
theorem dX5_get_9 : decode cX5_get 9 = .ok (.aload_n 0, 1) := by decide +kernel
theorem dX5_get_10 : decode cX5_get 10 = .ok (.arraylength, 1) := by decide +kernel
theorem dX5_get_11 : decode cX5_get 11 = .ok (.if_icmp .ge 9, 3) := by decide +kernel
theorem dX5_get_14 : decode cX5_get 14 = .ok (.aload_n 0, 1) := by decide +kernel
theorem dX5_get_15 : decode cX5_get 15 = .ok (.iload_n 1, 1) := by decide +kernel
theorem dX5_get_16 : decode cX5_get 16 = .ok (.iaload, 1) := by decide +kernel
theorem dX5_get_17 : decode cX5_get 17 = .ok (.goto 4, 3) := by decide +kernel
theorem dX5_get_20 : decode cX5_get 20 = .ok (.iconst 0, 1) := by decide +kernel
