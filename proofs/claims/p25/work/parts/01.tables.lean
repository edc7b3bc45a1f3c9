-- ===== PART A: goes FIRST, ahead of the names: the tables' words, and 'selects' of the private methods out of them =====
/-- a private method of a class that the tables say can be made, by its rows of tables_1 -/
def lw_okq (q : MethodName × Nat) : Prop := (q.1.cls ≠ "java/lang/invoke/MethodHandle" ∧ q.1.cls ≠ "java/lang/invoke/VarHandle") ∧ Cond.instantiable q.1.cls q.2 ∈ tables_1 ∧ Cond.privateMethod q.1 ∈ tables_1 ∧ Cond.instanceMethod q.1 ∈ tables_1
theorem lw_p0 : lw_okq (⟨"HintPlacer$History", "beginOf", "(I)I"⟩, 3) := ⟨⟨by decide +kernel, by decide +kernel⟩, List.mem_of_getElem? (i := 47) (by decide +kernel), List.mem_of_getElem? (i := 216) (by decide +kernel), List.mem_of_getElem? (i := 217) (by decide +kernel)⟩
theorem lw_p1 : lw_okq (⟨"HintPlacer$Showing", "orderOpenHints", "(LHintPlacer$State;)I"⟩, 8) := ⟨⟨by decide +kernel, by decide +kernel⟩, List.mem_of_getElem? (i := 66) (by decide +kernel), List.mem_of_getElem? (i := 236) (by decide +kernel), List.mem_of_getElem? (i := 237) (by decide +kernel)⟩
theorem lw_p2 : lw_okq (⟨"HintPlacer$State", "goesBefore", "(II)Z"⟩, 1) := ⟨⟨by decide +kernel, by decide +kernel⟩, List.mem_of_getElem? (i := 19) (by decide +kernel), List.mem_of_getElem? (i := 259) (by decide +kernel), List.mem_of_getElem? (i := 260) (by decide +kernel)⟩
theorem lw_p3 : lw_okq (⟨"HintPlacer$Showing", "tryToShow", "(LHintPlacer$State;I)I"⟩, 8) := ⟨⟨by decide +kernel, by decide +kernel⟩, List.mem_of_getElem? (i := 66) (by decide +kernel), List.mem_of_getElem? (i := 264) (by decide +kernel), List.mem_of_getElem? (i := 265) (by decide +kernel)⟩
theorem lw_p4 : lw_okq (⟨"HintPlacer$Tries", "add", "(I)V"⟩, 2) := ⟨⟨by decide +kernel, by decide +kernel⟩, List.mem_of_getElem? (i := 74) (by decide +kernel), List.mem_of_getElem? (i := 294) (by decide +kernel), List.mem_of_getElem? (i := 295) (by decide +kernel)⟩
theorem lw_p5 : lw_okq (⟨"HintPlacer$Showing", "isFree", "(LHintPlacer$State;I)Z"⟩, 8) := ⟨⟨by decide +kernel, by decide +kernel⟩, List.mem_of_getElem? (i := 66) (by decide +kernel), List.mem_of_getElem? (i := 343) (by decide +kernel), List.mem_of_getElem? (i := 344) (by decide +kernel)⟩
theorem lw_p6 : lw_okq (⟨"HintPlacer", "canMoveView", "(II)Z"⟩, 6) := ⟨⟨by decide +kernel, by decide +kernel⟩, List.mem_of_getElem? (i := 11) (by decide +kernel), List.mem_of_getElem? (i := 360) (by decide +kernel), List.mem_of_getElem? (i := 361) (by decide +kernel)⟩
theorem lw_p7 : lw_okq (⟨"HintPlacer", "moveView", "(II)V"⟩, 6) := ⟨⟨by decide +kernel, by decide +kernel⟩, List.mem_of_getElem? (i := 11) (by decide +kernel), List.mem_of_getElem? (i := 365) (by decide +kernel), List.mem_of_getElem? (i := 366) (by decide +kernel)⟩
theorem lw_p8 : lw_okq (⟨"HintPlacer", "isAnchor", "(I)Z"⟩, 6) := ⟨⟨by decide +kernel, by decide +kernel⟩, List.mem_of_getElem? (i := 11) (by decide +kernel), List.mem_of_getElem? (i := 384) (by decide +kernel), List.mem_of_getElem? (i := 385) (by decide +kernel)⟩
theorem lw_p9 : lw_okq (⟨"HintPlacer", "countHintsOf", "(IZ)I"⟩, 6) := ⟨⟨by decide +kernel, by decide +kernel⟩, List.mem_of_getElem? (i := 11) (by decide +kernel), List.mem_of_getElem? (i := 393) (by decide +kernel), List.mem_of_getElem? (i := 394) (by decide +kernel)⟩
theorem lw_p10 : lw_okq (⟨"HintPlacer", "countOpen", "()I"⟩, 6) := ⟨⟨by decide +kernel, by decide +kernel⟩, List.mem_of_getElem? (i := 11) (by decide +kernel), List.mem_of_getElem? (i := 403) (by decide +kernel), List.mem_of_getElem? (i := 404) (by decide +kernel)⟩
theorem lw_p11 : lw_okq (⟨"HintPlacer", "countRemembered", "()I"⟩, 6) := ⟨⟨by decide +kernel, by decide +kernel⟩, List.mem_of_getElem? (i := 11) (by decide +kernel), List.mem_of_getElem? (i := 408) (by decide +kernel), List.mem_of_getElem? (i := 409) (by decide +kernel)⟩
theorem lw_p12 : lw_okq (⟨"HintPlacer", "countCovered", "()I"⟩, 6) := ⟨⟨by decide +kernel, by decide +kernel⟩, List.mem_of_getElem? (i := 11) (by decide +kernel), List.mem_of_getElem? (i := 412) (by decide +kernel), List.mem_of_getElem? (i := 413) (by decide +kernel)⟩
theorem lw_p13 : lw_okq (⟨"HintPlacer", "highestValue", "(I)I"⟩, 6) := ⟨⟨by decide +kernel, by decide +kernel⟩, List.mem_of_getElem? (i := 11) (by decide +kernel), List.mem_of_getElem? (i := 423) (by decide +kernel), List.mem_of_getElem? (i := 424) (by decide +kernel)⟩
theorem lw_p14 : lw_okq (⟨"HintPlacer", "isHint", "(I)Z"⟩, 6) := ⟨⟨by decide +kernel, by decide +kernel⟩, List.mem_of_getElem? (i := 11) (by decide +kernel), List.mem_of_getElem? (i := 435) (by decide +kernel), List.mem_of_getElem? (i := 436) (by decide +kernel)⟩
theorem lw_p15 : lw_okq (⟨"HintPlacer", "openHint", "(I)V"⟩, 6) := ⟨⟨by decide +kernel, by decide +kernel⟩, List.mem_of_getElem? (i := 11) (by decide +kernel), List.mem_of_getElem? (i := 446) (by decide +kernel), List.mem_of_getElem? (i := 447) (by decide +kernel)⟩
def lw_privs_1 : List (MethodName × Nat) := [(⟨"HintPlacer$History", "beginOf", "(I)I"⟩, 3), (⟨"HintPlacer$Showing", "orderOpenHints", "(LHintPlacer$State;)I"⟩, 8), (⟨"HintPlacer$State", "goesBefore", "(II)Z"⟩, 1), (⟨"HintPlacer$Showing", "tryToShow", "(LHintPlacer$State;I)I"⟩, 8), (⟨"HintPlacer$Tries", "add", "(I)V"⟩, 2), (⟨"HintPlacer$Showing", "isFree", "(LHintPlacer$State;I)Z"⟩, 8), (⟨"HintPlacer", "canMoveView", "(II)Z"⟩, 6), (⟨"HintPlacer", "moveView", "(II)V"⟩, 6), (⟨"HintPlacer", "isAnchor", "(I)Z"⟩, 6), (⟨"HintPlacer", "countHintsOf", "(IZ)I"⟩, 6), (⟨"HintPlacer", "countOpen", "()I"⟩, 6), (⟨"HintPlacer", "countRemembered", "()I"⟩, 6), (⟨"HintPlacer", "countCovered", "()I"⟩, 6), (⟨"HintPlacer", "highestValue", "(I)I"⟩, 6), (⟨"HintPlacer", "isHint", "(I)Z"⟩, 6), (⟨"HintPlacer", "openHint", "(I)V"⟩, 6)]
theorem lw_r1 : ∀ q ∈ lw_privs_1, lw_okq q := List.forall_mem_cons.mpr ⟨lw_p0, List.forall_mem_cons.mpr ⟨lw_p1, List.forall_mem_cons.mpr ⟨lw_p2, List.forall_mem_cons.mpr ⟨lw_p3, List.forall_mem_cons.mpr ⟨lw_p4, List.forall_mem_cons.mpr ⟨lw_p5, List.forall_mem_cons.mpr ⟨lw_p6, List.forall_mem_cons.mpr ⟨lw_p7, List.forall_mem_cons.mpr ⟨lw_p8, List.forall_mem_cons.mpr ⟨lw_p9, List.forall_mem_cons.mpr ⟨lw_p10, List.forall_mem_cons.mpr ⟨lw_p11, List.forall_mem_cons.mpr ⟨lw_p12, List.forall_mem_cons.mpr ⟨lw_p13, List.forall_mem_cons.mpr ⟨lw_p14, List.forall_mem_cons.mpr ⟨lw_p15, fun _ h => absurd h List.not_mem_nil⟩⟩⟩⟩⟩⟩⟩⟩⟩⟩⟩⟩⟩⟩⟩⟩
theorem lw_p16 : lw_okq (⟨"HintPlacer", "closeHint", "(I)V"⟩, 6) := ⟨⟨by decide +kernel, by decide +kernel⟩, List.mem_of_getElem? (i := 11) (by decide +kernel), List.mem_of_getElem? (i := 454) (by decide +kernel), List.mem_of_getElem? (i := 455) (by decide +kernel)⟩
theorem lw_p17 : lw_okq (⟨"HintPlacer", "rememberSides", "()I"⟩, 6) := ⟨⟨by decide +kernel, by decide +kernel⟩, List.mem_of_getElem? (i := 11) (by decide +kernel), List.mem_of_getElem? (i := 462) (by decide +kernel), List.mem_of_getElem? (i := 463) (by decide +kernel)⟩
theorem lw_p18 : lw_okq (⟨"HintPlacer", "shownValue", "(II)I"⟩, 6) := ⟨⟨by decide +kernel, by decide +kernel⟩, List.mem_of_getElem? (i := 11) (by decide +kernel), List.mem_of_getElem? (i := 471) (by decide +kernel), List.mem_of_getElem? (i := 472) (by decide +kernel)⟩
theorem lw_p19 : lw_okq (⟨"HintPlacer", "isInSightOnATry", "(III)Z"⟩, 6) := ⟨⟨by decide +kernel, by decide +kernel⟩, List.mem_of_getElem? (i := 11) (by decide +kernel), List.mem_of_getElem? (i := 481) (by decide +kernel), List.mem_of_getElem? (i := 482) (by decide +kernel)⟩
def lw_privs_2 : List (MethodName × Nat) := [(⟨"HintPlacer", "closeHint", "(I)V"⟩, 6), (⟨"HintPlacer", "rememberSides", "()I"⟩, 6), (⟨"HintPlacer", "shownValue", "(II)I"⟩, 6), (⟨"HintPlacer", "isInSightOnATry", "(III)Z"⟩, 6)]
theorem lw_r2 : ∀ q ∈ lw_privs_2, lw_okq q := List.forall_mem_cons.mpr ⟨lw_p16, List.forall_mem_cons.mpr ⟨lw_p17, List.forall_mem_cons.mpr ⟨lw_p18, List.forall_mem_cons.mpr ⟨lw_p19, fun _ h => absurd h List.not_mem_nil⟩⟩⟩⟩
def lw_privs : List (MethodName × Nat) := lw_privs_1 ++ (lw_privs_2)
def lw_tbl : List Cond := k2_sels lw_privs ++ tables_1
theorem lw_privs_ok : ∀ q ∈ lw_privs, lw_okq q := by
  show ∀ q ∈ lw_privs_1 ++ (lw_privs_2), lw_okq q
  exact List.forall_mem_append.mpr ⟨lw_r1, lw_r2⟩
-- ===== end of PART A; then your names; then what follows =====
def RX0 : String := "HintPlacer$History"
def TX0 : u_T := fun k => match k with
  | 0 => ("HintPlacer$History", "rows", "LHintPlacer$Row;", true)
  | 1 => ("HintPlacer$History", "oldest", "I", false)
  | _ => ("HintPlacer$History", "states", "I", false)
def tyX0 : Nat → FieldType := fun k => match k with
  | 0 => .object "HintPlacer$Row"
  | 1 => .int
  | _ => .int
abbrev wsX00 : List Cond := u_ws RX0 TX0 3
theorem nmX0 : ∀ a, a < 3 → ∀ b, b < 3 → a ≠ b → (TX0 a).2.1 ≠ (TX0 b).2.1 := by decide +kernel
theorem tyX0_ok : ∀ k, k < 3 → parseFieldDescriptor (TX0 k).2.2.1 = some (tyX0 k) := by decide +kernel
abbrev cX0_init : ByteArray := prog_2_method_1_code
def yX0_init : MethodName := ⟨RX0, "<init>", "()V"⟩
abbrev cX0_keep : ByteArray := prog_2_method_2_code
def yX0_keep : MethodName := ⟨RX0, "keep", "(LHintPlacer$State;)V"⟩
abbrev cX0_restore : ByteArray := prog_2_method_3_code
def yX0_restore : MethodName := ⟨RX0, "restore", "(LHintPlacer$State;)V"⟩
abbrev cX0_beginOf : ByteArray := prog_2_method_4_code
def yX0_beginOf : MethodName := ⟨RX0, "beginOf", "(I)I"⟩
def RX1 : String := "HintPlacer$Orders"
def TX1 : u_T := fun k => match k with
  | 0 => ("HintPlacer$Orders", "signs", "LHintPlacer$Row;", true)
  | 1 => ("HintPlacer$Orders", "length", "I", false)
  | 2 => ("HintPlacer$Orders", "begin", "I", false)
  | 3 => ("HintPlacer$Orders", "end", "I", false)
  | 4 => ("HintPlacer$Orders", "kind", "I", false)
  | 5 => ("HintPlacer$Orders", "first", "I", false)
  | 6 => ("HintPlacer$Orders", "second", "I", false)
  | _ => ("HintPlacer$Orders", "number", "I", false)
def tyX1 : Nat → FieldType := fun k => match k with
  | 0 => .object "HintPlacer$Row"
  | 1 => .int
  | 2 => .int
  | 3 => .int
  | 4 => .int
  | 5 => .int
  | 6 => .int
  | _ => .int
abbrev wsX10 : List Cond := u_ws RX1 TX1 8
theorem nmX1 : ∀ a, a < 8 → ∀ b, b < 8 → a ≠ b → (TX1 a).2.1 ≠ (TX1 b).2.1 := by decide +kernel
theorem tyX1_ok : ∀ k, k < 8 → parseFieldDescriptor (TX1 k).2.2.1 = some (tyX1 k) := by decide +kernel
abbrev cX1_init : ByteArray := prog_3_method_1_code
def yX1_init : MethodName := ⟨RX1, "<init>", "()V"⟩
def RX2 : String := "HintPlacer$Place"
def TX2 : u_T := fun k => match k with
  | 0 => ("HintPlacer$Place", "x", "I", false)
  | 1 => ("HintPlacer$Place", "y", "I", false)
  | 2 => ("HintPlacer$Place", "shift", "I", false)
  | 3 => ("HintPlacer$Place", "arrow", "I", false)
  | 4 => ("HintPlacer$Place", "arrowGood", "Z", false)
  | _ => ("HintPlacer$Place", "inSight", "Z", false)
def tyX2 : Nat → FieldType := fun k => match k with
  | 0 => .int
  | 1 => .int
  | 2 => .int
  | 3 => .int
  | 4 => .boolean
  | _ => .boolean
abbrev wsX20 : List Cond := u_ws RX2 TX2 6
theorem nmX2 : ∀ a, a < 6 → ∀ b, b < 6 → a ≠ b → (TX2 a).2.1 ≠ (TX2 b).2.1 := by decide +kernel
theorem tyX2_ok : ∀ k, k < 6 → parseFieldDescriptor (TX2 k).2.2.1 = some (tyX2 k) := by decide +kernel
abbrev cX2_init : ByteArray := prog_4_method_1_code
def yX2_init : MethodName := ⟨RX2, "<init>", "()V"⟩
abbrev cX2_find : ByteArray := prog_4_method_2_code
def yX2_find : MethodName := ⟨RX2, "find", "(LHintPlacer$State;IIII)V"⟩
abbrev cX2_beginAlong : ByteArray := prog_4_method_3_code
def yX2_beginAlong : MethodName := ⟨RX2, "beginAlong", "(LHintPlacer$State;IZ)I"⟩
abbrev cX2_middleAlong : ByteArray := prog_4_method_4_code
def yX2_middleAlong : MethodName := ⟨RX2, "middleAlong", "(LHintPlacer$State;IZ)I"⟩
abbrev cX2_shiftInto : ByteArray := prog_4_method_5_code
def yX2_shiftInto : MethodName := ⟨RX2, "shiftInto", "(IIIIII)I"⟩
abbrev cX2_isGood : ByteArray := prog_4_method_6_code
def yX2_isGood : MethodName := ⟨RX2, "isGood", "(III)Z"⟩
def RX3 : String := "HintPlacer$Row"
def TX3 : u_T := fun k => match k with
  | _ => ("HintPlacer$Row", "cells", "[I", true)
def tyX3 : Nat → FieldType := fun k => match k with
  | _ => .array .int
abbrev wsX30 : List Cond := u_ws RX3 TX3 1
theorem nmX3 : ∀ a, a < 1 → ∀ b, b < 1 → a ≠ b → (TX3 a).2.1 ≠ (TX3 b).2.1 := by decide +kernel
theorem tyX3_ok : ∀ k, k < 1 → parseFieldDescriptor (TX3 k).2.2.1 = some (tyX3 k) := by decide +kernel
abbrev cX3_init : ByteArray := prog_5_method_1_code
def yX3_init : MethodName := ⟨RX3, "<init>", "(I)V"⟩
abbrev cX3_get : ByteArray := prog_5_method_2_code
def yX3_get : MethodName := ⟨RX3, "get", "(I)I"⟩
abbrev cX3_put : ByteArray := prog_5_method_3_code
def yX3_put : MethodName := ⟨RX3, "put", "(II)V"⟩
def RX4 : String := "HintPlacer$Showing"
def TX4 : u_T := fun k => match k with
  | 0 => ("HintPlacer$Showing", "reasons", "LHintPlacer$Row;", true)
  | 1 => ("HintPlacer$Showing", "sides", "LHintPlacer$Row;", true)
  | 2 => ("HintPlacer$Showing", "xs", "LHintPlacer$Row;", true)
  | 3 => ("HintPlacer$Showing", "ys", "LHintPlacer$Row;", true)
  | 4 => ("HintPlacer$Showing", "order", "LHintPlacer$Row;", true)
  | 5 => ("HintPlacer$Showing", "tries", "LHintPlacer$Tries;", true)
  | 6 => ("HintPlacer$Showing", "place", "LHintPlacer$Place;", true)
  | _ => ("HintPlacer$Showing", "shown", "I", false)
def tyX4 : Nat → FieldType := fun k => match k with
  | 0 => .object "HintPlacer$Row"
  | 1 => .object "HintPlacer$Row"
  | 2 => .object "HintPlacer$Row"
  | 3 => .object "HintPlacer$Row"
  | 4 => .object "HintPlacer$Row"
  | 5 => .object "HintPlacer$Tries"
  | 6 => .object "HintPlacer$Place"
  | _ => .int
abbrev wsX40 : List Cond := u_ws RX4 TX4 8
theorem nmX4 : ∀ a, a < 8 → ∀ b, b < 8 → a ≠ b → (TX4 a).2.1 ≠ (TX4 b).2.1 := by decide +kernel
theorem tyX4_ok : ∀ k, k < 8 → parseFieldDescriptor (TX4 k).2.2.1 = some (tyX4 k) := by decide +kernel
abbrev cX4_init : ByteArray := prog_6_method_1_code
def yX4_init : MethodName := ⟨RX4, "<init>", "()V"⟩
abbrev cX4_arrange : ByteArray := prog_6_method_2_code
def yX4_arrange : MethodName := ⟨RX4, "arrange", "(LHintPlacer$State;)I"⟩
abbrev cX4_orderOpenHints : ByteArray := prog_6_method_3_code
def yX4_orderOpenHints : MethodName := ⟨RX4, "orderOpenHints", "(LHintPlacer$State;)I"⟩
abbrev cX4_tryToShow : ByteArray := prog_6_method_4_code
def yX4_tryToShow : MethodName := ⟨RX4, "tryToShow", "(LHintPlacer$State;I)I"⟩
abbrev cX4_isFree : ByteArray := prog_6_method_5_code
def yX4_isFree : MethodName := ⟨RX4, "isFree", "(LHintPlacer$State;I)Z"⟩
abbrev cX4_shownThatMeets : ByteArray := prog_6_method_6_code
def yX4_shownThatMeets : MethodName := ⟨RX4, "shownThatMeets", "(LHintPlacer$State;IIII)I"⟩
def RX5 : String := "HintPlacer$State"
def TX5 : u_T := fun k => match k with
  | _ => ("HintPlacer$State", "row", "LHintPlacer$Row;", true)
def tyX5 : Nat → FieldType := fun k => match k with
  | _ => .object "HintPlacer$Row"
abbrev wsX50 : List Cond := u_ws RX5 TX5 1
theorem nmX5 : ∀ a, a < 1 → ∀ b, b < 1 → a ≠ b → (TX5 a).2.1 ≠ (TX5 b).2.1 := by decide +kernel
theorem tyX5_ok : ∀ k, k < 1 → parseFieldDescriptor (TX5 k).2.2.1 = some (tyX5 k) := by decide +kernel
abbrev cX5_init : ByteArray := prog_7_method_1_code
def yX5_init : MethodName := ⟨RX5, "<init>", "()V"⟩
abbrev cX5_get : ByteArray := prog_7_method_2_code
def yX5_get : MethodName := ⟨RX5, "get", "(I)I"⟩
abbrev cX5_put : ByteArray := prog_7_method_3_code
def yX5_put : MethodName := ⟨RX5, "put", "(II)V"⟩
abbrev cX5_setting : ByteArray := prog_7_method_4_code
def yX5_setting : MethodName := ⟨RX5, "setting", "(I)I"⟩
abbrev cX5_anchorValue : ByteArray := prog_7_method_5_code
def yX5_anchorValue : MethodName := ⟨RX5, "anchorValue", "(II)I"⟩
abbrev cX5_putAnchorValue : ByteArray := prog_7_method_6_code
def yX5_putAnchorValue : MethodName := ⟨RX5, "putAnchorValue", "(III)V"⟩
abbrev cX5_hintValue : ByteArray := prog_7_method_7_code
def yX5_hintValue : MethodName := ⟨RX5, "hintValue", "(II)I"⟩
abbrev cX5_putHintValue : ByteArray := prog_7_method_8_code
def yX5_putHintValue : MethodName := ⟨RX5, "putHintValue", "(III)V"⟩
abbrev cX5_isOpen : ByteArray := prog_7_method_9_code
def yX5_isOpen : MethodName := ⟨RX5, "isOpen", "(I)Z"⟩
abbrev cX5_isAnchorInSight : ByteArray := prog_7_method_10_code
def yX5_isAnchorInSight : MethodName := ⟨RX5, "isAnchorInSight", "(I)Z"⟩
abbrev cX5_anchorMeets : ByteArray := prog_7_method_11_code
def yX5_anchorMeets : MethodName := ⟨RX5, "anchorMeets", "(IIIII)Z"⟩
abbrev cX5_turn : ByteArray := prog_7_method_12_code
def yX5_turn : MethodName := ⟨RX5, "turn", "(I)I"⟩
abbrev cX5_goesBefore : ByteArray := prog_7_method_13_code
def yX5_goesBefore : MethodName := ⟨RX5, "goesBefore", "(II)Z"⟩
abbrev cX5_copyTo : ByteArray := prog_7_method_14_code
def yX5_copyTo : MethodName := ⟨RX5, "copyTo", "(LHintPlacer$Row;I)V"⟩
abbrev cX5_copyFrom : ByteArray := prog_7_method_15_code
def yX5_copyFrom : MethodName := ⟨RX5, "copyFrom", "(LHintPlacer$Row;I)V"⟩
def RX6 : String := "HintPlacer$Tries"
def TX6 : u_T := fun k => match k with
  | 0 => ("HintPlacer$Tries", "sides", "LHintPlacer$Row;", true)
  | _ => ("HintPlacer$Tries", "many", "I", false)
def tyX6 : Nat → FieldType := fun k => match k with
  | 0 => .object "HintPlacer$Row"
  | _ => .int
abbrev wsX60 : List Cond := u_ws RX6 TX6 2
theorem nmX6 : ∀ a, a < 2 → ∀ b, b < 2 → a ≠ b → (TX6 a).2.1 ≠ (TX6 b).2.1 := by decide +kernel
theorem tyX6_ok : ∀ k, k < 2 → parseFieldDescriptor (TX6 k).2.2.1 = some (tyX6 k) := by decide +kernel
abbrev cX6_init : ByteArray := prog_8_method_1_code
def yX6_init : MethodName := ⟨RX6, "<init>", "()V"⟩
abbrev cX6_list : ByteArray := prog_8_method_2_code
def yX6_list : MethodName := ⟨RX6, "list", "(LHintPlacer$State;I)V"⟩
abbrev cX6_add : ByteArray := prog_8_method_3_code
def yX6_add : MethodName := ⟨RX6, "add", "(I)V"⟩
def RX7 : String := "HintPlacer"
def TX7 : u_T := fun k => match k with
  | 0 => ("HintPlacer", "state", "LHintPlacer$State;", true)
  | 1 => ("HintPlacer", "history", "LHintPlacer$History;", true)
  | 2 => ("HintPlacer", "showing", "LHintPlacer$Showing;", true)
  | 3 => ("HintPlacer", "orders", "LHintPlacer$Orders;", true)
  | 4 => ("HintPlacer", "tries", "LHintPlacer$Tries;", true)
  | _ => ("HintPlacer", "place", "LHintPlacer$Place;", true)
def tyX7 : Nat → FieldType := fun k => match k with
  | 0 => .object "HintPlacer$State"
  | 1 => .object "HintPlacer$History"
  | 2 => .object "HintPlacer$Showing"
  | 3 => .object "HintPlacer$Orders"
  | 4 => .object "HintPlacer$Tries"
  | _ => .object "HintPlacer$Place"
abbrev wsX70 : List Cond := u_ws RX7 TX7 6
theorem nmX7 : ∀ a, a < 6 → ∀ b, b < 6 → a ≠ b → (TX7 a).2.1 ≠ (TX7 b).2.1 := by decide +kernel
theorem tyX7_ok : ∀ k, k < 6 → parseFieldDescriptor (TX7 k).2.2.1 = some (tyX7 k) := by decide +kernel
abbrev cX7_init : ByteArray := prog_1_method_1_code
def yX7_init : MethodName := ⟨RX7, "<init>", "()V"⟩
abbrev cX7_view : ByteArray := prog_1_method_2_code
def yX7_view : MethodName := ⟨RX7, "view", "(II)I"⟩
abbrev cX7_scroll : ByteArray := prog_1_method_3_code
def yX7_scroll : MethodName := ⟨RX7, "scroll", "(II)I"⟩
abbrev cX7_anchor : ByteArray := prog_1_method_4_code
def yX7_anchor : MethodName := ⟨RX7, "anchor", "(IIII)I"⟩
abbrev cX7_moveAnchor : ByteArray := prog_1_method_5_code
def yX7_moveAnchor : MethodName := ⟨RX7, "moveAnchor", "(III)I"⟩
abbrev cX7_anchorOf : ByteArray := prog_1_method_6_code
def yX7_anchorOf : MethodName := ⟨RX7, "anchorOf", "(II)I"⟩
abbrev cX7_count : ByteArray := prog_1_method_8_code
def yX7_count : MethodName := ⟨RX7, "count", "(I)I"⟩
abbrev cX7_hint : ByteArray := prog_1_method_9_code
def yX7_hint : MethodName := ⟨RX7, "hint", "(IIIII)I"⟩
abbrev cX7_alter : ByteArray := prog_1_method_10_code
def yX7_alter : MethodName := ⟨RX7, "alter", "(III)I"⟩
abbrev cX7_open : ByteArray := prog_1_method_11_code
def yX7_open : MethodName := ⟨RX7, "open", "(I)I"⟩
abbrev cX7_close : ByteArray := prog_1_method_12_code
def yX7_close : MethodName := ⟨RX7, "close", "(I)I"⟩
abbrev cX7_settle : ByteArray := prog_1_method_13_code
def yX7_settle : MethodName := ⟨RX7, "settle", "()I"⟩
abbrev cX7_hintOf : ByteArray := prog_1_method_14_code
def yX7_hintOf : MethodName := ⟨RX7, "hintOf", "(II)I"⟩
abbrev cX7_ifOn : ByteArray := prog_1_method_16_code
def yX7_ifOn : MethodName := ⟨RX7, "ifOn", "(III)I"⟩
abbrev cX7_at : ByteArray := prog_1_method_17_code
def yX7_at : MethodName := ⟨RX7, "at", "(II)I"⟩
abbrev cX7_sizeFor : ByteArray := prog_1_method_18_code
def yX7_sizeFor : MethodName := ⟨RX7, "sizeFor", "(II)I"⟩
abbrev cX7_undo : ByteArray := prog_1_method_19_code
def yX7_undo : MethodName := ⟨RX7, "undo", "()I"⟩
abbrev cX7_isWithin : ByteArray := prog_1_method_24_code
def yX7_isWithin : MethodName := ⟨RX7, "isWithin", "(II)Z"⟩
abbrev cX7_isSize : ByteArray := prog_1_method_25_code
def yX7_isSize : MethodName := ⟨RX7, "isSize", "(I)Z"⟩
abbrev cX7_isViewSize : ByteArray := prog_1_method_26_code
def yX7_isViewSize : MethodName := ⟨RX7, "isViewSize", "(I)Z"⟩
abbrev cX7_isSide : ByteArray := prog_1_method_27_code
def yX7_isSide : MethodName := ⟨RX7, "isSide", "(I)Z"⟩
abbrev cX7_isAnchor : ByteArray := prog_1_method_28_code
def yX7_isAnchor : MethodName := ⟨RX7, "isAnchor", "(I)Z"⟩
abbrev cX7_isHint : ByteArray := prog_1_method_29_code
def yX7_isHint : MethodName := ⟨RX7, "isHint", "(I)Z"⟩
abbrev cX7_lowestValue : ByteArray := prog_1_method_32_code
def yX7_lowestValue : MethodName := ⟨RX7, "lowestValue", "(I)I"⟩
abbrev cX7_highestValue : ByteArray := prog_1_method_33_code
def yX7_highestValue : MethodName := ⟨RX7, "highestValue", "(I)I"⟩
abbrev cX7_canMoveView : ByteArray := prog_1_method_34_code
def yX7_canMoveView : MethodName := ⟨RX7, "canMoveView", "(II)Z"⟩
abbrev cX7_moveView : ByteArray := prog_1_method_35_code
def yX7_moveView : MethodName := ⟨RX7, "moveView", "(II)V"⟩
abbrev cX7_openHint : ByteArray := prog_1_method_36_code
def yX7_openHint : MethodName := ⟨RX7, "openHint", "(I)V"⟩
abbrev cX7_closeHint : ByteArray := prog_1_method_37_code
def yX7_closeHint : MethodName := ⟨RX7, "closeHint", "(I)V"⟩
abbrev cX7_rememberSides : ByteArray := prog_1_method_38_code
def yX7_rememberSides : MethodName := ⟨RX7, "rememberSides", "()I"⟩
abbrev cX7_countHintsOf : ByteArray := prog_1_method_40_code
def yX7_countHintsOf : MethodName := ⟨RX7, "countHintsOf", "(IZ)I"⟩
abbrev cX7_countOpen : ByteArray := prog_1_method_41_code
def yX7_countOpen : MethodName := ⟨RX7, "countOpen", "()I"⟩
abbrev cX7_countRemembered : ByteArray := prog_1_method_42_code
def yX7_countRemembered : MethodName := ⟨RX7, "countRemembered", "()I"⟩
abbrev cX7_countCovered : ByteArray := prog_1_method_43_code
def yX7_countCovered : MethodName := ⟨RX7, "countCovered", "()I"⟩
abbrev cX7_shownValue : ByteArray := prog_1_method_44_code
def yX7_shownValue : MethodName := ⟨RX7, "shownValue", "(II)I"⟩
abbrev cX7_isInSightOnATry : ByteArray := prog_1_method_45_code
def yX7_isInSightOnATry : MethodName := ⟨RX7, "isInSightOnATry", "(III)Z"⟩
abbrev cX7_isLevel : ByteArray := prog_1_method_46_code
def yX7_isLevel : MethodName := ⟨RX7, "isLevel", "(I)Z"⟩
abbrev cX7_isBefore : ByteArray := prog_1_method_47_code
def yX7_isBefore : MethodName := ⟨RX7, "isBefore", "(I)Z"⟩
abbrev cX7_edgeBy : ByteArray := prog_1_method_48_code
def yX7_edgeBy : MethodName := ⟨RX7, "edgeBy", "(LHintPlacer$State;II)I"⟩
abbrev cX7_spansMeet : ByteArray := prog_1_method_49_code
def yX7_spansMeet : MethodName := ⟨RX7, "spansMeet", "(IIII)Z"⟩
abbrev cX7_spanLiesIn : ByteArray := prog_1_method_50_code
def yX7_spanLiesIn : MethodName := ⟨RX7, "spanLiesIn", "(IIII)Z"⟩
def RX8 : String := "HintPlacerModel"
def TX8 : u_T := fun k => match k with
  | _ => ("", "", "", false)
def tyX8 : Nat → FieldType := fun k => match k with
  | _ => .int
abbrev wsX80 : List Cond := u_ws RX8 TX8 0
theorem nmX8 : ∀ a, a < 0 → ∀ b, b < 0 → a ≠ b → (TX8 a).2.1 ≠ (TX8 b).2.1 := by decide +kernel
theorem tyX8_ok : ∀ k, k < 0 → parseFieldDescriptor (TX8 k).2.2.1 = some (tyX8 k) := by decide +kernel
def RJ9 : String := "java/lang/Math"
def TJ9 : u_T := fun k => match k with
  | _ => ("", "", "", false)
def tyJ9 : Nat → FieldType := fun k => match k with
  | _ => .int
abbrev wsJ90 : List Cond := u_ws RJ9 TJ9 0
theorem nmJ9 : ∀ a, a < 0 → ∀ b, b < 0 → a ≠ b → (TJ9 a).2.1 ≠ (TJ9 b).2.1 := by decide +kernel
theorem tyJ9_ok : ∀ k, k < 0 → parseFieldDescriptor (TJ9 k).2.2.1 = some (tyJ9 k) := by decide +kernel
abbrev cJ9_floorDiv_7cf53 : ByteArray := prog_11_method_47_code
def yJ9_floorDiv_7cf53 : MethodName := ⟨RJ9, "floorDiv", "(II)I"⟩
abbrev cJ9_max_7cf53 : ByteArray := prog_11_method_65_code
def yJ9_max_7cf53 : MethodName := ⟨RJ9, "max", "(II)I"⟩
abbrev cJ9_min_7cf53 : ByteArray := prog_11_method_69_code
def yJ9_min_7cf53 : MethodName := ⟨RJ9, "min", "(II)I"⟩
def RL : String := "HintPlacerLaw"
abbrev cL_cell : ByteArray := method_2_code
def yL_cell : MethodName := ⟨RL, "cell", "([II)I"⟩
abbrev cL_holds : ByteArray := method_3_code
def yL_holds : MethodName := ⟨RL, "holds", "(LHintPlacer;)Z"⟩
abbrev cL_law : ByteArray := code
def yL_law : MethodName := ⟨RL, "law", "([I)Z"⟩
abbrev vwCl : List vw_C := [(RX0, TX0, 3), (RX1, TX1, 8), (RX2, TX2, 6), (RX3, TX3, 1), (RX4, TX4, 8), (RX5, TX5, 1), (RX6, TX6, 2), (RX7, TX7, 6)]
