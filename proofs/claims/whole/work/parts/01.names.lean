/-! ===== BEGIN printed: names, fields, word lists, decode rows ===== -/
def RX0 : String := "TokenHouse$Arc"
def TX0 : u_T := fun k => match k with
  | 0 => ("TokenHouse$Arc", "side", "I", true)
  | 1 => ("TokenHouse$Arc", "to", "LTokenHouse$Node;", true)
  | _ => ("TokenHouse$Arc", "port", "I", true)
def tyX0 : Nat → FieldType := fun k => match k with
  | 0 => .int
  | 1 => .object "TokenHouse$Node"
  | _ => .int
abbrev wsX00 : List Cond := u_ws RX0 TX0 3
theorem nmX0 : ∀ a, a < 3 → ∀ b, b < 3 → a ≠ b → (TX0 a).2.1 ≠ (TX0 b).2.1 := by decide +kernel
theorem tyX0_ok : ∀ k, k < 3 → parseFieldDescriptor (TX0 k).2.2.1 = some (tyX0 k) := by decide +kernel
abbrev cX0_init : ByteArray := prog_2_method_1_code
def yX0_init : MethodName := ⟨RX0, "<init>", "(ILTokenHouse$Node;I)V"⟩
def RX1 : String := "TokenHouse$Cell"
def TX1 : u_T := fun k => match k with
  | 0 => ("TokenHouse$Cell", "kept", "Ljava/util/ArrayList;", true)
  | _ => ("TokenHouse$Cell", "value", "LTokenHouse$Value;", false)
def tyX1 : Nat → FieldType := fun k => match k with
  | 0 => .object "java/util/ArrayList"
  | _ => .object "TokenHouse$Value"
abbrev wsX10 : List Cond := u_ws RX1 TX1 2
theorem nmX1 : ∀ a, a < 2 → ∀ b, b < 2 → a ≠ b → (TX1 a).2.1 ≠ (TX1 b).2.1 := by decide +kernel
theorem tyX1_ok : ∀ k, k < 2 → parseFieldDescriptor (TX1 k).2.2.1 = some (tyX1 k) := by decide +kernel
abbrev cX1_init : ByteArray := prog_3_method_1_code
def yX1_init : MethodName := ⟨RX1, "<init>", "(LTokenHouse$Value;)V"⟩
abbrev cX1_isWritten : ByteArray := prog_3_method_2_code
def yX1_isWritten : MethodName := ⟨RX1, "isWritten", "()Z"⟩
def RX2 : String := "TokenHouse$Cells"
def TX2 : u_T := fun k => match k with
  | 0 => ("TokenHouse$Cells", "nothing", "LTokenHouse$Value;", true)
  | 1 => ("TokenHouse$Cells", "row", "[LTokenHouse$Cell;", true)
  | 2 => ("TokenHouse$Cells", "lengths", "[I", true)
  | _ => ("TokenHouse$Cells", "arrays", "I", false)
def tyX2 : Nat → FieldType := fun k => match k with
  | 0 => .object "TokenHouse$Value"
  | 1 => .array (.object "TokenHouse$Cell")
  | 2 => .array .int
  | _ => .int
abbrev wsX20 : List Cond := u_ws RX2 TX2 4
theorem nmX2 : ∀ a, a < 4 → ∀ b, b < 4 → a ≠ b → (TX2 a).2.1 ≠ (TX2 b).2.1 := by decide +kernel
theorem tyX2_ok : ∀ k, k < 4 → parseFieldDescriptor (TX2 k).2.2.1 = some (tyX2 k) := by decide +kernel
abbrev cX2_init : ByteArray := prog_4_method_1_code
def yX2_init : MethodName := ⟨RX2, "<init>", "(LTokenHouse$Value;)V"⟩
abbrev cX2_makeArray : ByteArray := prog_4_method_2_code
def yX2_makeArray : MethodName := ⟨RX2, "makeArray", "(I)I"⟩
abbrev cX2_at : ByteArray := prog_4_method_3_code
def yX2_at : MethodName := ⟨RX2, "at", "(JJ)LTokenHouse$Cell;"⟩
abbrev cX2_forgetAll : ByteArray := prog_4_method_4_code
def yX2_forgetAll : MethodName := ⟨RX2, "forgetAll", "()V"⟩
def RX3 : String := "TokenHouse$Contexts"
def TX3 : u_T := fun k => match k with
  | 0 => ("TokenHouse$Contexts", "outside", "[I", true)
  | 1 => ("TokenHouse$Contexts", "site", "[I", true)
  | 2 => ("TokenHouse$Contexts", "round", "[I", true)
  | _ => ("TokenHouse$Contexts", "count", "I", false)
def tyX3 : Nat → FieldType := fun k => match k with
  | 0 => .array .int
  | 1 => .array .int
  | 2 => .array .int
  | _ => .int
abbrev wsX30 : List Cond := u_ws RX3 TX3 4
theorem nmX3 : ∀ a, a < 4 → ∀ b, b < 4 → a ≠ b → (TX3 a).2.1 ≠ (TX3 b).2.1 := by decide +kernel
theorem tyX3_ok : ∀ k, k < 4 → parseFieldDescriptor (TX3 k).2.2.1 = some (tyX3 k) := by decide +kernel
abbrev cX3_init : ByteArray := prog_5_method_1_code
def yX3_init : MethodName := ⟨RX3, "<init>", "()V"⟩
abbrev cX3_has : ByteArray := prog_5_method_2_code
def yX3_has : MethodName := ⟨RX3, "has", "(I)Z"⟩
abbrev cX3_numberOf : ByteArray := prog_5_method_3_code
def yX3_numberOf : MethodName := ⟨RX3, "numberOf", "(III)I"⟩
abbrev cX3_nextRoundOf : ByteArray := prog_5_method_4_code
def yX3_nextRoundOf : MethodName := ⟨RX3, "nextRoundOf", "(I)I"⟩
abbrev cX3_firstRoundOf : ByteArray := prog_5_method_5_code
def yX3_firstRoundOf : MethodName := ⟨RX3, "firstRoundOf", "(I)I"⟩
abbrev cX3_outsideOf : ByteArray := prog_5_method_6_code
def yX3_outsideOf : MethodName := ⟨RX3, "outsideOf", "(I)I"⟩
abbrev cX3_siteOf : ByteArray := prog_5_method_7_code
def yX3_siteOf : MethodName := ⟨RX3, "siteOf", "(I)I"⟩
abbrev cX3_forgetAll : ByteArray := prog_5_method_8_code
def yX3_forgetAll : MethodName := ⟨RX3, "forgetAll", "()V"⟩
def RX4 : String := "TokenHouse$Frame"
def TX4 : u_T := fun k => match k with
  | 0 => ("TokenHouse$Frame", "nothing", "LTokenHouse$Value;", true)
  | 1 => ("TokenHouse$Frame", "values", "[LTokenHouse$Value;", true)
  | 2 => ("TokenHouse$Frame", "node", "LTokenHouse$Node;", false)
  | 3 => ("TokenHouse$Frame", "context", "I", false)
  | _ => ("TokenHouse$Frame", "came", "I", false)
def tyX4 : Nat → FieldType := fun k => match k with
  | 0 => .object "TokenHouse$Value"
  | 1 => .array (.object "TokenHouse$Value")
  | 2 => .object "TokenHouse$Node"
  | 3 => .int
  | _ => .int
abbrev wsX40 : List Cond := u_ws RX4 TX4 5
theorem nmX4 : ∀ a, a < 5 → ∀ b, b < 5 → a ≠ b → (TX4 a).2.1 ≠ (TX4 b).2.1 := by decide +kernel
theorem tyX4_ok : ∀ k, k < 5 → parseFieldDescriptor (TX4 k).2.2.1 = some (tyX4 k) := by decide +kernel
abbrev cX4_init : ByteArray := prog_6_method_1_code
def yX4_init : MethodName := ⟨RX4, "<init>", "(LTokenHouse$Value;LTokenHouse$Node;I)V"⟩
abbrev cX4_holds : ByteArray := prog_6_method_2_code
def yX4_holds : MethodName := ⟨RX4, "holds", "(I)Z"⟩
abbrev cX4_put : ByteArray := prog_6_method_3_code
def yX4_put : MethodName := ⟨RX4, "put", "(ILTokenHouse$Value;)V"⟩
abbrev cX4_empty : ByteArray := prog_6_method_4_code
def yX4_empty : MethodName := ⟨RX4, "empty", "()V"⟩
def RX5 : String := "TokenHouse$Frames"
def TX5 : u_T := fun k => match k with
  | 0 => ("TokenHouse$Frames", "nothing", "LTokenHouse$Value;", true)
  | 1 => ("TokenHouse$Frames", "made", "Ljava/util/ArrayList;", true)
  | _ => ("TokenHouse$Frames", "free", "Ljava/util/ArrayList;", true)
def tyX5 : Nat → FieldType := fun k => match k with
  | 0 => .object "TokenHouse$Value"
  | 1 => .object "java/util/ArrayList"
  | _ => .object "java/util/ArrayList"
abbrev wsX50 : List Cond := u_ws RX5 TX5 3
theorem nmX5 : ∀ a, a < 3 → ∀ b, b < 3 → a ≠ b → (TX5 a).2.1 ≠ (TX5 b).2.1 := by decide +kernel
theorem tyX5_ok : ∀ k, k < 3 → parseFieldDescriptor (TX5 k).2.2.1 = some (tyX5 k) := by decide +kernel
abbrev cX5_init : ByteArray := prog_7_method_1_code
def yX5_init : MethodName := ⟨RX5, "<init>", "(LTokenHouse$Value;)V"⟩
abbrev cX5_take : ByteArray := prog_7_method_2_code
def yX5_take : MethodName := ⟨RX5, "take", "(LTokenHouse$Node;I)LTokenHouse$Frame;"⟩
abbrev cX5_takeBack : ByteArray := prog_7_method_3_code
def yX5_takeBack : MethodName := ⟨RX5, "takeBack", "(LTokenHouse$Frame;)V"⟩
abbrev cX5_takeAllBack : ByteArray := prog_7_method_4_code
def yX5_takeAllBack : MethodName := ⟨RX5, "takeAllBack", "()V"⟩
def RX6 : String := "TokenHouse$Node"
def TX6 : u_T := fun k => match k with
  | 0 => ("TokenHouse$Node", "number", "I", true)
  | 1 => ("TokenHouse$Node", "op", "I", true)
  | 2 => ("TokenHouse$Node", "n", "I", true)
  | 3 => ("TokenHouse$Node", "ports", "I", true)
  | 4 => ("TokenHouse$Node", "wantedX", "I", true)
  | 5 => ("TokenHouse$Node", "wantedY", "I", true)
  | 6 => ("TokenHouse$Node", "arcs", "Ljava/util/ArrayList;", true)
  | _ => ("TokenHouse$Node", "frames", "Ljava/util/ArrayList;", true)
def tyX6 : Nat → FieldType := fun k => match k with
  | 0 => .int
  | 1 => .int
  | 2 => .int
  | 3 => .int
  | 4 => .int
  | 5 => .int
  | 6 => .object "java/util/ArrayList"
  | _ => .object "java/util/ArrayList"
abbrev wsX60 : List Cond := u_ws RX6 TX6 8
theorem nmX6 : ∀ a, a < 8 → ∀ b, b < 8 → a ≠ b → (TX6 a).2.1 ≠ (TX6 b).2.1 := by decide +kernel
theorem tyX6_ok : ∀ k, k < 8 → parseFieldDescriptor (TX6 k).2.2.1 = some (tyX6 k) := by decide +kernel
abbrev cX6_init : ByteArray := prog_8_method_1_code
def yX6_init : MethodName := ⟨RX6, "<init>", "(IIIIII)V"⟩
abbrev cX6_hasSide : ByteArray := prog_8_method_2_code
def yX6_hasSide : MethodName := ⟨RX6, "hasSide", "(I)Z"⟩
abbrev cX6_hasPort : ByteArray := prog_8_method_3_code
def yX6_hasPort : MethodName := ⟨RX6, "hasPort", "(I)Z"⟩
abbrev cX6_addArc : ByteArray := prog_8_method_4_code
def yX6_addArc : MethodName := ⟨RX6, "addArc", "(ILTokenHouse$Node;I)Z"⟩
abbrev cX6_frameIn : ByteArray := prog_8_method_5_code
def yX6_frameIn : MethodName := ⟨RX6, "frameIn", "(I)LTokenHouse$Frame;"⟩
abbrev cX6_dropFrameIn : ByteArray := prog_8_method_6_code
def yX6_dropFrameIn : MethodName := ⟨RX6, "dropFrameIn", "(I)V"⟩
def RX7 : String := "TokenHouse$Result"
def TX7 : u_T := fun k => match k with
  | 0 => ("TokenHouse$Result", "value", "LTokenHouse$Value;", true)
  | _ => ("TokenHouse$Result", "context", "I", true)
def tyX7 : Nat → FieldType := fun k => match k with
  | 0 => .object "TokenHouse$Value"
  | _ => .int
abbrev wsX70 : List Cond := u_ws RX7 TX7 2
theorem nmX7 : ∀ a, a < 2 → ∀ b, b < 2 → a ≠ b → (TX7 a).2.1 ≠ (TX7 b).2.1 := by decide +kernel
theorem tyX7_ok : ∀ k, k < 2 → parseFieldDescriptor (TX7 k).2.2.1 = some (tyX7 k) := by decide +kernel
abbrev cX7_init : ByteArray := prog_9_method_1_code
def yX7_init : MethodName := ⟨RX7, "<init>", "(LTokenHouse$Value;I)V"⟩
def RX8 : String := "TokenHouse$Value"
def TX8 : u_T := fun k => match k with
  | 0 => ("TokenHouse$Value", "kind", "I", true)
  | _ => ("TokenHouse$Value", "number", "J", true)
def tyX8 : Nat → FieldType := fun k => match k with
  | 0 => .int
  | _ => .long
abbrev wsX80 : List Cond := u_ws RX8 TX8 2
theorem nmX8 : ∀ a, a < 2 → ∀ b, b < 2 → a ≠ b → (TX8 a).2.1 ≠ (TX8 b).2.1 := by decide +kernel
theorem tyX8_ok : ∀ k, k < 2 → parseFieldDescriptor (TX8 k).2.2.1 = some (tyX8 k) := by decide +kernel
abbrev cX8_init : ByteArray := prog_10_method_1_code
def yX8_init : MethodName := ⟨RX8, "<init>", "(IJ)V"⟩
def RX9 : String := "TokenHouse"
def TX9 : u_T := fun k => match k with
  | 0 => ("TokenHouse", "nothing", "LTokenHouse$Value;", true)
  | 1 => ("TokenHouse", "nodes", "Ljava/util/ArrayList;", true)
  | 2 => ("TokenHouse", "frames", "LTokenHouse$Frames;", true)
  | 3 => ("TokenHouse", "readyFrames", "Ljava/util/ArrayList;", true)
  | 4 => ("TokenHouse", "contexts", "LTokenHouse$Contexts;", true)
  | 5 => ("TokenHouse", "cells", "LTokenHouse$Cells;", true)
  | 6 => ("TokenHouse", "results", "Ljava/util/ArrayList;", true)
  | 7 => ("TokenHouse", "waitingTokens", "I", false)
  | 8 => ("TokenHouse", "keptFetches", "I", false)
  | 9 => ("TokenHouse", "trap", "I", false)
  | 10 => ("TokenHouse", "wentSinceClear", "I", false)
  | 11 => ("TokenHouse", "wentInAll", "I", false)
  | _ => ("TokenHouse", "begun", "Z", false)
def tyX9 : Nat → FieldType := fun k => match k with
  | 0 => .object "TokenHouse$Value"
  | 1 => .object "java/util/ArrayList"
  | 2 => .object "TokenHouse$Frames"
  | 3 => .object "java/util/ArrayList"
  | 4 => .object "TokenHouse$Contexts"
  | 5 => .object "TokenHouse$Cells"
  | 6 => .object "java/util/ArrayList"
  | 7 => .int
  | 8 => .int
  | 9 => .int
  | 10 => .int
  | 11 => .int
  | _ => .boolean
abbrev wsX90 : List Cond := u_ws RX9 TX9 13
theorem nmX9 : ∀ a, a < 13 → ∀ b, b < 13 → a ≠ b → (TX9 a).2.1 ≠ (TX9 b).2.1 := by decide +kernel
theorem tyX9_ok : ∀ k, k < 13 → parseFieldDescriptor (TX9 k).2.2.1 = some (tyX9 k) := by decide +kernel
abbrev cX9_init : ByteArray := prog_1_method_1_code
def yX9_init : MethodName := ⟨RX9, "<init>", "()V"⟩
abbrev cX9_node : ByteArray := prog_1_method_2_code
def yX9_node : MethodName := ⟨RX9, "node", "(II)I"⟩
abbrev cX9_arc : ByteArray := prog_1_method_3_code
def yX9_arc : MethodName := ⟨RX9, "arc", "(IIII)Z"⟩
abbrev cX9_token : ByteArray := prog_1_method_4_code
def yX9_token : MethodName := ⟨RX9, "token", "(IIJ)Z"⟩
abbrev cX9_run : ByteArray := prog_1_method_5_code
def yX9_run : MethodName := ⟨RX9, "run", "(IJ)I"⟩
abbrev cX9_clear : ByteArray := prog_1_method_6_code
def yX9_clear : MethodName := ⟨RX9, "clear", "(Z)V"⟩
abbrev cX9_ready : ByteArray := prog_1_method_7_code
def yX9_ready : MethodName := ⟨RX9, "ready", "(II)I"⟩
abbrev cX9_result : ByteArray := prog_1_method_8_code
def yX9_result : MethodName := ⟨RX9, "result", "(II)J"⟩
abbrev cX9_context : ByteArray := prog_1_method_9_code
def yX9_context : MethodName := ⟨RX9, "context", "(II)I"⟩
abbrev cX9_cell : ByteArray := prog_1_method_10_code
def yX9_cell : MethodName := ⟨RX9, "cell", "(III)J"⟩
abbrev cX9_waiting : ByteArray := prog_1_method_11_code
def yX9_waiting : MethodName := ⟨RX9, "waiting", "(II)I"⟩
abbrev cX9_total : ByteArray := prog_1_method_12_code
def yX9_total : MethodName := ⟨RX9, "total", "(I)I"⟩
abbrev cX9_nodeAt : ByteArray := prog_1_method_13_code
def yX9_nodeAt : MethodName := ⟨RX9, "nodeAt", "(I)LTokenHouse$Node;"⟩
abbrev cX9_come : ByteArray := prog_1_method_14_code
def yX9_come : MethodName := ⟨RX9, "come", "(LTokenHouse$Node;ILTokenHouse$Value;I)V"⟩
abbrev cX9_give : ByteArray := prog_1_method_15_code
def yX9_give : MethodName := ⟨RX9, "give", "(LTokenHouse$Node;LTokenHouse$Value;I)V"⟩
abbrev cX9_giveOnSide : ByteArray := prog_1_method_16_code
def yX9_giveOnSide : MethodName := ⟨RX9, "giveOnSide", "(LTokenHouse$Node;ILTokenHouse$Value;I)V"⟩
abbrev cX9_go : ByteArray := prog_1_method_17_code
def yX9_go : MethodName := ⟨RX9, "go", "(LTokenHouse$Frame;)V"⟩
abbrev cX9_errorOf : ByteArray := prog_1_method_18_code
def yX9_errorOf : MethodName := ⟨RX9, "errorOf", "(LTokenHouse$Value;I)I"⟩
abbrev cX9_reckoned : ByteArray := prog_1_method_19_code
def yX9_reckoned : MethodName := ⟨RX9, "reckoned", "(LTokenHouse$Node;LTokenHouse$Value;LTokenHouse$Value;)LTokenHouse$Value;"⟩
abbrev cX9_quotient : ByteArray := prog_1_method_20_code
def yX9_quotient : MethodName := ⟨RX9, "quotient", "(JJ)LTokenHouse$Value;"⟩
abbrev cX9_choose : ByteArray := prog_1_method_21_code
def yX9_choose : MethodName := ⟨RX9, "choose", "(LTokenHouse$Node;ILTokenHouse$Value;LTokenHouse$Value;)V"⟩
abbrev cX9_move : ByteArray := prog_1_method_22_code
def yX9_move : MethodName := ⟨RX9, "move", "(LTokenHouse$Node;ILTokenHouse$Value;)V"⟩
abbrev cX9_contextBehind : ByteArray := prog_1_method_23_code
def yX9_contextBehind : MethodName := ⟨RX9, "contextBehind", "(LTokenHouse$Node;I)I"⟩
abbrev cX9_enterCall : ByteArray := prog_1_method_24_code
def yX9_enterCall : MethodName := ⟨RX9, "enterCall", "(LTokenHouse$Node;ILTokenHouse$Value;)V"⟩
abbrev cX9_leaveCall : ByteArray := prog_1_method_25_code
def yX9_leaveCall : MethodName := ⟨RX9, "leaveCall", "(ILTokenHouse$Value;)V"⟩
abbrev cX9_makeArray : ByteArray := prog_1_method_26_code
def yX9_makeArray : MethodName := ⟨RX9, "makeArray", "(LTokenHouse$Node;IJ)V"⟩
abbrev cX9_fetch : ByteArray := prog_1_method_27_code
def yX9_fetch : MethodName := ⟨RX9, "fetch", "(LTokenHouse$Node;ILTokenHouse$Cell;)V"⟩
abbrev cX9_store : ByteArray := prog_1_method_28_code
def yX9_store : MethodName := ⟨RX9, "store", "(LTokenHouse$Node;ILTokenHouse$Cell;LTokenHouse$Value;)V"⟩
def RX10 : String := "TokenHouseModel"
def TX10 : u_T := fun k => match k with
  | 0 => ("TokenHouseModel", "thrown", "I", false)
  | 1 => ("TokenHouseModel", "nodes", "I", false)
  | 2 => ("TokenHouseModel", "op", "[I", true)
  | 3 => ("TokenHouseModel", "given", "[I", true)
  | 4 => ("TokenHouseModel", "arcs", "[I", true)
  | 5 => ("TokenHouseModel", "arcSide", "[I", true)
  | 6 => ("TokenHouseModel", "arcTo", "[I", true)
  | 7 => ("TokenHouseModel", "arcPort", "[I", true)
  | 8 => ("TokenHouseModel", "begun", "Z", false)
  | 9 => ("TokenHouseModel", "contexts", "I", false)
  | 10 => ("TokenHouseModel", "in", "[I", true)
  | 11 => ("TokenHouseModel", "site", "[I", true)
  | 12 => ("TokenHouseModel", "round", "[I", true)
  | 13 => ("TokenHouseModel", "arrays", "I", false)
  | 14 => ("TokenHouseModel", "size", "[I", true)
  | 15 => ("TokenHouseModel", "cellKind", "[I", true)
  | 16 => ("TokenHouseModel", "cellValue", "[J", true)
  | 17 => ("TokenHouseModel", "tokens", "I", false)
  | 18 => ("TokenHouseModel", "atNode", "[I", true)
  | 19 => ("TokenHouseModel", "atPort", "[I", true)
  | 20 => ("TokenHouseModel", "atContext", "[I", true)
  | 21 => ("TokenHouseModel", "atKind", "[I", true)
  | 22 => ("TokenHouseModel", "atValue", "[J", true)
  | 23 => ("TokenHouseModel", "readies", "I", false)
  | 24 => ("TokenHouseModel", "readyNode", "[I", true)
  | 25 => ("TokenHouseModel", "readyContext", "[I", true)
  | 26 => ("TokenHouseModel", "readyKind", "[I", true)
  | 27 => ("TokenHouseModel", "readyValue", "[J", true)
  | 28 => ("TokenHouseModel", "keeps", "I", false)
  | 29 => ("TokenHouseModel", "keptNode", "[I", true)
  | 30 => ("TokenHouseModel", "keptContext", "[I", true)
  | 31 => ("TokenHouseModel", "keptCell", "[I", true)
  | 32 => ("TokenHouseModel", "results", "I", false)
  | 33 => ("TokenHouseModel", "resultKind", "[I", true)
  | 34 => ("TokenHouseModel", "resultValue", "[J", true)
  | 35 => ("TokenHouseModel", "resultContext", "[I", true)
  | 36 => ("TokenHouseModel", "trap", "I", false)
  | 37 => ("TokenHouseModel", "went", "I", false)
  | 38 => ("TokenHouseModel", "wentInAll", "I", false)
  | 39 => ("TokenHouseModel", "kind", "[I", true)
  | _ => ("TokenHouseModel", "value", "[J", true)
def tyX10 : Nat → FieldType := fun k => match k with
  | 0 => .int
  | 1 => .int
  | 2 => .array .int
  | 3 => .array .int
  | 4 => .array .int
  | 5 => .array .int
  | 6 => .array .int
  | 7 => .array .int
  | 8 => .boolean
  | 9 => .int
  | 10 => .array .int
  | 11 => .array .int
  | 12 => .array .int
  | 13 => .int
  | 14 => .array .int
  | 15 => .array .int
  | 16 => .array .long
  | 17 => .int
  | 18 => .array .int
  | 19 => .array .int
  | 20 => .array .int
  | 21 => .array .int
  | 22 => .array .long
  | 23 => .int
  | 24 => .array .int
  | 25 => .array .int
  | 26 => .array .int
  | 27 => .array .long
  | 28 => .int
  | 29 => .array .int
  | 30 => .array .int
  | 31 => .array .int
  | 32 => .int
  | 33 => .array .int
  | 34 => .array .long
  | 35 => .array .int
  | 36 => .int
  | 37 => .int
  | 38 => .int
  | 39 => .array .int
  | _ => .array .long
abbrev wsX100 : List Cond := u_ws RX10 TX10 41
theorem nmX10 : ∀ a, a < 41 → ∀ b, b < 41 → a ≠ b → (TX10 a).2.1 ≠ (TX10 b).2.1 := by decide +kernel
theorem tyX10_ok : ∀ k, k < 41 → parseFieldDescriptor (TX10 k).2.2.1 = some (tyX10 k) := by decide +kernel
abbrev cX10_init : ByteArray := prog_12_method_1_code
def yX10_init : MethodName := ⟨RX10, "<init>", "()V"⟩
abbrev cX10_thrown : ByteArray := prog_12_method_2_code
def yX10_thrown : MethodName := ⟨RX10, "thrown", "()I"⟩
abbrev cX10_raise : ByteArray := prog_12_method_3_code
def yX10_raise : MethodName := ⟨RX10, "raise", "(I)I"⟩
abbrev cX10_ports : ByteArray := prog_12_method_4_code
def yX10_ports : MethodName := ⟨RX10, "ports", "(I)I"⟩
abbrev cX10_isNode : ByteArray := prog_12_method_5_code
def yX10_isNode : MethodName := ⟨RX10, "isNode", "(I)Z"⟩
abbrev cX10_node : ByteArray := prog_12_method_6_code
def yX10_node : MethodName := ⟨RX10, "node", "(II)I"⟩
abbrev cX10_arc : ByteArray := prog_12_method_7_code
def yX10_arc : MethodName := ⟨RX10, "arc", "(IIII)Z"⟩
abbrev cX10_waits : ByteArray := prog_12_method_8_code
def yX10_waits : MethodName := ⟨RX10, "waits", "(III)I"⟩
abbrev cX10_comes : ByteArray := prog_12_method_9_code
def yX10_comes : MethodName := ⟨RX10, "comes", "(IIIIJ)V"⟩
abbrev cX10_gather : ByteArray := prog_12_method_10_code
def yX10_gather : MethodName := ⟨RX10, "gather", "(II)V"⟩
abbrev cX10_token : ByteArray := prog_12_method_11_code
def yX10_token : MethodName := ⟨RX10, "token", "(IIJ)Z"⟩
abbrev cX10_send : ByteArray := prog_12_method_12_code
def yX10_send : MethodName := ⟨RX10, "send", "(IIIIJ)V"⟩
abbrev cX10_contextOf : ByteArray := prog_12_method_13_code
def yX10_contextOf : MethodName := ⟨RX10, "contextOf", "(III)I"⟩
abbrev cX10_sendError : ByteArray := prog_12_method_14_code
def yX10_sendError : MethodName := ⟨RX10, "sendError", "(III)V"⟩
abbrev cX10_errorOf : ByteArray := prog_12_method_15_code
def yX10_errorOf : MethodName := ⟨RX10, "errorOf", "(I)I"⟩
abbrev cX10_take : ByteArray := prog_12_method_16_code
def yX10_take : MethodName := ⟨RX10, "take", "(I)V"⟩
abbrev cX10_go : ByteArray := prog_12_method_17_code
def yX10_go : MethodName := ⟨RX10, "go", "(I)V"⟩
abbrev cX10_keepResult : ByteArray := prog_12_method_18_code
def yX10_keepResult : MethodName := ⟨RX10, "keepResult", "(I)V"⟩
abbrev cX10_reckon : ByteArray := prog_12_method_19_code
def yX10_reckon : MethodName := ⟨RX10, "reckon", "(II)V"⟩
abbrev cX10_part : ByteArray := prog_12_method_20_code
def yX10_part : MethodName := ⟨RX10, "part", "(II)V"⟩
abbrev cX10_turn : ByteArray := prog_12_method_21_code
def yX10_turn : MethodName := ⟨RX10, "turn", "(II)V"⟩
abbrev cX10_callOrBack : ByteArray := prog_12_method_22_code
def yX10_callOrBack : MethodName := ⟨RX10, "callOrBack", "(II)V"⟩
abbrev cX10_make : ByteArray := prog_12_method_23_code
def yX10_make : MethodName := ⟨RX10, "make", "(II)V"⟩
abbrev cX10_atCell : ByteArray := prog_12_method_24_code
def yX10_atCell : MethodName := ⟨RX10, "atCell", "(II)V"⟩
abbrev cX10_store : ByteArray := prog_12_method_25_code
def yX10_store : MethodName := ⟨RX10, "store", "(III)V"⟩
abbrev cX10_serve : ByteArray := prog_12_method_26_code
def yX10_serve : MethodName := ⟨RX10, "serve", "(I)V"⟩
abbrev cX10_run : ByteArray := prog_12_method_27_code
def yX10_run : MethodName := ⟨RX10, "run", "(IJ)I"⟩
abbrev cX10_clear : ByteArray := prog_12_method_28_code
def yX10_clear : MethodName := ⟨RX10, "clear", "(Z)V"⟩
abbrev cX10_ready : ByteArray := prog_12_method_29_code
def yX10_ready : MethodName := ⟨RX10, "ready", "(II)I"⟩
abbrev cX10_result : ByteArray := prog_12_method_30_code
def yX10_result : MethodName := ⟨RX10, "result", "(II)J"⟩
abbrev cX10_context : ByteArray := prog_12_method_31_code
def yX10_context : MethodName := ⟨RX10, "context", "(II)I"⟩
abbrev cX10_cell : ByteArray := prog_12_method_32_code
def yX10_cell : MethodName := ⟨RX10, "cell", "(III)J"⟩
abbrev cX10_waiting : ByteArray := prog_12_method_33_code
def yX10_waiting : MethodName := ⟨RX10, "waiting", "(II)I"⟩
abbrev cX10_total : ByteArray := prog_12_method_34_code
def yX10_total : MethodName := ⟨RX10, "total", "(I)I"⟩
def RJx145de : String := "java/io/Serializable"
def TJx145de : u_T := fun k => match k with
  | _ => ("", "", "", false)
def tyJx145de : Nat → FieldType := fun k => match k with
  | _ => .int
abbrev wsJx145de0 : List Cond := u_ws RJx145de TJx145de 0
theorem nmJx145de : ∀ a, a < 0 → ∀ b, b < 0 → a ≠ b → (TJx145de a).2.1 ≠ (TJx145de b).2.1 := by decide +kernel
theorem tyJx145de_ok : ∀ k, k < 0 → parseFieldDescriptor (TJx145de k).2.2.1 = some (tyJx145de k) := by decide +kernel
def RJx8e188 : String := "java/lang/Cloneable"
def TJx8e188 : u_T := fun k => match k with
  | _ => ("", "", "", false)
def tyJx8e188 : Nat → FieldType := fun k => match k with
  | _ => .int
abbrev wsJx8e1880 : List Cond := u_ws RJx8e188 TJx8e188 0
theorem nmJx8e188 : ∀ a, a < 0 → ∀ b, b < 0 → a ≠ b → (TJx8e188 a).2.1 ≠ (TJx8e188 b).2.1 := by decide +kernel
theorem tyJx8e188_ok : ∀ k, k < 0 → parseFieldDescriptor (TJx8e188 k).2.2.1 = some (tyJx8e188 k) := by decide +kernel
def RJxab1ab : String := "java/lang/Iterable"
def TJxab1ab : u_T := fun k => match k with
  | _ => ("", "", "", false)
def tyJxab1ab : Nat → FieldType := fun k => match k with
  | _ => .int
abbrev wsJxab1ab0 : List Cond := u_ws RJxab1ab TJxab1ab 0
theorem nmJxab1ab : ∀ a, a < 0 → ∀ b, b < 0 → a ≠ b → (TJxab1ab a).2.1 ≠ (TJxab1ab b).2.1 := by decide +kernel
theorem tyJxab1ab_ok : ∀ k, k < 0 → parseFieldDescriptor (TJxab1ab k).2.2.1 = some (tyJxab1ab k) := by decide +kernel
def RJ9 : String := "java/lang/Math"
def TJ9 : u_T := fun k => match k with
  | _ => ("", "", "", false)
def tyJ9 : Nat → FieldType := fun k => match k with
  | _ => .int
abbrev wsJ90 : List Cond := u_ws RJ9 TJ9 0
theorem nmJ9 : ∀ a, a < 0 → ∀ b, b < 0 → a ≠ b → (TJ9 a).2.1 ≠ (TJ9 b).2.1 := by decide +kernel
theorem tyJ9_ok : ∀ k, k < 0 → parseFieldDescriptor (TJ9 k).2.2.1 = some (tyJ9 k) := by decide +kernel
abbrev cJ9_max_7cf53 : ByteArray := prog_19_method_65_code
def yJ9_max_7cf53 : MethodName := ⟨RJ9, "max", "(II)I"⟩
abbrev cJ9_min_7cf53 : ByteArray := prog_19_method_69_code
def yJ9_min_7cf53 : MethodName := ⟨RJ9, "min", "(II)I"⟩
def RJ0 : String := "java/lang/String"
def TJ0 : u_T := fun k => match k with
  | _ => ("", "", "", false)
def tyJ0 : Nat → FieldType := fun k => match k with
  | _ => .int
abbrev wsJ00 : List Cond := u_ws RJ0 TJ0 0
theorem nmJ0 : ∀ a, a < 0 → ∀ b, b < 0 → a ≠ b → (TJ0 a).2.1 ≠ (TJ0 b).2.1 := by decide +kernel
theorem tyJ0_ok : ∀ k, k < 0 → parseFieldDescriptor (TJ0 k).2.2.1 = some (tyJ0 k) := by decide +kernel
def RJ10 : String := "java/lang/System"
def TJ10 : u_T := fun k => match k with
  | _ => ("", "", "", false)
def tyJ10 : Nat → FieldType := fun k => match k with
  | _ => .int
abbrev wsJ100 : List Cond := u_ws RJ10 TJ10 0
theorem nmJ10 : ∀ a, a < 0 → ∀ b, b < 0 → a ≠ b → (TJ10 a).2.1 ≠ (TJ10 b).2.1 := by decide +kernel
theorem tyJ10_ok : ∀ k, k < 0 → parseFieldDescriptor (TJ10 k).2.2.1 = some (tyJ10 k) := by decide +kernel
def RJxa1e45 : String := "java/util/AbstractCollection"
def TJxa1e45 : u_T := fun k => match k with
  | _ => ("", "", "", false)
def tyJxa1e45 : Nat → FieldType := fun k => match k with
  | _ => .int
abbrev wsJxa1e450 : List Cond := u_ws RJxa1e45 TJxa1e45 0
theorem nmJxa1e45 : ∀ a, a < 0 → ∀ b, b < 0 → a ≠ b → (TJxa1e45 a).2.1 ≠ (TJxa1e45 b).2.1 := by decide +kernel
theorem tyJxa1e45_ok : ∀ k, k < 0 → parseFieldDescriptor (TJxa1e45 k).2.2.1 = some (tyJxa1e45 k) := by decide +kernel
abbrev cJxa1e45_init_da8c8 : ByteArray := prog_24_method_1_code
def yJxa1e45_init_da8c8 : MethodName := ⟨RJxa1e45, "<init>", "()V"⟩
def RJxc12de : String := "java/util/AbstractList"
def TJxc12de : u_T := fun k => match k with
  | _ => ("", "", "", false)
def tyJxc12de : Nat → FieldType := fun k => match k with
  | _ => .int
abbrev wsJxc12de0 : List Cond := u_ws RJxc12de TJxc12de 0
theorem nmJxc12de : ∀ a, a < 0 → ∀ b, b < 0 → a ≠ b → (TJxc12de a).2.1 ≠ (TJxc12de b).2.1 := by decide +kernel
theorem tyJxc12de_ok : ∀ k, k < 0 → parseFieldDescriptor (TJxc12de k).2.2.1 = some (tyJxc12de k) := by decide +kernel
abbrev cJxc12de_init_da8c8 : ByteArray := prog_25_method_1_code
def yJxc12de_init_da8c8 : MethodName := ⟨RJxc12de, "<init>", "()V"⟩
def RJx4a65c : String := "java/util/ArrayList"
def TJx4a65c : u_T := fun k => match k with
  | 0 => ("java/util/AbstractList", "modCount", "I", false)
  | 1 => ("java/util/ArrayList", "elementData", "[Ljava/lang/Object;", false)
  | _ => ("java/util/ArrayList", "size", "I", false)
def tyJx4a65c : Nat → FieldType := fun k => match k with
  | 0 => .int
  | 1 => .array (.object "java/lang/Object")
  | _ => .int
abbrev wsJx4a65c0 : List Cond := u_ws RJx4a65c TJx4a65c 3
theorem nmJx4a65c : ∀ a, a < 3 → ∀ b, b < 3 → a ≠ b → (TJx4a65c a).2.1 ≠ (TJx4a65c b).2.1 := by decide +kernel
theorem tyJx4a65c_ok : ∀ k, k < 3 → parseFieldDescriptor (TJx4a65c k).2.2.1 = some (tyJx4a65c k) := by decide +kernel
abbrev cJx4a65c_init_da8c8 : ByteArray := prog_26_method_2_code
def yJx4a65c_init_da8c8 : MethodName := ⟨RJx4a65c, "<init>", "()V"⟩
abbrev cJx4a65c_grow_92f84 : ByteArray := prog_26_method_6_code
def yJx4a65c_grow_92f84 : MethodName := ⟨RJx4a65c, "grow", "(I)[Ljava/lang/Object;"⟩
abbrev cJx4a65c_grow_d5877 : ByteArray := prog_26_method_7_code
def yJx4a65c_grow_d5877 : MethodName := ⟨RJx4a65c, "grow", "()[Ljava/lang/Object;"⟩
abbrev cJx4a65c_size_8abf5 : ByteArray := prog_26_method_8_code
def yJx4a65c_size_8abf5 : MethodName := ⟨RJx4a65c, "size", "()I"⟩
abbrev cJx4a65c_isEmpty_aae02 : ByteArray := prog_26_method_9_code
def yJx4a65c_isEmpty_aae02 : MethodName := ⟨RJx4a65c, "isEmpty", "()Z"⟩
abbrev cJx4a65c_elementData_915e3 : ByteArray := prog_26_method_18_code
def yJx4a65c_elementData_915e3 : MethodName := ⟨RJx4a65c, "elementData", "(I)Ljava/lang/Object;"⟩
abbrev cJx4a65c_get_915e3 : ByteArray := prog_26_method_20_code
def yJx4a65c_get_915e3 : MethodName := ⟨RJx4a65c, "get", "(I)Ljava/lang/Object;"⟩
abbrev cJx4a65c_add_72be8 : ByteArray := prog_26_method_24_code
def yJx4a65c_add_72be8 : MethodName := ⟨RJx4a65c, "add", "(Ljava/lang/Object;[Ljava/lang/Object;I)V"⟩
abbrev cJx4a65c_add_9ea2d : ByteArray := prog_26_method_25_code
def yJx4a65c_add_9ea2d : MethodName := ⟨RJx4a65c, "add", "(Ljava/lang/Object;)Z"⟩
abbrev cJx4a65c_remove_915e3 : ByteArray := prog_26_method_29_code
def yJx4a65c_remove_915e3 : MethodName := ⟨RJx4a65c, "remove", "(I)Ljava/lang/Object;"⟩
abbrev cJx4a65c_fastRemove_b59b0 : ByteArray := prog_26_method_39_code
def yJx4a65c_fastRemove_b59b0 : MethodName := ⟨RJx4a65c, "fastRemove", "([Ljava/lang/Object;I)V"⟩
abbrev cJx4a65c_clear_da8c8 : ByteArray := prog_26_method_40_code
def yJx4a65c_clear_da8c8 : MethodName := ⟨RJx4a65c, "clear", "()V"⟩
def RJ7 : String := "java/util/Arrays"
def TJ7 : u_T := fun k => match k with
  | _ => ("", "", "", false)
def tyJ7 : Nat → FieldType := fun k => match k with
  | _ => .int
abbrev wsJ70 : List Cond := u_ws RJ7 TJ7 0
theorem nmJ7 : ∀ a, a < 0 → ∀ b, b < 0 → a ≠ b → (TJ7 a).2.1 ≠ (TJ7 b).2.1 := by decide +kernel
theorem tyJ7_ok : ∀ k, k < 0 → parseFieldDescriptor (TJ7 k).2.2.1 = some (tyJ7 k) := by decide +kernel
abbrev cJ7_copyOf_1904c : ByteArray := prog_27_method_119_code
def yJ7_copyOf_1904c : MethodName := ⟨RJ7, "copyOf", "([Ljava/lang/Object;I)[Ljava/lang/Object;"⟩
abbrev cJ7_copyOf_6403c : ByteArray := prog_27_method_120_code
def yJ7_copyOf_6403c : MethodName := ⟨RJ7, "copyOf", "([Ljava/lang/Object;ILjava/lang/Class;)[Ljava/lang/Object;"⟩
def RJx5ef63 : String := "java/util/Collection"
def TJx5ef63 : u_T := fun k => match k with
  | _ => ("", "", "", false)
def tyJx5ef63 : Nat → FieldType := fun k => match k with
  | _ => .int
abbrev wsJx5ef630 : List Cond := u_ws RJx5ef63 TJx5ef63 0
theorem nmJx5ef63 : ∀ a, a < 0 → ∀ b, b < 0 → a ≠ b → (TJx5ef63 a).2.1 ≠ (TJx5ef63 b).2.1 := by decide +kernel
theorem tyJx5ef63_ok : ∀ k, k < 0 → parseFieldDescriptor (TJx5ef63 k).2.2.1 = some (tyJx5ef63 k) := by decide +kernel
def RJxbd725 : String := "java/util/List"
def TJxbd725 : u_T := fun k => match k with
  | _ => ("", "", "", false)
def tyJxbd725 : Nat → FieldType := fun k => match k with
  | _ => .int
abbrev wsJxbd7250 : List Cond := u_ws RJxbd725 TJxbd725 0
theorem nmJxbd725 : ∀ a, a < 0 → ∀ b, b < 0 → a ≠ b → (TJxbd725 a).2.1 ≠ (TJxbd725 b).2.1 := by decide +kernel
theorem tyJxbd725_ok : ∀ k, k < 0 → parseFieldDescriptor (TJxbd725 k).2.2.1 = some (tyJxbd725 k) := by decide +kernel
def RJ15 : String := "java/util/Objects"
def TJ15 : u_T := fun k => match k with
  | _ => ("", "", "", false)
def tyJ15 : Nat → FieldType := fun k => match k with
  | _ => .int
abbrev wsJ150 : List Cond := u_ws RJ15 TJ15 0
theorem nmJ15 : ∀ a, a < 0 → ∀ b, b < 0 → a ≠ b → (TJ15 a).2.1 ≠ (TJ15 b).2.1 := by decide +kernel
theorem tyJ15_ok : ∀ k, k < 0 → parseFieldDescriptor (TJ15 k).2.2.1 = some (tyJ15 k) := by decide +kernel
abbrev cJ15_checkIndex_7cf53 : ByteArray := prog_31_method_17_code
def yJ15_checkIndex_7cf53 : MethodName := ⟨RJ15, "checkIndex", "(II)I"⟩
def RJxf0a74 : String := "java/util/RandomAccess"
def TJxf0a74 : u_T := fun k => match k with
  | _ => ("", "", "", false)
def tyJxf0a74 : Nat → FieldType := fun k => match k with
  | _ => .int
abbrev wsJxf0a740 : List Cond := u_ws RJxf0a74 TJxf0a74 0
theorem nmJxf0a74 : ∀ a, a < 0 → ∀ b, b < 0 → a ≠ b → (TJxf0a74 a).2.1 ≠ (TJxf0a74 b).2.1 := by decide +kernel
theorem tyJxf0a74_ok : ∀ k, k < 0 → parseFieldDescriptor (TJxf0a74 k).2.2.1 = some (tyJxf0a74 k) := by decide +kernel
def RJxa66e6 : String := "java/util/SequencedCollection"
def TJxa66e6 : u_T := fun k => match k with
  | _ => ("", "", "", false)
def tyJxa66e6 : Nat → FieldType := fun k => match k with
  | _ => .int
abbrev wsJxa66e60 : List Cond := u_ws RJxa66e6 TJxa66e6 0
theorem nmJxa66e6 : ∀ a, a < 0 → ∀ b, b < 0 → a ≠ b → (TJxa66e6 a).2.1 ≠ (TJxa66e6 b).2.1 := by decide +kernel
theorem tyJxa66e6_ok : ∀ k, k < 0 → parseFieldDescriptor (TJxa66e6 k).2.2.1 = some (tyJxa66e6 k) := by decide +kernel
def RJ8 : String := "jdk/internal/util/ArraysSupport"
def TJ8 : u_T := fun k => match k with
  | _ => ("", "", "", false)
def tyJ8 : Nat → FieldType := fun k => match k with
  | _ => .int
abbrev wsJ80 : List Cond := u_ws RJ8 TJ8 0
theorem nmJ8 : ∀ a, a < 0 → ∀ b, b < 0 → a ≠ b → (TJ8 a).2.1 ≠ (TJ8 b).2.1 := by decide +kernel
theorem tyJ8_ok : ∀ k, k < 0 → parseFieldDescriptor (TJ8 k).2.2.1 = some (tyJ8 k) := by decide +kernel
abbrev cJ8_newLength_cabcc : ByteArray := prog_34_method_27_code
def yJ8_newLength_cabcc : MethodName := ⟨RJ8, "newLength", "(III)I"⟩
abbrev cJ8_hugeLength_7cf53 : ByteArray := prog_34_method_28_code
def yJ8_hugeLength_7cf53 : MethodName := ⟨RJ8, "hugeLength", "(II)I"⟩
def RJ3 : String := "jdk/internal/util/Preconditions"
def TJ3 : u_T := fun k => match k with
  | _ => ("", "", "", false)
def tyJ3 : Nat → FieldType := fun k => match k with
  | _ => .int
abbrev wsJ30 : List Cond := u_ws RJ3 TJ3 0
theorem nmJ3 : ∀ a, a < 0 → ∀ b, b < 0 → a ≠ b → (TJ3 a).2.1 ≠ (TJ3 b).2.1 := by decide +kernel
theorem tyJ3_ok : ∀ k, k < 0 → parseFieldDescriptor (TJ3 k).2.2.1 = some (tyJ3 k) := by decide +kernel
abbrev cJ3_checkIndex_8e157 : ByteArray := prog_35_method_11_code
def yJ3_checkIndex_8e157 : MethodName := ⟨RJ3, "checkIndex", "(IILjava/util/function/BiFunction;)I"⟩
def RL : String := "TokenHouseLaw"
abbrev cL_node : ByteArray := method_3_code
def yL_node : MethodName := ⟨RL, "node", "(LTokenHouse;II[J)I"⟩
abbrev cL_run : ByteArray := method_4_code
def yL_run : MethodName := ⟨RL, "run", "(LTokenHouse;IJ[J)I"⟩
abbrev cL_result : ByteArray := method_5_code
def yL_result : MethodName := ⟨RL, "result", "(LTokenHouse;II[J)I"⟩
abbrev cL_context : ByteArray := method_6_code
def yL_context : MethodName := ⟨RL, "context", "(LTokenHouse;II[J)I"⟩
abbrev cL_cell : ByteArray := method_7_code
def yL_cell : MethodName := ⟨RL, "cell", "(LTokenHouse;III[J)I"⟩
abbrev cL_law : ByteArray := code
def yL_law : MethodName := ⟨RL, "law", "([I)Z"⟩
abbrev vwCl : List vw_C := [(RJx4a65c, TJx4a65c, 3), (RX0, TX0, 3), (RX1, TX1, 2), (RX2, TX2, 4), (RX3, TX3, 4), (RX4, TX4, 5), (RX5, TX5, 3), (RX6, TX6, 8), (RX7, TX7, 2), (RX8, TX8, 2), (RX9, TX9, 13), (RX10, TX10, 41)]
