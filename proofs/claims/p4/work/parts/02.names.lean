def RX0 : String := "GluedWords$Carrier"
def TX0 : u_T := fun k => match k with
  | 0 => ("GluedWords$Carrier", "fromIndices", "[I", true)
  | 1 => ("GluedWords$Carrier", "toIndices", "[I", true)
  | 2 => ("GluedWords$Carrier", "orders", "[I", true)
  | 3 => ("GluedWords$Carrier", "trial", "LGluedWords$Walk;", true)
  | _ => ("GluedWords$Carrier", "target", "LGluedWords$Walk;", false)
def tyX0 : Nat → FieldType := fun k => match k with
  | 0 => .array .int
  | 1 => .array .int
  | 2 => .array .int
  | 3 => .object "GluedWords$Walk"
  | _ => .object "GluedWords$Walk"
abbrev wsX00 : List Cond := u_ws RX0 TX0 5
theorem nmX0 : ∀ a, a < 5 → ∀ b, b < 5 → a ≠ b → (TX0 a).2.1 ≠ (TX0 b).2.1 := by decide +kernel
theorem tyX0_ok : ∀ k, k < 5 → parseFieldDescriptor (TX0 k).2.2.1 = some (tyX0 k) := by decide +kernel
abbrev cX0_aim : ByteArray := prog_2_method_2_code
def yX0_aim : MethodName := ⟨RX0, "aim", "(LGluedWords$Store;LGluedWords$Walk;)V"⟩
abbrev cX0_hits : ByteArray := prog_2_method_3_code
def yX0_hits : MethodName := ⟨RX0, "hits", "(LGluedWords$Walk;)Z"⟩
abbrev cX0_greatestRoot : ByteArray := prog_2_method_4_code
def yX0_greatestRoot : MethodName := ⟨RX0, "greatestRoot", "(LGluedWords$Store;LGluedWords$Walk;)I"⟩
abbrev cX0_isPower : ByteArray := prog_2_method_5_code
def yX0_isPower : MethodName := ⟨RX0, "isPower", "(LGluedWords$Store;LGluedWords$Walk;I)Z"⟩
abbrev cX0_repeatFirst : ByteArray := prog_2_method_6_code
def yX0_repeatFirst : MethodName := ⟨RX0, "repeatFirst", "(LGluedWords$Walk;I)V"⟩
def RX1 : String := "GluedWords$Counts"
def TX1 : u_T := fun k => match k with
  | _ => ("GluedWords$Counts", "ways", "[J", true)
abbrev wsX10 : List Cond := u_ws RX1 TX1 1
abbrev cX1_waysBehind : ByteArray := prog_3_method_2_code
def yX1_waysBehind : MethodName := ⟨RX1, "waysBehind", "(II)J"⟩
abbrev cX1_setWays : ByteArray := prog_3_method_3_code
def yX1_setWays : MethodName := ⟨RX1, "setWays", "(IIJ)V"⟩
abbrev cX1_waysFrom : ByteArray := prog_3_method_4_code
def yX1_waysFrom : MethodName := ⟨RX1, "waysFrom", "(LGluedWords$Store;III)J"⟩
abbrev cX1_fillLoops : ByteArray := prog_3_method_5_code
def yX1_fillLoops : MethodName := ⟨RX1, "fillLoops", "(LGluedWords$Store;II)V"⟩
abbrev cX1_loops : ByteArray := prog_3_method_6_code
def yX1_loops : MethodName := ⟨RX1, "loops", "(LGluedWords$Store;II)J"⟩
abbrev cX1_held : ByteArray := prog_3_method_7_code
def yX1_held : MethodName := ⟨RX1, "held", "(LGluedWords$Store;III)J"⟩
abbrev cX1_placeOf : ByteArray := prog_3_method_8_code
def yX1_placeOf : MethodName := ⟨RX1, "placeOf", "(LGluedWords$Store;LGluedWords$Walk;)J"⟩
abbrev cX1_find : ByteArray := prog_3_method_9_code
def yX1_find : MethodName := ⟨RX1, "find", "(LGluedWords$Store;IIILGluedWords$Walk;)V"⟩
abbrev cX1_findStep : ByteArray := prog_3_method_10_code
def yX1_findStep : MethodName := ⟨RX1, "findStep", "(LGluedWords$Store;IJLGluedWords$Walk;)J"⟩
def RX2 : String := "GluedWords$Forms"
abbrev cX2_takeStep : ByteArray := prog_4_method_2_code
def yX2_takeStep : MethodName := ⟨RX2, "takeStep", "(LGluedWords$Store;LGluedWords$Walk;II)Z"⟩
abbrev cX2_append : ByteArray := prog_4_method_3_code
def yX2_append : MethodName := ⟨RX2, "append", "(LGluedWords$Store;LGluedWords$Walk;LGluedWords$Walk;)I"⟩
abbrev cX2_appendTurned : ByteArray := prog_4_method_4_code
def yX2_appendTurned : MethodName := ⟨RX2, "appendTurned", "(LGluedWords$Store;LGluedWords$Walk;LGluedWords$Walk;)V"⟩
abbrev cX2_reduce : ByteArray := prog_4_method_5_code
def yX2_reduce : MethodName := ⟨RX2, "reduce", "(LGluedWords$Store;LGluedWords$Walk;LGluedWords$Walk;)I"⟩
abbrev cX2_turn : ByteArray := prog_4_method_6_code
def yX2_turn : MethodName := ⟨RX2, "turn", "(LGluedWords$Store;LGluedWords$Walk;LGluedWords$Walk;)V"⟩
abbrev cX2_product : ByteArray := prog_4_method_7_code
def yX2_product : MethodName := ⟨RX2, "product", "(LGluedWords$Store;LGluedWords$Walk;LGluedWords$Walk;LGluedWords$Walk;)V"⟩
abbrev cX2_shrink : ByteArray := prog_4_method_8_code
def yX2_shrink : MethodName := ⟨RX2, "shrink", "(LGluedWords$Store;LGluedWords$Walk;LGluedWords$Walk;LGluedWords$Walk;)V"⟩
abbrev cX2_seam : ByteArray := prog_4_method_9_code
def yX2_seam : MethodName := ⟨RX2, "seam", "(LGluedWords$Store;LGluedWords$Walk;)I"⟩
abbrev cX2_canShrink : ByteArray := prog_4_method_10_code
def yX2_canShrink : MethodName := ⟨RX2, "canShrink", "(LGluedWords$Store;LGluedWords$Walk;)Z"⟩
abbrev cX2_cutEnds : ByteArray := prog_4_method_11_code
def yX2_cutEnds : MethodName := ⟨RX2, "cutEnds", "(LGluedWords$Store;LGluedWords$Walk;LGluedWords$Walk;)V"⟩
abbrev cX2_beginBehind : ByteArray := prog_4_method_12_code
def yX2_beginBehind : MethodName := ⟨RX2, "beginBehind", "(LGluedWords$Store;LGluedWords$Walk;ILGluedWords$Walk;)V"⟩
def RX3 : String := "GluedWords$History"
def TX3 : u_T := fun k => match k with
  | 0 => ("GluedWords$History", "ring", "[LGluedWords$Store;", true)
  | 1 => ("GluedWords$History", "first", "I", false)
  | _ => ("GluedWords$History", "count", "I", false)
def tyX3 : Nat → FieldType := fun k => match k with
  | 0 => .array (.object "GluedWords$Store")
  | 1 => .int
  | _ => .int
abbrev wsX30 : List Cond := u_ws RX3 TX3 3
theorem nmX3 : ∀ a, a < 3 → ∀ b, b < 3 → a ≠ b → (TX3 a).2.1 ≠ (TX3 b).2.1 := by decide +kernel
theorem tyX3_ok : ∀ k, k < 3 → parseFieldDescriptor (TX3 k).2.2.1 = some (tyX3 k) := by decide +kernel
abbrev cX3_slot : ByteArray := prog_5_method_2_code
def yX3_slot : MethodName := ⟨RX3, "slot", "(I)LGluedWords$Store;"⟩
abbrev cX3_size : ByteArray := prog_5_method_3_code
def yX3_size : MethodName := ⟨RX3, "size", "()I"⟩
abbrev cX3_push : ByteArray := prog_5_method_4_code
def yX3_push : MethodName := ⟨RX3, "push", "(LGluedWords$Store;)V"⟩
abbrev cX3_pop : ByteArray := prog_5_method_5_code
def yX3_pop : MethodName := ⟨RX3, "pop", "(LGluedWords$Store;)Z"⟩
abbrev cX3_copyFrom : ByteArray := prog_5_method_6_code
def yX3_copyFrom : MethodName := ⟨RX3, "copyFrom", "(LGluedWords$History;)V"⟩
def RX4 : String := "GluedWords$Kinship"
def TX4 : u_T := fun k => match k with
  | 0 => ("GluedWords$Kinship", "first", "LGluedWords$Walk;", true)
  | 1 => ("GluedWords$Kinship", "second", "LGluedWords$Walk;", true)
  | 2 => ("GluedWords$Kinship", "begun", "LGluedWords$Walk;", true)
  | 3 => ("GluedWords$Kinship", "spare", "LGluedWords$Walk;", true)
  | 4 => ("GluedWords$Kinship", "carrier", "LGluedWords$Carrier;", true)
  | 5 => ("GluedWords$Kinship", "far", "[I", true)
  | 6 => ("GluedWords$Kinship", "behind", "I", false)
  | _ => ("GluedWords$Kinship", "taken", "I", false)
def tyX4 : Nat → FieldType := fun k => match k with
  | 0 => .object "GluedWords$Walk"
  | 1 => .object "GluedWords$Walk"
  | 2 => .object "GluedWords$Walk"
  | 3 => .object "GluedWords$Walk"
  | 4 => .object "GluedWords$Carrier"
  | 5 => .array .int
  | 6 => .int
  | _ => .int
abbrev wsX40 : List Cond := u_ws RX4 TX4 8
theorem nmX4 : ∀ a, a < 8 → ∀ b, b < 8 → a ≠ b → (TX4 a).2.1 ≠ (TX4 b).2.1 := by decide +kernel
theorem tyX4_ok : ∀ k, k < 8 → parseFieldDescriptor (TX4 k).2.2.1 = some (tyX4 k) := by decide +kernel
abbrev cX4_start : ByteArray := prog_6_method_2_code
def yX4_start : MethodName := ⟨RX4, "start", "(LGluedWords$Store;LGluedWords$Walk;)V"⟩
abbrev cX4_begunBehind : ByteArray := prog_6_method_3_code
def yX4_begunBehind : MethodName := ⟨RX4, "begunBehind", "()I"⟩
abbrev cX4_numberTaken : ByteArray := prog_6_method_4_code
def yX4_numberTaken : MethodName := ⟨RX4, "numberTaken", "()I"⟩
abbrev cX4_reaches : ByteArray := prog_6_method_5_code
def yX4_reaches : MethodName := ⟨RX4, "reaches", "(LGluedWords$Store;LGluedWords$Walk;)Z"⟩
abbrev cX4_reachesSteps : ByteArray := prog_6_method_6_code
def yX4_reachesSteps : MethodName := ⟨RX4, "reachesSteps", "(LGluedWords$Store;)Z"⟩
abbrev cX4_findNumber : ByteArray := prog_6_method_7_code
def yX4_findNumber : MethodName := ⟨RX4, "findNumber", "(LGluedWords$Store;)Z"⟩
abbrev cX4_reachesNumber : ByteArray := prog_6_method_8_code
def yX4_reachesNumber : MethodName := ⟨RX4, "reachesNumber", "(LGluedWords$Store;)Z"⟩
abbrev cX4_farOf : ByteArray := prog_6_method_9_code
def yX4_farOf : MethodName := ⟨RX4, "farOf", "(I)I"⟩
abbrev cX4_setFar : ByteArray := prog_6_method_10_code
def yX4_setFar : MethodName := ⟨RX4, "setFar", "(II)V"⟩
abbrev cX4_spread : ByteArray := prog_6_method_11_code
def yX4_spread : MethodName := ⟨RX4, "spread", "(LGluedWords$Store;)V"⟩
def RX5 : String := "GluedWords$Reader"
def TX5 : u_T := fun k => match k with
  | 0 => ("GluedWords$Reader", "tokens", "LGluedWords$Tokens;", true)
  | 1 => ("GluedWords$Reader", "draft", "LGluedWords$Store;", true)
  | 2 => ("GluedWords$Reader", "walk", "LGluedWords$Walk;", true)
  | 3 => ("GluedWords$Reader", "hasRead", "Z", false)
  | 4 => ("GluedWords$Reader", "at", "I", false)
  | 5 => ("GluedWords$Reader", "here", "I", false)
  | 6 => ("GluedWords$Reader", "lines", "I", false)
  | 7 => ("GluedWords$Reader", "faultKind", "I", false)
  | 8 => ("GluedWords$Reader", "faultPlace", "I", false)
  | _ => ("GluedWords$Reader", "faultLine", "I", false)
def tyX5 : Nat → FieldType := fun k => match k with
  | 0 => .object "GluedWords$Tokens"
  | 1 => .object "GluedWords$Store"
  | 2 => .object "GluedWords$Walk"
  | 3 => .boolean
  | 4 => .int
  | 5 => .int
  | 6 => .int
  | 7 => .int
  | 8 => .int
  | _ => .int
abbrev wsX50 : List Cond := u_ws RX5 TX5 10
theorem nmX5 : ∀ a, a < 10 → ∀ b, b < 10 → a ≠ b → (TX5 a).2.1 ≠ (TX5 b).2.1 := by decide +kernel
theorem tyX5_ok : ∀ k, k < 10 → parseFieldDescriptor (TX5 k).2.2.1 = some (tyX5 k) := by decide +kernel
abbrev cX5_result : ByteArray := prog_7_method_3_code
def yX5_result : MethodName := ⟨RX5, "result", "()LGluedWords$Store;"⟩
abbrev cX5_tellFault : ByteArray := prog_7_method_4_code
def yX5_tellFault : MethodName := ⟨RX5, "tellFault", "(I)I"⟩
abbrev cX5_kind : ByteArray := prog_7_method_5_code
def yX5_kind : MethodName := ⟨RX5, "kind", "()I"⟩
abbrev cX5_value : ByteArray := prog_7_method_6_code
def yX5_value : MethodName := ⟨RX5, "value", "()I"⟩
abbrev cX5_passes : ByteArray := prog_7_method_7_code
def yX5_passes : MethodName := ⟨RX5, "passes", "(ZI)Z"⟩
abbrev cX5_stands : ByteArray := prog_7_method_8_code
def yX5_stands : MethodName := ⟨RX5, "stands", "(I)Z"⟩
abbrev cX5_endsLine : ByteArray := prog_7_method_9_code
def yX5_endsLine : MethodName := ⟨RX5, "endsLine", "()Z"⟩
abbrev cX5_readVertex : ByteArray := prog_7_method_10_code
def yX5_readVertex : MethodName := ⟨RX5, "readVertex", "()V"⟩
abbrev cX5_readEdge : ByteArray := prog_7_method_11_code
def yX5_readEdge : MethodName := ⟨RX5, "readEdge", "()V"⟩
abbrev cX5_readPlace : ByteArray := prog_7_method_12_code
def yX5_readPlace : MethodName := ⟨RX5, "readPlace", "()I"⟩
abbrev cX5_readIndex : ByteArray := prog_7_method_13_code
def yX5_readIndex : MethodName := ⟨RX5, "readIndex", "(II)I"⟩
abbrev cX5_readWalk : ByteArray := prog_7_method_14_code
def yX5_readWalk : MethodName := ⟨RX5, "readWalk", "()V"⟩
abbrev cX5_isSign : ByteArray := prog_7_method_15_code
def yX5_isSign : MethodName := ⟨RX5, "isSign", "()Z"⟩
abbrev cX5_readNumber : ByteArray := prog_7_method_16_code
def yX5_readNumber : MethodName := ⟨RX5, "readNumber", "()V"⟩
abbrev cX5_readStep : ByteArray := prog_7_method_17_code
def yX5_readStep : MethodName := ⟨RX5, "readStep", "()V"⟩
def RX6 : String := "GluedWords$Shape"
def TX6 : u_T := fun k => match k with
  | 0 => ("GluedWords$Shape", "leasts", "[I", true)
  | 1 => ("GluedWords$Shape", "over", "J", false)
  | _ => ("GluedWords$Shape", "under", "J", false)
def tyX6 : Nat → FieldType := fun k => match k with
  | 0 => .array .int
  | 1 => .long
  | _ => .long
abbrev wsX60 : List Cond := u_ws RX6 TX6 3
theorem nmX6 : ∀ a, a < 3 → ∀ b, b < 3 → a ≠ b → (TX6 a).2.1 ≠ (TX6 b).2.1 := by decide +kernel
theorem tyX6_ok : ∀ k, k < 3 → parseFieldDescriptor (TX6 k).2.2.1 = some (tyX6 k) := by decide +kernel
abbrev cX6_leastOf : ByteArray := prog_8_method_2_code
def yX6_leastOf : MethodName := ⟨RX6, "leastOf", "(I)I"⟩
abbrev cX6_setLeast : ByteArray := prog_8_method_3_code
def yX6_setLeast : MethodName := ⟨RX6, "setLeast", "(II)V"⟩
abbrev cX6_join : ByteArray := prog_8_method_4_code
def yX6_join : MethodName := ⟨RX6, "join", "(LGluedWords$Store;)V"⟩
abbrev cX6_parts : ByteArray := prog_8_method_5_code
def yX6_parts : MethodName := ⟨RX6, "parts", "(LGluedWords$Store;)I"⟩
abbrev cX6_centralOrder : ByteArray := prog_8_method_6_code
def yX6_centralOrder : MethodName := ⟨RX6, "centralOrder", "(LGluedWords$Store;I)I"⟩
abbrev cX6_weigh : ByteArray := prog_8_method_7_code
def yX6_weigh : MethodName := ⟨RX6, "weigh", "(LGluedWords$Store;)V"⟩
abbrev cX6_addPart : ByteArray := prog_8_method_8_code
def yX6_addPart : MethodName := ⟨RX6, "addPart", "(JJ)V"⟩
abbrev cX6_above : ByteArray := prog_8_method_9_code
def yX6_above : MethodName := ⟨RX6, "above", "()J"⟩
abbrev cX6_below : ByteArray := prog_8_method_10_code
def yX6_below : MethodName := ⟨RX6, "below", "()J"⟩
def RX7 : String := "GluedWords$Store"
def TX7 : u_T := fun k => match k with
  | _ => ("GluedWords$Store", "cells", "[I", true)
abbrev wsX70 : List Cond := u_ws RX7 TX7 1
abbrev cX7_cell : ByteArray := prog_9_method_2_code
def yX7_cell : MethodName := ⟨RX7, "cell", "(I)I"⟩
abbrev cX7_put : ByteArray := prog_9_method_3_code
def yX7_put : MethodName := ⟨RX7, "put", "(II)V"⟩
abbrev cX7_clear : ByteArray := prog_9_method_4_code
def yX7_clear : MethodName := ⟨RX7, "clear", "()V"⟩
abbrev cX7_copyFrom : ByteArray := prog_9_method_5_code
def yX7_copyFrom : MethodName := ⟨RX7, "copyFrom", "(LGluedWords$Store;)V"⟩
abbrev cX7_vertices : ByteArray := prog_9_method_6_code
def yX7_vertices : MethodName := ⟨RX7, "vertices", "()I"⟩
abbrev cX7_edges : ByteArray := prog_9_method_7_code
def yX7_edges : MethodName := ⟨RX7, "edges", "()I"⟩
abbrev cX7_words : ByteArray := prog_9_method_8_code
def yX7_words : MethodName := ⟨RX7, "words", "()I"⟩
abbrev cX7_isFull : ByteArray := prog_9_method_9_code
def yX7_isFull : MethodName := ⟨RX7, "isFull", "()Z"⟩
abbrev cX7_hasVertex : ByteArray := prog_9_method_10_code
def yX7_hasVertex : MethodName := ⟨RX7, "hasVertex", "(I)Z"⟩
abbrev cX7_hasEdge : ByteArray := prog_9_method_11_code
def yX7_hasEdge : MethodName := ⟨RX7, "hasEdge", "(I)Z"⟩
abbrev cX7_hasWord : ByteArray := prog_9_method_12_code
def yX7_hasWord : MethodName := ⟨RX7, "hasWord", "(I)Z"⟩
abbrev cX7_orderAt : ByteArray := prog_9_method_13_code
def yX7_orderAt : MethodName := ⟨RX7, "orderAt", "(I)I"⟩
abbrev cX7_edgePart : ByteArray := prog_9_method_14_code
def yX7_edgePart : MethodName := ⟨RX7, "edgePart", "(II)I"⟩
abbrev cX7_common : ByteArray := prog_9_method_15_code
def yX7_common : MethodName := ⟨RX7, "common", "(I)I"⟩
abbrev cX7_stepKinds : ByteArray := prog_9_method_16_code
def yX7_stepKinds : MethodName := ⟨RX7, "stepKinds", "()I"⟩
abbrev cX7_fromVertex : ByteArray := prog_9_method_17_code
def yX7_fromVertex : MethodName := ⟨RX7, "fromVertex", "(I)I"⟩
abbrev cX7_fromIndex : ByteArray := prog_9_method_18_code
def yX7_fromIndex : MethodName := ⟨RX7, "fromIndex", "(I)I"⟩
abbrev cX7_toVertex : ByteArray := prog_9_method_19_code
def yX7_toVertex : MethodName := ⟨RX7, "toVertex", "(I)I"⟩
abbrev cX7_toIndex : ByteArray := prog_9_method_20_code
def yX7_toIndex : MethodName := ⟨RX7, "toIndex", "(I)I"⟩
abbrev cX7_widthBehind : ByteArray := prog_9_method_21_code
def yX7_widthBehind : MethodName := ⟨RX7, "widthBehind", "(II)I"⟩
abbrev cX7_endOf : ByteArray := prog_9_method_22_code
def yX7_endOf : MethodName := ⟨RX7, "endOf", "(LGluedWords$Walk;)I"⟩
abbrev cX7_isLoop : ByteArray := prog_9_method_23_code
def yX7_isLoop : MethodName := ⟨RX7, "isLoop", "(LGluedWords$Walk;)Z"⟩
abbrev cX7_addVertex : ByteArray := prog_9_method_24_code
def yX7_addVertex : MethodName := ⟨RX7, "addVertex", "(I)V"⟩
abbrev cX7_addEdge : ByteArray := prog_9_method_25_code
def yX7_addEdge : MethodName := ⟨RX7, "addEdge", "(IIII)V"⟩
abbrev cX7_addWord : ByteArray := prog_9_method_26_code
def yX7_addWord : MethodName := ⟨RX7, "addWord", "(LGluedWords$Walk;)I"⟩
abbrev cX7_writeWord : ByteArray := prog_9_method_27_code
def yX7_writeWord : MethodName := ⟨RX7, "writeWord", "(ILGluedWords$Walk;)V"⟩
abbrev cX7_readWord : ByteArray := prog_9_method_28_code
def yX7_readWord : MethodName := ⟨RX7, "readWord", "(ILGluedWords$Walk;)Z"⟩
abbrev cX7_removeWord : ByteArray := prog_9_method_29_code
def yX7_removeWord : MethodName := ⟨RX7, "removeWord", "(I)V"⟩
def RX8 : String := "GluedWords$Teller"
def TX8 : u_T := fun k => match k with
  | 0 => ("GluedWords$Teller", "bytes", "[B", true)
  | _ => ("GluedWords$Teller", "count", "I", false)
def tyX8 : Nat → FieldType := fun k => match k with
  | 0 => .array .byte
  | _ => .int
abbrev wsX80 : List Cond := u_ws RX8 TX8 2
theorem nmX8 : ∀ a, a < 2 → ∀ b, b < 2 → a ≠ b → (TX8 a).2.1 ≠ (TX8 b).2.1 := by decide +kernel
theorem tyX8_ok : ∀ k, k < 2 → parseFieldDescriptor (TX8 k).2.2.1 = some (tyX8 k) := by decide +kernel
abbrev cX8_size : ByteArray := prog_10_method_2_code
def yX8_size : MethodName := ⟨RX8, "size", "()I"⟩
abbrev cX8_byteAt : ByteArray := prog_10_method_3_code
def yX8_byteAt : MethodName := ⟨RX8, "byteAt", "(I)I"⟩
abbrev cX8_tellWord : ByteArray := prog_10_method_4_code
def yX8_tellWord : MethodName := ⟨RX8, "tellWord", "(LGluedWords$Walk;)I"⟩
abbrev cX8_put : ByteArray := prog_10_method_5_code
def yX8_put : MethodName := ⟨RX8, "put", "(C)V"⟩
abbrev cX8_putNumber : ByteArray := prog_10_method_6_code
def yX8_putNumber : MethodName := ⟨RX8, "putNumber", "(I)V"⟩
def RX9 : String := "GluedWords$Tokens"
def TX9 : u_T := fun k => match k with
  | 0 => ("GluedWords$Tokens", "kinds", "[I", true)
  | 1 => ("GluedWords$Tokens", "places", "[I", true)
  | 2 => ("GluedWords$Tokens", "values", "[I", true)
  | 3 => ("GluedWords$Tokens", "count", "I", false)
  | 4 => ("GluedWords$Tokens", "text", "[B", false)
  | _ => ("GluedWords$Tokens", "size", "I", false)
abbrev wsX90 : List Cond := u_ws RX9 TX9 6
abbrev cX9_kindAt : ByteArray := prog_11_method_2_code
def yX9_kindAt : MethodName := ⟨RX9, "kindAt", "(I)I"⟩
abbrev cX9_placeAt : ByteArray := prog_11_method_3_code
def yX9_placeAt : MethodName := ⟨RX9, "placeAt", "(I)I"⟩
abbrev cX9_valueAt : ByteArray := prog_11_method_4_code
def yX9_valueAt : MethodName := ⟨RX9, "valueAt", "(I)I"⟩
abbrev cX9_byteAt : ByteArray := prog_11_method_6_code
def yX9_byteAt : MethodName := ⟨RX9, "byteAt", "(I)I"⟩
abbrev cX9_isLetter : ByteArray := prog_11_method_7_code
def yX9_isLetter : MethodName := ⟨RX9, "isLetter", "(I)Z"⟩
abbrev cX9_isDigit : ByteArray := prog_11_method_8_code
def yX9_isDigit : MethodName := ⟨RX9, "isDigit", "(I)Z"⟩
abbrev cX9_endOfToken : ByteArray := prog_11_method_9_code
def yX9_endOfToken : MethodName := ⟨RX9, "endOfToken", "(I)I"⟩
abbrev cX9_signOf : ByteArray := prog_11_method_12_code
def yX9_signOf : MethodName := ⟨RX9, "signOf", "(I)I"⟩
abbrev cX9_numberIn : ByteArray := prog_11_method_14_code
def yX9_numberIn : MethodName := ⟨RX9, "numberIn", "(II)I"⟩
def RX10 : String := "GluedWords$Walk"
def TX10 : u_T := fun k => match k with
  | 0 => ("GluedWords$Walk", "numbers", "[I", true)
  | 1 => ("GluedWords$Walk", "marches", "[I", true)
  | 2 => ("GluedWords$Walk", "beginning", "I", false)
  | _ => ("GluedWords$Walk", "count", "I", false)
def tyX10 : Nat → FieldType := fun k => match k with
  | 0 => .array .int
  | 1 => .array .int
  | 2 => .int
  | _ => .int
abbrev wsX100 : List Cond := u_ws RX10 TX10 4
theorem nmX10 : ∀ a, a < 4 → ∀ b, b < 4 → a ≠ b → (TX10 a).2.1 ≠ (TX10 b).2.1 := by decide +kernel
theorem tyX10_ok : ∀ k, k < 4 → parseFieldDescriptor (TX10 k).2.2.1 = some (tyX10 k) := by decide +kernel
abbrev cX10_start : ByteArray := prog_12_method_2_code
def yX10_start : MethodName := ⟨RX10, "start", "(II)V"⟩
abbrev cX10_begin : ByteArray := prog_12_method_3_code
def yX10_begin : MethodName := ⟨RX10, "begin", "()I"⟩
abbrev cX10_size : ByteArray := prog_12_method_4_code
def yX10_size : MethodName := ⟨RX10, "size", "()I"⟩
abbrev cX10_numberAt : ByteArray := prog_12_method_5_code
def yX10_numberAt : MethodName := ⟨RX10, "numberAt", "(I)I"⟩
abbrev cX10_stepAt : ByteArray := prog_12_method_6_code
def yX10_stepAt : MethodName := ⟨RX10, "stepAt", "(I)I"⟩
abbrev cX10_lastNumber : ByteArray := prog_12_method_7_code
def yX10_lastNumber : MethodName := ⟨RX10, "lastNumber", "()I"⟩
abbrev cX10_lastStep : ByteArray := prog_12_method_8_code
def yX10_lastStep : MethodName := ⟨RX10, "lastStep", "()I"⟩
abbrev cX10_putNumber : ByteArray := prog_12_method_9_code
def yX10_putNumber : MethodName := ⟨RX10, "putNumber", "(II)V"⟩
abbrev cX10_addLast : ByteArray := prog_12_method_10_code
def yX10_addLast : MethodName := ⟨RX10, "addLast", "(II)V"⟩
abbrev cX10_push : ByteArray := prog_12_method_11_code
def yX10_push : MethodName := ⟨RX10, "push", "(II)V"⟩
abbrev cX10_pop : ByteArray := prog_12_method_12_code
def yX10_pop : MethodName := ⟨RX10, "pop", "()V"⟩
abbrev cX10_sameSteps : ByteArray := prog_12_method_13_code
def yX10_sameSteps : MethodName := ⟨RX10, "sameSteps", "(LGluedWords$Walk;)Z"⟩
abbrev cX10_sameAs : ByteArray := prog_12_method_14_code
def yX10_sameAs : MethodName := ⟨RX10, "sameAs", "(LGluedWords$Walk;)Z"⟩
def RX11 : String := "GluedWords"
def TX11 : u_T := fun k => match k with
  | 0 => ("GluedWords", "now", "LGluedWords$Store;", true)
  | 1 => ("GluedWords", "history", "LGluedWords$History;", true)
  | 2 => ("GluedWords", "markedStores", "[LGluedWords$Store;", true)
  | 3 => ("GluedWords", "markedHistories", "[LGluedWords$History;", true)
  | 4 => ("GluedWords", "markCount", "I", false)
  | 5 => ("GluedWords", "latest", "I", false)
  | 6 => ("GluedWords", "tape", "[B", true)
  | 7 => ("GluedWords", "tapeSize", "I", false)
  | 8 => ("GluedWords", "reader", "LGluedWords$Reader;", true)
  | 9 => ("GluedWords", "teller", "LGluedWords$Teller;", true)
  | 10 => ("GluedWords", "one", "LGluedWords$Walk;", true)
  | 11 => ("GluedWords", "two", "LGluedWords$Walk;", true)
  | 12 => ("GluedWords", "row", "LGluedWords$Walk;", true)
  | 13 => ("GluedWords", "otherRow", "LGluedWords$Walk;", true)
  | 14 => ("GluedWords", "spare", "LGluedWords$Walk;", true)
  | 15 => ("GluedWords", "kinship", "LGluedWords$Kinship;", true)
  | 16 => ("GluedWords", "carrier", "LGluedWords$Carrier;", true)
  | 17 => ("GluedWords", "shape", "LGluedWords$Shape;", true)
  | _ => ("GluedWords", "counts", "LGluedWords$Counts;", true)
def tyX11 : Nat → FieldType := fun k => match k with
  | 0 => .object "GluedWords$Store"
  | 1 => .object "GluedWords$History"
  | 2 => .array (.object "GluedWords$Store")
  | 3 => .array (.object "GluedWords$History")
  | 4 => .int
  | 5 => .int
  | 6 => .array .byte
  | 7 => .int
  | 8 => .object "GluedWords$Reader"
  | 9 => .object "GluedWords$Teller"
  | 10 => .object "GluedWords$Walk"
  | 11 => .object "GluedWords$Walk"
  | 12 => .object "GluedWords$Walk"
  | 13 => .object "GluedWords$Walk"
  | 14 => .object "GluedWords$Walk"
  | 15 => .object "GluedWords$Kinship"
  | 16 => .object "GluedWords$Carrier"
  | 17 => .object "GluedWords$Shape"
  | _ => .object "GluedWords$Counts"
abbrev wsX110 : List Cond := u_ws RX11 TX11 19
theorem nmX11 : ∀ a, a < 19 → ∀ b, b < 19 → a ≠ b → (TX11 a).2.1 ≠ (TX11 b).2.1 := by decide +kernel
theorem tyX11_ok : ∀ k, k < 19 → parseFieldDescriptor (TX11 k).2.2.1 = some (tyX11 k) := by decide +kernel
abbrev cX11_status : ByteArray := prog_1_method_2_code
def yX11_status : MethodName := ⟨RX11, "status", "()I"⟩
abbrev cX11_feed : ByteArray := prog_1_method_3_code
def yX11_feed : MethodName := ⟨RX11, "feed", "(IIIII)I"⟩
abbrev cX11_many : ByteArray := prog_1_method_6_code
def yX11_many : MethodName := ⟨RX11, "many", "(I)I"⟩
abbrev cX11_order : ByteArray := prog_1_method_7_code
def yX11_order : MethodName := ⟨RX11, "order", "(I)I"⟩
abbrev cX11_edge : ByteArray := prog_1_method_8_code
def yX11_edge : MethodName := ⟨RX11, "edge", "(II)I"⟩
abbrev cX11_word : ByteArray := prog_1_method_9_code
def yX11_word : MethodName := ⟨RX11, "word", "(II)I"⟩
abbrev cX11_number : ByteArray := prog_1_method_10_code
def yX11_number : MethodName := ⟨RX11, "number", "(II)I"⟩
abbrev cX11_step : ByteArray := prog_1_method_11_code
def yX11_step : MethodName := ⟨RX11, "step", "(II)I"⟩
abbrev cX11_take : ByteArray := prog_1_method_12_code
def yX11_take : MethodName := ⟨RX11, "take", "(II)I"⟩
abbrev cX11_form : ByteArray := prog_1_method_13_code
def yX11_form : MethodName := ⟨RX11, "form", "(I)I"⟩
abbrev cX11_times : ByteArray := prog_1_method_14_code
def yX11_times : MethodName := ⟨RX11, "times", "(II)I"⟩
abbrev cX11_turned : ByteArray := prog_1_method_15_code
def yX11_turned : MethodName := ⟨RX11, "turned", "(I)I"⟩
abbrev cX11_power : ByteArray := prog_1_method_16_code
def yX11_power : MethodName := ⟨RX11, "power", "(II)I"⟩
abbrev cX11_core : ByteArray := prog_1_method_17_code
def yX11_core : MethodName := ⟨RX11, "core", "(I)I"⟩
abbrev cX11_spell : ByteArray := prog_1_method_18_code
def yX11_spell : MethodName := ⟨RX11, "spell", "(III)I"⟩
abbrev cX11_drop : ByteArray := prog_1_method_19_code
def yX11_drop : MethodName := ⟨RX11, "drop", "(I)I"⟩
abbrev cX11_undo : ByteArray := prog_1_method_20_code
def yX11_undo : MethodName := ⟨RX11, "undo", "()I"⟩
abbrev cX11_mark : ByteArray := prog_1_method_21_code
def yX11_mark : MethodName := ⟨RX11, "mark", "()I"⟩
abbrev cX11_back : ByteArray := prog_1_method_22_code
def yX11_back : MethodName := ⟨RX11, "back", "()I"⟩
abbrev cX11_alike : ByteArray := prog_1_method_23_code
def yX11_alike : MethodName := ⟨RX11, "alike", "(II)I"⟩
abbrev cX11_steps : ByteArray := prog_1_method_24_code
def yX11_steps : MethodName := ⟨RX11, "steps", "(I)I"⟩
abbrev cX11_length : ByteArray := prog_1_method_25_code
def yX11_length : MethodName := ⟨RX11, "length", "(I)I"⟩
abbrev cX11_orderOf : ByteArray := prog_1_method_26_code
def yX11_orderOf : MethodName := ⟨RX11, "orderOf", "(I)I"⟩
abbrev cX11_kin : ByteArray := prog_1_method_27_code
def yX11_kin : MethodName := ⟨RX11, "kin", "(II)I"⟩
abbrev cX11_kinBy : ByteArray := prog_1_method_28_code
def yX11_kinBy : MethodName := ⟨RX11, "kinBy", "(III)I"⟩
abbrev cX11_kins : ByteArray := prog_1_method_29_code
def yX11_kins : MethodName := ⟨RX11, "kins", "(I)I"⟩
abbrev cX11_net : ByteArray := prog_1_method_30_code
def yX11_net : MethodName := ⟨RX11, "net", "(II)I"⟩
abbrev cX11_central : ByteArray := prog_1_method_31_code
def yX11_central : MethodName := ⟨RX11, "central", "(II)I"⟩
abbrev cX11_centre : ByteArray := prog_1_method_32_code
def yX11_centre : MethodName := ⟨RX11, "centre", "(I)I"⟩
abbrev cX11_having : ByteArray := prog_1_method_33_code
def yX11_having : MethodName := ⟨RX11, "having", "(II)I"⟩
abbrev cX11_root : ByteArray := prog_1_method_34_code
def yX11_root : MethodName := ⟨RX11, "root", "(I)I"⟩
abbrev cX11_swaps : ByteArray := prog_1_method_35_code
def yX11_swaps : MethodName := ⟨RX11, "swaps", "(II)I"⟩
abbrev cX11_alikes : ByteArray := prog_1_method_36_code
def yX11_alikes : MethodName := ⟨RX11, "alikes", "(I)I"⟩
abbrev cX11_twin : ByteArray := prog_1_method_37_code
def yX11_twin : MethodName := ⟨RX11, "twin", "(I)I"⟩
abbrev cX11_apart : ByteArray := prog_1_method_38_code
def yX11_apart : MethodName := ⟨RX11, "apart", "(II)I"⟩
abbrev cX11_moves : ByteArray := prog_1_method_39_code
def yX11_moves : MethodName := ⟨RX11, "moves", "(II)I"⟩
abbrev cX11_way : ByteArray := prog_1_method_40_code
def yX11_way : MethodName := ⟨RX11, "way", "(III)I"⟩
abbrev cX11_holds : ByteArray := prog_1_method_41_code
def yX11_holds : MethodName := ⟨RX11, "holds", "(II)J"⟩
abbrev cX11_axis : ByteArray := prog_1_method_42_code
def yX11_axis : MethodName := ⟨RX11, "axis", "(II)I"⟩
abbrev cX11_ball : ByteArray := prog_1_method_43_code
def yX11_ball : MethodName := ⟨RX11, "ball", "(II)J"⟩
abbrev cX11_sphere : ByteArray := prog_1_method_44_code
def yX11_sphere : MethodName := ⟨RX11, "sphere", "(II)J"⟩
abbrev cX11_listed : ByteArray := prog_1_method_45_code
def yX11_listed : MethodName := ⟨RX11, "listed", "(I)J"⟩
abbrev cX11_near : ByteArray := prog_1_method_46_code
def yX11_near : MethodName := ⟨RX11, "near", "(II)I"⟩
abbrev cX11_meet : ByteArray := prog_1_method_47_code
def yX11_meet : MethodName := ⟨RX11, "meet", "(I)I"⟩
abbrev cX11_tell : ByteArray := prog_1_method_48_code
def yX11_tell : MethodName := ⟨RX11, "tell", "(I)I"⟩
abbrev cX11_out : ByteArray := prog_1_method_49_code
def yX11_out : MethodName := ⟨RX11, "out", "(I)I"⟩
abbrev cX11_chi : ByteArray := prog_1_method_50_code
def yX11_chi : MethodName := ⟨RX11, "chi", "(I)I"⟩
abbrev cX11_fail : ByteArray := prog_1_method_51_code
def yX11_fail : MethodName := ⟨RX11, "fail", "(I)I"⟩
abbrev cX11_answer : ByteArray := prog_1_method_52_code
def yX11_answer : MethodName := ⟨RX11, "answer", "(I)I"⟩
abbrev cX11_answerLong : ByteArray := prog_1_method_53_code
def yX11_answerLong : MethodName := ⟨RX11, "answerLong", "(J)J"⟩
abbrev cX11_keep : ByteArray := prog_1_method_55_code
def yX11_keep : MethodName := ⟨RX11, "keep", "(LGluedWords$Walk;)I"⟩
abbrev cX11_readTwo : ByteArray := prog_1_method_56_code
def yX11_readTwo : MethodName := ⟨RX11, "readTwo", "(II)Z"⟩
abbrev cX11_readLoop : ByteArray := prog_1_method_57_code
def yX11_readLoop : MethodName := ⟨RX11, "readLoop", "(I)I"⟩
abbrev cX11_readTwoLoops : ByteArray := prog_1_method_58_code
def yX11_readTwoLoops : MethodName := ⟨RX11, "readTwoLoops", "(II)I"⟩
abbrev cX11_cannotGrowFromLoop : ByteArray := prog_1_method_59_code
def yX11_cannotGrowFromLoop : MethodName := ⟨RX11, "cannotGrowFromLoop", "(I)I"⟩
abbrev cX11_readCore : ByteArray := prog_1_method_60_code
def yX11_readCore : MethodName := ⟨RX11, "readCore", "(I)I"⟩
abbrev cX11_readWay : ByteArray := prog_1_method_61_code
def yX11_readWay : MethodName := ⟨RX11, "readWay", "(II)I"⟩
abbrev cX11_isForm : ByteArray := prog_1_method_62_code
def yX11_isForm : MethodName := ⟨RX11, "isForm", "(LGluedWords$Walk;LGluedWords$Walk;)Z"⟩
abbrev cX11_bit : ByteArray := prog_1_method_63_code
def yX11_bit : MethodName := ⟨RX11, "bit", "(Z)I"⟩
abbrev cX11_rest : ByteArray := prog_1_method_64_code
def yX11_rest : MethodName := ⟨RX11, "rest", "(II)I"⟩
abbrev cX11_share : ByteArray := prog_1_method_65_code
def yX11_share : MethodName := ⟨RX11, "share", "(II)I"⟩
abbrev cX11_greatestDivisor : ByteArray := prog_1_method_66_code
def yX11_greatestDivisor : MethodName := ⟨RX11, "greatestDivisor", "(JJ)J"⟩
abbrev cX11_orderIn : ByteArray := prog_1_method_67_code
def yX11_orderIn : MethodName := ⟨RX11, "orderIn", "(II)I"⟩
abbrev cX11_atMostTold : ByteArray := prog_1_method_68_code
def yX11_atMostTold : MethodName := ⟨RX11, "atMostTold", "(J)J"⟩
abbrev cX11_opposite : ByteArray := prog_1_method_69_code
def yX11_opposite : MethodName := ⟨RX11, "opposite", "(I)I"⟩
abbrev cX11_isBackwards : ByteArray := prog_1_method_70_code
def yX11_isBackwards : MethodName := ⟨RX11, "isBackwards", "(I)Z"⟩
def RX12 : String := "GluedWordsModel"
def TX12 : u_T := fun k => match k with
  | 0 => ("GluedWordsModel", "all", "[I", true)
  | 1 => ("GluedWordsModel", "status", "I", false)
  | 2 => ("GluedWordsModel", "acts", "I", false)
  | 3 => ("GluedWordsModel", "marks", "I", false)
  | 4 => ("GluedWordsModel", "hand", "[[I", true)
  | 5 => ("GluedWordsModel", "pinches", "I", false)
  | 6 => ("GluedWordsModel", "long1", "[I", true)
  | 7 => ("GluedWordsModel", "long2", "[I", true)
  | 8 => ("GluedWordsModel", "tape", "[B", true)
  | 9 => ("GluedWordsModel", "text", "[B", true)
  | 10 => ("GluedWordsModel", "taped", "I", false)
  | 11 => ("GluedWordsModel", "size", "I", false)
  | 12 => ("GluedWordsModel", "token", "I", false)
  | 13 => ("GluedWordsModel", "begin", "I", false)
  | 14 => ("GluedWordsModel", "end0", "I", false)
  | 15 => ("GluedWordsModel", "value", "I", false)
  | 16 => ("GluedWordsModel", "faults", "I", false)
  | 17 => ("GluedWordsModel", "faultPlace", "I", false)
  | 18 => ("GluedWordsModel", "faultLine", "I", false)
  | 19 => ("GluedWordsModel", "faultKind", "I", false)
  | 20 => ("GluedWordsModel", "lines", "I", false)
  | 21 => ("GluedWordsModel", "kinFirst", "I", false)
  | 22 => ("GluedWordsModel", "kinNumber", "I", false)
  | 23 => ("GluedWordsModel", "queue", "[I", true)
  | 24 => ("GluedWordsModel", "depth", "[I", true)
  | 25 => ("GluedWordsModel", "came", "[Z", true)
  | 26 => ("GluedWordsModel", "central", "[I", true)
  | 27 => ("GluedWordsModel", "home", "[[[J", true)
  | 28 => ("GluedWordsModel", "lies", "[J", true)
  | 29 => ("GluedWordsModel", "out", "[B", true)
  | _ => ("GluedWordsModel", "outMany", "I", false)
def RJ7 : String := "java/util/Arrays"
abbrev cJ7_fill_53178 : ByteArray := prog_20_method_103_code
def yJ7_fill_53178 : MethodName := ⟨RJ7, "fill", "([II)V"⟩
theorem dX0_aim_0 : decode cX0_aim 0 = .ok (.aload_n 0, 1) := by decide +kernel
theorem dX0_aim_1 : decode cX0_aim 1 = .ok (.aload_n 2, 1) := by decide +kernel
theorem dX0_aim_2 : decode cX0_aim 2 = .ok (.putfield 28, 3) := by decide +kernel
theorem dX0_aim_5 : decode cX0_aim 5 = .ok (.iconst 0, 1) := by decide +kernel
theorem dX0_aim_6 : decode cX0_aim 6 = .ok (.istore_n 3, 1) := by decide +kernel
theorem dX0_aim_7 : decode cX0_aim 7 = .ok (.iload_n 3, 1) := by decide +kernel
theorem dX0_aim_8 : decode cX0_aim 8 = .ok (.aload_n 2, 1) := by decide +kernel
theorem dX0_aim_9 : decode cX0_aim 9 = .ok (.invokevirtual 31, 3) := by decide +kernel
theorem dX0_aim_12 : decode cX0_aim 12 = .ok (.if_icmp .ge 62, 3) := by decide +kernel
theorem dX0_aim_15 : decode cX0_aim 15 = .ok (.iload_n 3, 1) := by decide +kernel
theorem dX0_aim_16 : decode cX0_aim 16 = .ok (.bipush 24, 2) := by decide +kernel
theorem dX0_aim_18 : decode cX0_aim 18 = .ok (.if_icmp .ge 56, 3) := by decide +kernel
theorem dX0_aim_21 : decode cX0_aim 21 = .ok (.aload_n 2, 1) := by decide +kernel
theorem dX0_aim_22 : decode cX0_aim 22 = .ok (.iload_n 3, 1) := by decide +kernel
theorem dX0_aim_23 : decode cX0_aim 23 = .ok (.invokevirtual 35, 3) := by decide +kernel
theorem dX0_aim_26 : decode cX0_aim 26 = .ok (.istore 4, 2) := by decide +kernel
theorem dX0_aim_28 : decode cX0_aim 28 = .ok (.aload_n 0, 1) := by decide +kernel
theorem dX0_aim_29 : decode cX0_aim 29 = .ok (.getfield 9, 3) := by decide +kernel
theorem dX0_aim_32 : decode cX0_aim 32 = .ok (.iload_n 3, 1) := by decide +kernel
theorem dX0_aim_33 : decode cX0_aim 33 = .ok (.aload_n 1, 1) := by decide +kernel
theorem dX0_aim_34 : decode cX0_aim 34 = .ok (.iload 4, 2) := by decide +kernel
theorem dX0_aim_36 : decode cX0_aim 36 = .ok (.invokevirtual 39, 3) := by decide +kernel
theorem dX0_aim_39 : decode cX0_aim 39 = .ok (.iastore, 1) := by decide +kernel
theorem dX0_aim_40 : decode cX0_aim 40 = .ok (.aload_n 0, 1) := by decide +kernel
theorem dX0_aim_41 : decode cX0_aim 41 = .ok (.getfield 15, 3) := by decide +kernel
theorem dX0_aim_44 : decode cX0_aim 44 = .ok (.iload_n 3, 1) := by decide +kernel
theorem dX0_aim_45 : decode cX0_aim 45 = .ok (.aload_n 1, 1) := by decide +kernel
theorem dX0_aim_46 : decode cX0_aim 46 = .ok (.iload 4, 2) := by decide +kernel
theorem dX0_aim_48 : decode cX0_aim 48 = .ok (.invokevirtual 44, 3) := by decide +kernel
theorem dX0_aim_51 : decode cX0_aim 51 = .ok (.iastore, 1) := by decide +kernel
theorem dX0_aim_52 : decode cX0_aim 52 = .ok (.aload_n 0, 1) := by decide +kernel
theorem dX0_aim_53 : decode cX0_aim 53 = .ok (.getfield 18, 3) := by decide +kernel
theorem dX0_aim_56 : decode cX0_aim 56 = .ok (.iload_n 3, 1) := by decide +kernel
theorem dX0_aim_57 : decode cX0_aim 57 = .ok (.aload_n 1, 1) := by decide +kernel
theorem dX0_aim_58 : decode cX0_aim 58 = .ok (.aload_n 1, 1) := by decide +kernel
theorem dX0_aim_59 : decode cX0_aim 59 = .ok (.iload 4, 2) := by decide +kernel
theorem dX0_aim_61 : decode cX0_aim 61 = .ok (.invokevirtual 47, 3) := by decide +kernel
theorem dX0_aim_64 : decode cX0_aim 64 = .ok (.invokevirtual 50, 3) := by decide +kernel
theorem dX0_aim_67 : decode cX0_aim 67 = .ok (.iastore, 1) := by decide +kernel
theorem dX0_aim_68 : decode cX0_aim 68 = .ok (.iinc 3 1, 3) := by decide +kernel
theorem dX0_aim_71 : decode cX0_aim 71 = .ok (.goto (-64), 3) := by decide +kernel
theorem dX0_aim_74 : decode cX0_aim 74 = .ok (.return_, 1) := by decide +kernel
theorem dX0_hits_0 : decode cX0_hits 0 = .ok (.aload_n 1, 1) := by decide +kernel
theorem dX0_hits_1 : decode cX0_hits 1 = .ok (.iconst 0, 1) := by decide +kernel
theorem dX0_hits_2 : decode cX0_hits 2 = .ok (.invokevirtual 53, 3) := by decide +kernel
theorem dX0_hits_5 : decode cX0_hits 5 = .ok (.istore_n 2, 1) := by decide +kernel
theorem dX0_hits_6 : decode cX0_hits 6 = .ok (.iconst 0, 1) := by decide +kernel
theorem dX0_hits_7 : decode cX0_hits 7 = .ok (.istore_n 3, 1) := by decide +kernel
theorem dX0_hits_8 : decode cX0_hits 8 = .ok (.iload_n 3, 1) := by decide +kernel
theorem dX0_hits_9 : decode cX0_hits 9 = .ok (.aload_n 1, 1) := by decide +kernel
theorem dX0_hits_10 : decode cX0_hits 10 = .ok (.invokevirtual 31, 3) := by decide +kernel
theorem dX0_hits_13 : decode cX0_hits 13 = .ok (.if_icmp .ge 73, 3) := by decide +kernel
theorem dX0_hits_16 : decode cX0_hits 16 = .ok (.iload_n 3, 1) := by decide +kernel
theorem dX0_hits_17 : decode cX0_hits 17 = .ok (.bipush 24, 2) := by decide +kernel
theorem dX0_hits_19 : decode cX0_hits 19 = .ok (.if_icmp .ge 67, 3) := by decide +kernel
theorem dX0_hits_22 : decode cX0_hits 22 = .ok (.aload_n 0, 1) := by decide +kernel
theorem dX0_hits_23 : decode cX0_hits 23 = .ok (.getfield 9, 3) := by decide +kernel
theorem dX0_hits_26 : decode cX0_hits 26 = .ok (.iload_n 3, 1) := by decide +kernel
theorem dX0_hits_27 : decode cX0_hits 27 = .ok (.iaload, 1) := by decide +kernel
theorem dX0_hits_28 : decode cX0_hits 28 = .ok (.istore 4, 2) := by decide +kernel
theorem dX0_hits_30 : decode cX0_hits 30 = .ok (.iload_n 2, 1) := by decide +kernel
theorem dX0_hits_31 : decode cX0_hits 31 = .ok (.iload 4, 2) := by decide +kernel
theorem dX0_hits_33 : decode cX0_hits 33 = .ok (.invokestatic 56, 3) := by decide +kernel
theorem dX0_hits_36 : decode cX0_hits 36 = .ok (.aload_n 0, 1) := by decide +kernel
theorem dX0_hits_37 : decode cX0_hits 37 = .ok (.getfield 28, 3) := by decide +kernel
theorem dX0_hits_40 : decode cX0_hits 40 = .ok (.iload_n 3, 1) := by decide +kernel
theorem dX0_hits_41 : decode cX0_hits 41 = .ok (.invokevirtual 53, 3) := by decide +kernel
theorem dX0_hits_44 : decode cX0_hits 44 = .ok (.if_icmp .eq 5, 3) := by decide +kernel
theorem dX0_hits_47 : decode cX0_hits 47 = .ok (.iconst 0, 1) := by decide +kernel
theorem dX0_hits_48 : decode cX0_hits 48 = .ok (.ireturn, 1) := by decide +kernel
theorem dX0_hits_49 : decode cX0_hits 49 = .ok (.iload_n 2, 1) := by decide +kernel
theorem dX0_hits_50 : decode cX0_hits 50 = .ok (.iload 4, 2) := by decide +kernel
theorem dX0_hits_52 : decode cX0_hits 52 = .ok (.invokestatic 60, 3) := by decide +kernel
theorem dX0_hits_55 : decode cX0_hits 55 = .ok (.aload_n 0, 1) := by decide +kernel
theorem dX0_hits_56 : decode cX0_hits 56 = .ok (.getfield 15, 3) := by decide +kernel
theorem dX0_hits_59 : decode cX0_hits 59 = .ok (.iload_n 3, 1) := by decide +kernel
theorem dX0_hits_60 : decode cX0_hits 60 = .ok (.iaload, 1) := by decide +kernel
theorem dX0_hits_61 : decode cX0_hits 61 = .ok (.imul, 1) := by decide +kernel
theorem dX0_hits_62 : decode cX0_hits 62 = .ok (.aload_n 1, 1) := by decide +kernel
theorem dX0_hits_63 : decode cX0_hits 63 = .ok (.iload_n 3, 1) := by decide +kernel
theorem dX0_hits_64 : decode cX0_hits 64 = .ok (.iconst 1, 1) := by decide +kernel
theorem dX0_hits_65 : decode cX0_hits 65 = .ok (.iadd, 1) := by decide +kernel
theorem dX0_hits_66 : decode cX0_hits 66 = .ok (.invokevirtual 53, 3) := by decide +kernel
theorem dX0_hits_69 : decode cX0_hits 69 = .ok (.iadd, 1) := by decide +kernel
theorem dX0_hits_70 : decode cX0_hits 70 = .ok (.aload_n 0, 1) := by decide +kernel
theorem dX0_hits_71 : decode cX0_hits 71 = .ok (.getfield 18, 3) := by decide +kernel
theorem dX0_hits_74 : decode cX0_hits 74 = .ok (.iload_n 3, 1) := by decide +kernel
theorem dX0_hits_75 : decode cX0_hits 75 = .ok (.iaload, 1) := by decide +kernel
theorem dX0_hits_76 : decode cX0_hits 76 = .ok (.invokestatic 56, 3) := by decide +kernel
theorem dX0_hits_79 : decode cX0_hits 79 = .ok (.istore_n 2, 1) := by decide +kernel
theorem dX0_hits_80 : decode cX0_hits 80 = .ok (.iinc 3 1, 3) := by decide +kernel
theorem dX0_hits_83 : decode cX0_hits 83 = .ok (.goto (-75), 3) := by decide +kernel
theorem dX0_hits_86 : decode cX0_hits 86 = .ok (.iload_n 2, 1) := by decide +kernel
theorem dX0_hits_87 : decode cX0_hits 87 = .ok (.aload_n 0, 1) := by decide +kernel
theorem dX0_hits_88 : decode cX0_hits 88 = .ok (.getfield 28, 3) := by decide +kernel
theorem dX0_hits_91 : decode cX0_hits 91 = .ok (.invokevirtual 63, 3) := by decide +kernel
theorem dX0_hits_94 : decode cX0_hits 94 = .ok (.if_icmp .ne 7, 3) := by decide +kernel
theorem dX0_hits_97 : decode cX0_hits 97 = .ok (.iconst 1, 1) := by decide +kernel
theorem dX0_hits_98 : decode cX0_hits 98 = .ok (.goto 4, 3) := by decide +kernel
theorem dX0_hits_101 : decode cX0_hits 101 = .ok (.iconst 0, 1) := by decide +kernel
theorem dX0_hits_102 : decode cX0_hits 102 = .ok (.ireturn, 1) := by decide +kernel
theorem dX0_greatestRoot_0 : decode cX0_greatestRoot 0 = .ok (.aload_n 2, 1) := by decide +kernel
theorem dX0_greatestRoot_1 : decode cX0_greatestRoot 1 = .ok (.invokevirtual 31, 3) := by decide +kernel
theorem dX0_greatestRoot_4 : decode cX0_greatestRoot 4 = .ok (.istore_n 3, 1) := by decide +kernel
theorem dX0_greatestRoot_5 : decode cX0_greatestRoot 5 = .ok (.aload_n 0, 1) := by decide +kernel
theorem dX0_greatestRoot_6 : decode cX0_greatestRoot 6 = .ok (.aload_n 1, 1) := by decide +kernel
theorem dX0_greatestRoot_7 : decode cX0_greatestRoot 7 = .ok (.aload_n 2, 1) := by decide +kernel
theorem dX0_greatestRoot_8 : decode cX0_greatestRoot 8 = .ok (.invokevirtual 66, 3) := by decide +kernel
theorem dX0_greatestRoot_11 : decode cX0_greatestRoot 11 = .ok (.iload_n 3, 1) := by decide +kernel
theorem dX0_greatestRoot_12 : decode cX0_greatestRoot 12 = .ok (.istore 4, 2) := by decide +kernel
theorem dX0_greatestRoot_14 : decode cX0_greatestRoot 14 = .ok (.iload 4, 2) := by decide +kernel
theorem dX0_greatestRoot_16 : decode cX0_greatestRoot 16 = .ok (.iconst 1, 1) := by decide +kernel
theorem dX0_greatestRoot_17 : decode cX0_greatestRoot 17 = .ok (.if_icmp .le 36, 3) := by decide +kernel
theorem dX0_greatestRoot_20 : decode cX0_greatestRoot 20 = .ok (.iload_n 3, 1) := by decide +kernel
theorem dX0_greatestRoot_21 : decode cX0_greatestRoot 21 = .ok (.iload 4, 2) := by decide +kernel
theorem dX0_greatestRoot_23 : decode cX0_greatestRoot 23 = .ok (.invokestatic 56, 3) := by decide +kernel
theorem dX0_greatestRoot_26 : decode cX0_greatestRoot 26 = .ok (.ifCond .ne 21, 3) := by decide +kernel
theorem dX0_greatestRoot_29 : decode cX0_greatestRoot 29 = .ok (.aload_n 0, 1) := by decide +kernel
theorem dX0_greatestRoot_30 : decode cX0_greatestRoot 30 = .ok (.aload_n 1, 1) := by decide +kernel
theorem dX0_greatestRoot_31 : decode cX0_greatestRoot 31 = .ok (.aload_n 2, 1) := by decide +kernel
theorem dX0_greatestRoot_32 : decode cX0_greatestRoot 32 = .ok (.iload_n 3, 1) := by decide +kernel
theorem dX0_greatestRoot_33 : decode cX0_greatestRoot 33 = .ok (.iload 4, 2) := by decide +kernel
theorem dX0_greatestRoot_35 : decode cX0_greatestRoot 35 = .ok (.invokestatic 60, 3) := by decide +kernel
theorem dX0_greatestRoot_38 : decode cX0_greatestRoot 38 = .ok (.invokevirtual 70, 3) := by decide +kernel
theorem dX0_greatestRoot_41 : decode cX0_greatestRoot 41 = .ok (.ifCond .eq 6, 3) := by decide +kernel
theorem dX0_greatestRoot_44 : decode cX0_greatestRoot 44 = .ok (.iload 4, 2) := by decide +kernel
theorem dX0_greatestRoot_46 : decode cX0_greatestRoot 46 = .ok (.ireturn, 1) := by decide +kernel
theorem dX0_greatestRoot_47 : decode cX0_greatestRoot 47 = .ok (.iinc 4 (-1), 3) := by decide +kernel
theorem dX0_greatestRoot_50 : decode cX0_greatestRoot 50 = .ok (.goto (-36), 3) := by decide +kernel
theorem dX0_greatestRoot_53 : decode cX0_greatestRoot 53 = .ok (.iconst 1, 1) := by decide +kernel
theorem dX0_greatestRoot_54 : decode cX0_greatestRoot 54 = .ok (.ireturn, 1) := by decide +kernel
theorem dX0_isPower_0 : decode cX0_isPower 0 = .ok (.aload_n 0, 1) := by decide +kernel
theorem dX0_isPower_1 : decode cX0_isPower 1 = .ok (.aload_n 2, 1) := by decide +kernel
theorem dX0_isPower_2 : decode cX0_isPower 2 = .ok (.iload_n 3, 1) := by decide +kernel
theorem dX0_isPower_3 : decode cX0_isPower 3 = .ok (.invokevirtual 74, 3) := by decide +kernel
theorem dX0_isPower_6 : decode cX0_isPower 6 = .ok (.iload_n 3, 1) := by decide +kernel
theorem dX0_isPower_7 : decode cX0_isPower 7 = .ok (.iconst 1, 1) := by decide +kernel
theorem dX0_isPower_8 : decode cX0_isPower 8 = .ok (.if_icmp .lt 14, 3) := by decide +kernel
theorem dX0_isPower_11 : decode cX0_isPower 11 = .ok (.aload_n 0, 1) := by decide +kernel
theorem dX0_isPower_12 : decode cX0_isPower 12 = .ok (.getfield 24, 3) := by decide +kernel
theorem dX0_isPower_15 : decode cX0_isPower 15 = .ok (.aload_n 2, 1) := by decide +kernel
theorem dX0_isPower_16 : decode cX0_isPower 16 = .ok (.invokevirtual 78, 3) := by decide +kernel
theorem dX0_isPower_19 : decode cX0_isPower 19 = .ok (.ifCond .ne 5, 3) := by decide +kernel
theorem dX0_isPower_22 : decode cX0_isPower 22 = .ok (.iconst 0, 1) := by decide +kernel
theorem dX0_isPower_23 : decode cX0_isPower 23 = .ok (.ireturn, 1) := by decide +kernel
theorem dX0_isPower_24 : decode cX0_isPower 24 = .ok (.aload_n 1, 1) := by decide +kernel
theorem dX0_isPower_25 : decode cX0_isPower 25 = .ok (.aload_n 2, 1) := by decide +kernel
theorem dX0_isPower_26 : decode cX0_isPower 26 = .ok (.invokevirtual 82, 3) := by decide +kernel
theorem dX0_isPower_29 : decode cX0_isPower 29 = .ok (.invokevirtual 50, 3) := by decide +kernel
theorem dX0_isPower_32 : decode cX0_isPower 32 = .ok (.istore 4, 2) := by decide +kernel
theorem dX0_isPower_34 : decode cX0_isPower 34 = .ok (.iconst 0, 1) := by decide +kernel
theorem dX0_isPower_35 : decode cX0_isPower 35 = .ok (.istore 5, 2) := by decide +kernel
theorem dX0_isPower_37 : decode cX0_isPower 37 = .ok (.iload 5, 2) := by decide +kernel
theorem dX0_isPower_39 : decode cX0_isPower 39 = .ok (.iload 4, 2) := by decide +kernel
theorem dX0_isPower_41 : decode cX0_isPower 41 = .ok (.if_icmp .ge 78, 3) := by decide +kernel
theorem dX0_isPower_44 : decode cX0_isPower 44 = .ok (.iload_n 3, 1) := by decide +kernel
theorem dX0_isPower_45 : decode cX0_isPower 45 = .ok (.istore 6, 2) := by decide +kernel
theorem dX0_isPower_47 : decode cX0_isPower 47 = .ok (.iload 6, 2) := by decide +kernel
theorem dX0_isPower_49 : decode cX0_isPower 49 = .ok (.aload_n 2, 1) := by decide +kernel
theorem dX0_isPower_50 : decode cX0_isPower 50 = .ok (.invokevirtual 31, 3) := by decide +kernel
theorem dX0_isPower_53 : decode cX0_isPower 53 = .ok (.if_icmp .ge 34, 3) := by decide +kernel
theorem dX0_isPower_56 : decode cX0_isPower 56 = .ok (.aload_n 0, 1) := by decide +kernel
theorem dX0_isPower_57 : decode cX0_isPower 57 = .ok (.getfield 24, 3) := by decide +kernel
theorem dX0_isPower_60 : decode cX0_isPower 60 = .ok (.iload 6, 2) := by decide +kernel
theorem dX0_isPower_62 : decode cX0_isPower 62 = .ok (.iload 5, 2) := by decide +kernel
theorem dX0_isPower_64 : decode cX0_isPower 64 = .ok (.aload_n 2, 1) := by decide +kernel
theorem dX0_isPower_65 : decode cX0_isPower 65 = .ok (.iconst 0, 1) := by decide +kernel
theorem dX0_isPower_66 : decode cX0_isPower 66 = .ok (.invokevirtual 53, 3) := by decide +kernel
theorem dX0_isPower_69 : decode cX0_isPower 69 = .ok (.iadd, 1) := by decide +kernel
theorem dX0_isPower_70 : decode cX0_isPower 70 = .ok (.iload 4, 2) := by decide +kernel
theorem dX0_isPower_72 : decode cX0_isPower 72 = .ok (.invokestatic 56, 3) := by decide +kernel
theorem dX0_isPower_75 : decode cX0_isPower 75 = .ok (.invokevirtual 85, 3) := by decide +kernel
theorem dX0_isPower_78 : decode cX0_isPower 78 = .ok (.iload 6, 2) := by decide +kernel
theorem dX0_isPower_80 : decode cX0_isPower 80 = .ok (.iload_n 3, 1) := by decide +kernel
theorem dX0_isPower_81 : decode cX0_isPower 81 = .ok (.iadd, 1) := by decide +kernel
theorem dX0_isPower_82 : decode cX0_isPower 82 = .ok (.istore 6, 2) := by decide +kernel
theorem dX0_isPower_84 : decode cX0_isPower 84 = .ok (.goto (-37), 3) := by decide +kernel
theorem dX0_isPower_87 : decode cX0_isPower 87 = .ok (.aload_n 0, 1) := by decide +kernel
theorem dX0_isPower_88 : decode cX0_isPower 88 = .ok (.getfield 24, 3) := by decide +kernel
theorem dX0_isPower_91 : decode cX0_isPower 91 = .ok (.aload_n 2, 1) := by decide +kernel
theorem dX0_isPower_92 : decode cX0_isPower 92 = .ok (.invokevirtual 31, 3) := by decide +kernel
theorem dX0_isPower_95 : decode cX0_isPower 95 = .ok (.iload 5, 2) := by decide +kernel
theorem dX0_isPower_97 : decode cX0_isPower 97 = .ok (.invokevirtual 85, 3) := by decide +kernel
theorem dX0_isPower_100 : decode cX0_isPower 100 = .ok (.aload_n 0, 1) := by decide +kernel
theorem dX0_isPower_101 : decode cX0_isPower 101 = .ok (.aload_n 0, 1) := by decide +kernel
theorem dX0_isPower_102 : decode cX0_isPower 102 = .ok (.getfield 24, 3) := by decide +kernel
theorem dX0_isPower_105 : decode cX0_isPower 105 = .ok (.invokevirtual 89, 3) := by decide +kernel
theorem dX0_isPower_108 : decode cX0_isPower 108 = .ok (.ifCond .eq 5, 3) := by decide +kernel
theorem dX0_isPower_111 : decode cX0_isPower 111 = .ok (.iconst 1, 1) := by decide +kernel
theorem dX0_isPower_112 : decode cX0_isPower 112 = .ok (.ireturn, 1) := by decide +kernel
theorem dX0_isPower_113 : decode cX0_isPower 113 = .ok (.iinc 5 1, 3) := by decide +kernel
theorem dX0_isPower_116 : decode cX0_isPower 116 = .ok (.goto (-79), 3) := by decide +kernel
theorem dX0_isPower_119 : decode cX0_isPower 119 = .ok (.iconst 0, 1) := by decide +kernel
theorem dX0_isPower_120 : decode cX0_isPower 120 = .ok (.ireturn, 1) := by decide +kernel
theorem dX0_repeatFirst_0 : decode cX0_repeatFirst 0 = .ok (.aload_n 0, 1) := by decide +kernel
theorem dX0_repeatFirst_1 : decode cX0_repeatFirst 1 = .ok (.getfield 24, 3) := by decide +kernel
theorem dX0_repeatFirst_4 : decode cX0_repeatFirst 4 = .ok (.aload_n 1, 1) := by decide +kernel
theorem dX0_repeatFirst_5 : decode cX0_repeatFirst 5 = .ok (.invokevirtual 82, 3) := by decide +kernel
theorem dX0_repeatFirst_8 : decode cX0_repeatFirst 8 = .ok (.aload_n 1, 1) := by decide +kernel
theorem dX0_repeatFirst_9 : decode cX0_repeatFirst 9 = .ok (.iconst 0, 1) := by decide +kernel
theorem dX0_repeatFirst_10 : decode cX0_repeatFirst 10 = .ok (.invokevirtual 53, 3) := by decide +kernel
theorem dX0_repeatFirst_13 : decode cX0_repeatFirst 13 = .ok (.invokevirtual 92, 3) := by decide +kernel
theorem dX0_repeatFirst_16 : decode cX0_repeatFirst 16 = .ok (.iconst 0, 1) := by decide +kernel
theorem dX0_repeatFirst_17 : decode cX0_repeatFirst 17 = .ok (.istore_n 3, 1) := by decide +kernel
theorem dX0_repeatFirst_18 : decode cX0_repeatFirst 18 = .ok (.iload_n 3, 1) := by decide +kernel
theorem dX0_repeatFirst_19 : decode cX0_repeatFirst 19 = .ok (.aload_n 1, 1) := by decide +kernel
theorem dX0_repeatFirst_20 : decode cX0_repeatFirst 20 = .ok (.invokevirtual 31, 3) := by decide +kernel
theorem dX0_repeatFirst_23 : decode cX0_repeatFirst 23 = .ok (.if_icmp .ge 36, 3) := by decide +kernel
theorem dX0_repeatFirst_26 : decode cX0_repeatFirst 26 = .ok (.aload_n 0, 1) := by decide +kernel
theorem dX0_repeatFirst_27 : decode cX0_repeatFirst 27 = .ok (.getfield 24, 3) := by decide +kernel
theorem dX0_repeatFirst_30 : decode cX0_repeatFirst 30 = .ok (.aload_n 1, 1) := by decide +kernel
theorem dX0_repeatFirst_31 : decode cX0_repeatFirst 31 = .ok (.iload_n 3, 1) := by decide +kernel
theorem dX0_repeatFirst_32 : decode cX0_repeatFirst 32 = .ok (.iload_n 2, 1) := by decide +kernel
theorem dX0_repeatFirst_33 : decode cX0_repeatFirst 33 = .ok (.invokestatic 56, 3) := by decide +kernel
theorem dX0_repeatFirst_36 : decode cX0_repeatFirst 36 = .ok (.invokevirtual 35, 3) := by decide +kernel
theorem dX0_repeatFirst_39 : decode cX0_repeatFirst 39 = .ok (.aload_n 1, 1) := by decide +kernel
theorem dX0_repeatFirst_40 : decode cX0_repeatFirst 40 = .ok (.iload_n 3, 1) := by decide +kernel
theorem dX0_repeatFirst_41 : decode cX0_repeatFirst 41 = .ok (.iconst 1, 1) := by decide +kernel
theorem dX0_repeatFirst_42 : decode cX0_repeatFirst 42 = .ok (.iadd, 1) := by decide +kernel
theorem dX0_repeatFirst_43 : decode cX0_repeatFirst 43 = .ok (.iload_n 2, 1) := by decide +kernel
theorem dX0_repeatFirst_44 : decode cX0_repeatFirst 44 = .ok (.invokestatic 56, 3) := by decide +kernel
theorem dX0_repeatFirst_47 : decode cX0_repeatFirst 47 = .ok (.invokevirtual 53, 3) := by decide +kernel
theorem dX0_repeatFirst_50 : decode cX0_repeatFirst 50 = .ok (.invokevirtual 95, 3) := by decide +kernel
theorem dX0_repeatFirst_53 : decode cX0_repeatFirst 53 = .ok (.iinc 3 1, 3) := by decide +kernel
theorem dX0_repeatFirst_56 : decode cX0_repeatFirst 56 = .ok (.goto (-38), 3) := by decide +kernel
theorem dX0_repeatFirst_59 : decode cX0_repeatFirst 59 = .ok (.return_, 1) := by decide +kernel
theorem dX1_waysBehind_0 : decode cX1_waysBehind 0 = .ok (.iload_n 1, 1) := by decide +kernel
theorem dX1_waysBehind_1 : decode cX1_waysBehind 1 = .ok (.bipush 12, 2) := by decide +kernel
theorem dX1_waysBehind_3 : decode cX1_waysBehind 3 = .ok (.imul, 1) := by decide +kernel
theorem dX1_waysBehind_4 : decode cX1_waysBehind 4 = .ok (.iload_n 2, 1) := by decide +kernel
theorem dX1_waysBehind_5 : decode cX1_waysBehind 5 = .ok (.iadd, 1) := by decide +kernel
theorem dX1_waysBehind_6 : decode cX1_waysBehind 6 = .ok (.istore_n 3, 1) := by decide +kernel
theorem dX1_waysBehind_7 : decode cX1_waysBehind 7 = .ok (.iload_n 1, 1) := by decide +kernel
theorem dX1_waysBehind_8 : decode cX1_waysBehind 8 = .ok (.ifCond .lt 22, 3) := by decide +kernel
theorem dX1_waysBehind_11 : decode cX1_waysBehind 11 = .ok (.iload_n 2, 1) := by decide +kernel
theorem dX1_waysBehind_12 : decode cX1_waysBehind 12 = .ok (.ifCond .lt 18, 3) := by decide +kernel
theorem dX1_waysBehind_15 : decode cX1_waysBehind 15 = .ok (.iload_n 2, 1) := by decide +kernel
theorem dX1_waysBehind_16 : decode cX1_waysBehind 16 = .ok (.bipush 12, 2) := by decide +kernel
theorem dX1_waysBehind_18 : decode cX1_waysBehind 18 = .ok (.if_icmp .ge 12, 3) := by decide +kernel
theorem dX1_waysBehind_21 : decode cX1_waysBehind 21 = .ok (.iload_n 3, 1) := by decide +kernel
theorem dX1_waysBehind_22 : decode cX1_waysBehind 22 = .ok (.aload_n 0, 1) := by decide +kernel
theorem dX1_waysBehind_23 : decode cX1_waysBehind 23 = .ok (.getfield 9, 3) := by decide +kernel
theorem dX1_waysBehind_26 : decode cX1_waysBehind 26 = .ok (.arraylength, 1) := by decide +kernel
theorem dX1_waysBehind_27 : decode cX1_waysBehind 27 = .ok (.if_icmp .lt 7, 3) := by decide +kernel
theorem dX1_waysBehind_30 : decode cX1_waysBehind 30 = .ok (.lconst 0, 1) := by decide +kernel
theorem dX1_waysBehind_31 : decode cX1_waysBehind 31 = .ok (.goto 9, 3) := by decide +kernel
theorem dX1_waysBehind_34 : decode cX1_waysBehind 34 = .ok (.aload_n 0, 1) := by decide +kernel
theorem dX1_waysBehind_35 : decode cX1_waysBehind 35 = .ok (.getfield 9, 3) := by decide +kernel
theorem dX1_waysBehind_38 : decode cX1_waysBehind 38 = .ok (.iload_n 3, 1) := by decide +kernel
theorem dX1_waysBehind_39 : decode cX1_waysBehind 39 = .ok (.laload, 1) := by decide +kernel
theorem dX1_waysBehind_40 : decode cX1_waysBehind 40 = .ok (.lreturn, 1) := by decide +kernel
theorem dX1_setWays_0 : decode cX1_setWays 0 = .ok (.iload_n 1, 1) := by decide +kernel
theorem dX1_setWays_1 : decode cX1_setWays 1 = .ok (.bipush 12, 2) := by decide +kernel
theorem dX1_setWays_3 : decode cX1_setWays 3 = .ok (.imul, 1) := by decide +kernel
theorem dX1_setWays_4 : decode cX1_setWays 4 = .ok (.iload_n 2, 1) := by decide +kernel
theorem dX1_setWays_5 : decode cX1_setWays 5 = .ok (.iadd, 1) := by decide +kernel
theorem dX1_setWays_6 : decode cX1_setWays 6 = .ok (.istore 5, 2) := by decide +kernel
theorem dX1_setWays_8 : decode cX1_setWays 8 = .ok (.iload_n 1, 1) := by decide +kernel
theorem dX1_setWays_9 : decode cX1_setWays 9 = .ok (.ifCond .lt 31, 3) := by decide +kernel
theorem dX1_setWays_12 : decode cX1_setWays 12 = .ok (.iload_n 2, 1) := by decide +kernel
theorem dX1_setWays_13 : decode cX1_setWays 13 = .ok (.ifCond .lt 27, 3) := by decide +kernel
theorem dX1_setWays_16 : decode cX1_setWays 16 = .ok (.iload_n 2, 1) := by decide +kernel
theorem dX1_setWays_17 : decode cX1_setWays 17 = .ok (.bipush 12, 2) := by decide +kernel
theorem dX1_setWays_19 : decode cX1_setWays 19 = .ok (.if_icmp .ge 21, 3) := by decide +kernel
theorem dX1_setWays_22 : decode cX1_setWays 22 = .ok (.iload 5, 2) := by decide +kernel
theorem dX1_setWays_24 : decode cX1_setWays 24 = .ok (.aload_n 0, 1) := by decide +kernel
theorem dX1_setWays_25 : decode cX1_setWays 25 = .ok (.getfield 9, 3) := by decide +kernel
theorem dX1_setWays_28 : decode cX1_setWays 28 = .ok (.arraylength, 1) := by decide +kernel
theorem dX1_setWays_29 : decode cX1_setWays 29 = .ok (.if_icmp .ge 11, 3) := by decide +kernel
theorem dX1_setWays_32 : decode cX1_setWays 32 = .ok (.aload_n 0, 1) := by decide +kernel
theorem dX1_setWays_33 : decode cX1_setWays 33 = .ok (.getfield 9, 3) := by decide +kernel
theorem dX1_setWays_36 : decode cX1_setWays 36 = .ok (.iload 5, 2) := by decide +kernel
theorem dX1_setWays_38 : decode cX1_setWays 38 = .ok (.lload_n 3, 1) := by decide +kernel
theorem dX1_setWays_39 : decode cX1_setWays 39 = .ok (.lastore, 1) := by decide +kernel
theorem dX1_setWays_40 : decode cX1_setWays 40 = .ok (.return_, 1) := by decide +kernel
theorem dX1_waysFrom_0 : decode cX1_waysFrom 0 = .ok (.lconst 0, 1) := by decide +kernel
theorem dX1_waysFrom_1 : decode cX1_waysFrom 1 = .ok (.lstore 5, 2) := by decide +kernel
theorem dX1_waysFrom_3 : decode cX1_waysFrom 3 = .ok (.iconst 0, 1) := by decide +kernel
theorem dX1_waysFrom_4 : decode cX1_waysFrom 4 = .ok (.istore 7, 2) := by decide +kernel
theorem dX1_waysFrom_6 : decode cX1_waysFrom 6 = .ok (.iload 7, 2) := by decide +kernel
theorem dX1_waysFrom_8 : decode cX1_waysFrom 8 = .ok (.aload_n 1, 1) := by decide +kernel
theorem dX1_waysFrom_9 : decode cX1_waysFrom 9 = .ok (.invokevirtual 15, 3) := by decide +kernel
theorem dX1_waysFrom_12 : decode cX1_waysFrom 12 = .ok (.if_icmp .ge 46, 3) := by decide +kernel
theorem dX1_waysFrom_15 : decode cX1_waysFrom 15 = .ok (.aload_n 1, 1) := by decide +kernel
theorem dX1_waysFrom_16 : decode cX1_waysFrom 16 = .ok (.iload 7, 2) := by decide +kernel
theorem dX1_waysFrom_18 : decode cX1_waysFrom 18 = .ok (.invokevirtual 21, 3) := by decide +kernel
theorem dX1_waysFrom_21 : decode cX1_waysFrom 21 = .ok (.iload_n 2, 1) := by decide +kernel
theorem dX1_waysFrom_22 : decode cX1_waysFrom 22 = .ok (.if_icmp .ne 30, 3) := by decide +kernel
theorem dX1_waysFrom_25 : decode cX1_waysFrom 25 = .ok (.lload 5, 2) := by decide +kernel
theorem dX1_waysFrom_27 : decode cX1_waysFrom 27 = .ok (.aload_n 1, 1) := by decide +kernel
theorem dX1_waysFrom_28 : decode cX1_waysFrom 28 = .ok (.iload_n 3, 1) := by decide +kernel
theorem dX1_waysFrom_29 : decode cX1_waysFrom 29 = .ok (.iload 7, 2) := by decide +kernel
theorem dX1_waysFrom_31 : decode cX1_waysFrom 31 = .ok (.invokevirtual 25, 3) := by decide +kernel
theorem dX1_waysFrom_34 : decode cX1_waysFrom 34 = .ok (.i2l, 1) := by decide +kernel
theorem dX1_waysFrom_35 : decode cX1_waysFrom 35 = .ok (.aload_n 0, 1) := by decide +kernel
theorem dX1_waysFrom_36 : decode cX1_waysFrom 36 = .ok (.iload 4, 2) := by decide +kernel
theorem dX1_waysFrom_38 : decode cX1_waysFrom 38 = .ok (.iconst 1, 1) := by decide +kernel
theorem dX1_waysFrom_39 : decode cX1_waysFrom 39 = .ok (.isub, 1) := by decide +kernel
theorem dX1_waysFrom_40 : decode cX1_waysFrom 40 = .ok (.iload 7, 2) := by decide +kernel
theorem dX1_waysFrom_42 : decode cX1_waysFrom 42 = .ok (.invokevirtual 29, 3) := by decide +kernel
theorem dX1_waysFrom_45 : decode cX1_waysFrom 45 = .ok (.lmul, 1) := by decide +kernel
theorem dX1_waysFrom_46 : decode cX1_waysFrom 46 = .ok (.ladd, 1) := by decide +kernel
theorem dX1_waysFrom_47 : decode cX1_waysFrom 47 = .ok (.invokestatic 33, 3) := by decide +kernel
theorem dX1_waysFrom_50 : decode cX1_waysFrom 50 = .ok (.lstore 5, 2) := by decide +kernel
theorem dX1_waysFrom_52 : decode cX1_waysFrom 52 = .ok (.iinc 7 1, 3) := by decide +kernel
theorem dX1_waysFrom_55 : decode cX1_waysFrom 55 = .ok (.goto (-49), 3) := by decide +kernel
theorem dX1_waysFrom_58 : decode cX1_waysFrom 58 = .ok (.lload 5, 2) := by decide +kernel
theorem dX1_waysFrom_60 : decode cX1_waysFrom 60 = .ok (.lreturn, 1) := by decide +kernel
theorem dX1_fillLoops_0 : decode cX1_fillLoops 0 = .ok (.aload_n 1, 1) := by decide +kernel
theorem dX1_fillLoops_1 : decode cX1_fillLoops 1 = .ok (.iload_n 2, 1) := by decide +kernel
theorem dX1_fillLoops_2 : decode cX1_fillLoops 2 = .ok (.invokevirtual 37, 3) := by decide +kernel
theorem dX1_fillLoops_5 : decode cX1_fillLoops 5 = .ok (.istore 4, 2) := by decide +kernel
theorem dX1_fillLoops_7 : decode cX1_fillLoops 7 = .ok (.iconst 0, 1) := by decide +kernel
theorem dX1_fillLoops_8 : decode cX1_fillLoops 8 = .ok (.istore 5, 2) := by decide +kernel
theorem dX1_fillLoops_10 : decode cX1_fillLoops 10 = .ok (.iload 5, 2) := by decide +kernel
theorem dX1_fillLoops_12 : decode cX1_fillLoops 12 = .ok (.aload_n 1, 1) := by decide +kernel
theorem dX1_fillLoops_13 : decode cX1_fillLoops 13 = .ok (.invokevirtual 15, 3) := by decide +kernel
theorem dX1_fillLoops_16 : decode cX1_fillLoops 16 = .ok (.if_icmp .ge 33, 3) := by decide +kernel
theorem dX1_fillLoops_19 : decode cX1_fillLoops 19 = .ok (.aload_n 0, 1) := by decide +kernel
theorem dX1_fillLoops_20 : decode cX1_fillLoops 20 = .ok (.iconst 0, 1) := by decide +kernel
theorem dX1_fillLoops_21 : decode cX1_fillLoops 21 = .ok (.iload 5, 2) := by decide +kernel
theorem dX1_fillLoops_23 : decode cX1_fillLoops 23 = .ok (.aload_n 1, 1) := by decide +kernel
theorem dX1_fillLoops_24 : decode cX1_fillLoops 24 = .ok (.iload 5, 2) := by decide +kernel
theorem dX1_fillLoops_26 : decode cX1_fillLoops 26 = .ok (.invokevirtual 40, 3) := by decide +kernel
theorem dX1_fillLoops_29 : decode cX1_fillLoops 29 = .ok (.iload_n 2, 1) := by decide +kernel
theorem dX1_fillLoops_30 : decode cX1_fillLoops 30 = .ok (.if_icmp .ne 9, 3) := by decide +kernel
theorem dX1_fillLoops_33 : decode cX1_fillLoops 33 = .ok (.iload 4, 2) := by decide +kernel
theorem dX1_fillLoops_35 : decode cX1_fillLoops 35 = .ok (.i2l, 1) := by decide +kernel
theorem dX1_fillLoops_36 : decode cX1_fillLoops 36 = .ok (.goto 4, 3) := by decide +kernel
theorem dX1_fillLoops_39 : decode cX1_fillLoops 39 = .ok (.lconst 0, 1) := by decide +kernel
theorem dX1_fillLoops_40 : decode cX1_fillLoops 40 = .ok (.invokevirtual 43, 3) := by decide +kernel
theorem dX1_fillLoops_43 : decode cX1_fillLoops 43 = .ok (.iinc 5 1, 3) := by decide +kernel
theorem dX1_fillLoops_46 : decode cX1_fillLoops 46 = .ok (.goto (-36), 3) := by decide +kernel
theorem dX1_fillLoops_49 : decode cX1_fillLoops 49 = .ok (.iconst 1, 1) := by decide +kernel
theorem dX1_fillLoops_50 : decode cX1_fillLoops 50 = .ok (.istore 5, 2) := by decide +kernel
theorem dX1_fillLoops_52 : decode cX1_fillLoops 52 = .ok (.iload 5, 2) := by decide +kernel
theorem dX1_fillLoops_54 : decode cX1_fillLoops 54 = .ok (.iload_n 3, 1) := by decide +kernel
theorem dX1_fillLoops_55 : decode cX1_fillLoops 55 = .ok (.if_icmp .ge 50, 3) := by decide +kernel
theorem dX1_fillLoops_58 : decode cX1_fillLoops 58 = .ok (.iconst 0, 1) := by decide +kernel
theorem dX1_fillLoops_59 : decode cX1_fillLoops 59 = .ok (.istore 6, 2) := by decide +kernel
theorem dX1_fillLoops_61 : decode cX1_fillLoops 61 = .ok (.iload 6, 2) := by decide +kernel
theorem dX1_fillLoops_63 : decode cX1_fillLoops 63 = .ok (.aload_n 1, 1) := by decide +kernel
theorem dX1_fillLoops_64 : decode cX1_fillLoops 64 = .ok (.invokevirtual 15, 3) := by decide +kernel
theorem dX1_fillLoops_67 : decode cX1_fillLoops 67 = .ok (.if_icmp .ge 32, 3) := by decide +kernel
theorem dX1_fillLoops_70 : decode cX1_fillLoops 70 = .ok (.aload_n 0, 1) := by decide +kernel
theorem dX1_fillLoops_71 : decode cX1_fillLoops 71 = .ok (.iload 5, 2) := by decide +kernel
theorem dX1_fillLoops_73 : decode cX1_fillLoops 73 = .ok (.iload 6, 2) := by decide +kernel
theorem dX1_fillLoops_75 : decode cX1_fillLoops 75 = .ok (.aload_n 0, 1) := by decide +kernel
theorem dX1_fillLoops_76 : decode cX1_fillLoops 76 = .ok (.aload_n 1, 1) := by decide +kernel
theorem dX1_fillLoops_77 : decode cX1_fillLoops 77 = .ok (.aload_n 1, 1) := by decide +kernel
theorem dX1_fillLoops_78 : decode cX1_fillLoops 78 = .ok (.iload 6, 2) := by decide +kernel
theorem dX1_fillLoops_80 : decode cX1_fillLoops 80 = .ok (.invokevirtual 40, 3) := by decide +kernel
theorem dX1_fillLoops_83 : decode cX1_fillLoops 83 = .ok (.iload 6, 2) := by decide +kernel
theorem dX1_fillLoops_85 : decode cX1_fillLoops 85 = .ok (.iload 5, 2) := by decide +kernel
theorem dX1_fillLoops_87 : decode cX1_fillLoops 87 = .ok (.invokevirtual 47, 3) := by decide +kernel
theorem dX1_fillLoops_90 : decode cX1_fillLoops 90 = .ok (.invokevirtual 43, 3) := by decide +kernel
theorem dX1_fillLoops_93 : decode cX1_fillLoops 93 = .ok (.iinc 6 1, 3) := by decide +kernel
theorem dX1_fillLoops_96 : decode cX1_fillLoops 96 = .ok (.goto (-35), 3) := by decide +kernel
theorem dX1_fillLoops_99 : decode cX1_fillLoops 99 = .ok (.iinc 5 1, 3) := by decide +kernel
theorem dX1_fillLoops_102 : decode cX1_fillLoops 102 = .ok (.goto (-50), 3) := by decide +kernel
theorem dX1_fillLoops_105 : decode cX1_fillLoops 105 = .ok (.return_, 1) := by decide +kernel
theorem dX1_loops_0 : decode cX1_loops 0 = .ok (.aload_n 0, 1) := by decide +kernel
theorem dX1_loops_1 : decode cX1_loops 1 = .ok (.aload_n 1, 1) := by decide +kernel
theorem dX1_loops_2 : decode cX1_loops 2 = .ok (.iload_n 2, 1) := by decide +kernel
theorem dX1_loops_3 : decode cX1_loops 3 = .ok (.iload_n 3, 1) := by decide +kernel
theorem dX1_loops_4 : decode cX1_loops 4 = .ok (.invokevirtual 51, 3) := by decide +kernel
theorem dX1_loops_7 : decode cX1_loops 7 = .ok (.iload_n 3, 1) := by decide +kernel
theorem dX1_loops_8 : decode cX1_loops 8 = .ok (.iconst 1, 1) := by decide +kernel
theorem dX1_loops_9 : decode cX1_loops 9 = .ok (.if_icmp .ge 12, 3) := by decide +kernel
theorem dX1_loops_12 : decode cX1_loops 12 = .ok (.aload_n 1, 1) := by decide +kernel
theorem dX1_loops_13 : decode cX1_loops 13 = .ok (.iload_n 2, 1) := by decide +kernel
theorem dX1_loops_14 : decode cX1_loops 14 = .ok (.invokevirtual 37, 3) := by decide +kernel
theorem dX1_loops_17 : decode cX1_loops 17 = .ok (.i2l, 1) := by decide +kernel
theorem dX1_loops_18 : decode cX1_loops 18 = .ok (.goto 12, 3) := by decide +kernel
theorem dX1_loops_21 : decode cX1_loops 21 = .ok (.aload_n 0, 1) := by decide +kernel
theorem dX1_loops_22 : decode cX1_loops 22 = .ok (.aload_n 1, 1) := by decide +kernel
theorem dX1_loops_23 : decode cX1_loops 23 = .ok (.iload_n 2, 1) := by decide +kernel
theorem dX1_loops_24 : decode cX1_loops 24 = .ok (.bipush 12, 2) := by decide +kernel
theorem dX1_loops_26 : decode cX1_loops 26 = .ok (.iload_n 3, 1) := by decide +kernel
theorem dX1_loops_27 : decode cX1_loops 27 = .ok (.invokevirtual 47, 3) := by decide +kernel
theorem dX1_loops_30 : decode cX1_loops 30 = .ok (.lreturn, 1) := by decide +kernel
theorem dX1_held_0 : decode cX1_held 0 = .ok (.lconst 1, 1) := by decide +kernel
theorem dX1_held_1 : decode cX1_held 1 = .ok (.lstore 5, 2) := by decide +kernel
theorem dX1_held_3 : decode cX1_held 3 = .ok (.iconst 1, 1) := by decide +kernel
theorem dX1_held_4 : decode cX1_held 4 = .ok (.istore 7, 2) := by decide +kernel
theorem dX1_held_6 : decode cX1_held 6 = .ok (.iload 7, 2) := by decide +kernel
theorem dX1_held_8 : decode cX1_held 8 = .ok (.iload 4, 2) := by decide +kernel
theorem dX1_held_10 : decode cX1_held 10 = .ok (.if_icmp .gt 117, 3) := by decide +kernel
theorem dX1_held_13 : decode cX1_held 13 = .ok (.iconst 0, 1) := by decide +kernel
theorem dX1_held_14 : decode cX1_held 14 = .ok (.istore 8, 2) := by decide +kernel
theorem dX1_held_16 : decode cX1_held 16 = .ok (.iload 8, 2) := by decide +kernel
theorem dX1_held_18 : decode cX1_held 18 = .ok (.aload_n 1, 1) := by decide +kernel
theorem dX1_held_19 : decode cX1_held 19 = .ok (.invokevirtual 15, 3) := by decide +kernel
theorem dX1_held_22 : decode cX1_held 22 = .ok (.if_icmp .ge 81, 3) := by decide +kernel
theorem dX1_held_25 : decode cX1_held 25 = .ok (.aload_n 1, 1) := by decide +kernel
theorem dX1_held_26 : decode cX1_held 26 = .ok (.iload 8, 2) := by decide +kernel
theorem dX1_held_28 : decode cX1_held 28 = .ok (.iconst 1, 1) := by decide +kernel
theorem dX1_held_29 : decode cX1_held 29 = .ok (.ishr, 1) := by decide +kernel
theorem dX1_held_30 : decode cX1_held 30 = .ok (.invokevirtual 55, 3) := by decide +kernel
theorem dX1_held_33 : decode cX1_held 33 = .ok (.iload_n 3, 1) := by decide +kernel
theorem dX1_held_34 : decode cX1_held 34 = .ok (.invokestatic 58, 3) := by decide +kernel
theorem dX1_held_37 : decode cX1_held 37 = .ok (.ifCond .ne 7, 3) := by decide +kernel
theorem dX1_held_40 : decode cX1_held 40 = .ok (.iconst 1, 1) := by decide +kernel
theorem dX1_held_41 : decode cX1_held 41 = .ok (.goto 4, 3) := by decide +kernel
theorem dX1_held_44 : decode cX1_held 44 = .ok (.iconst 0, 1) := by decide +kernel
theorem dX1_held_45 : decode cX1_held 45 = .ok (.istore 9, 2) := by decide +kernel
theorem dX1_held_47 : decode cX1_held 47 = .ok (.iload 7, 2) := by decide +kernel
theorem dX1_held_49 : decode cX1_held 49 = .ok (.iconst 1, 1) := by decide +kernel
theorem dX1_held_50 : decode cX1_held 50 = .ok (.if_icmp .ne 7, 3) := by decide +kernel
theorem dX1_held_53 : decode cX1_held 53 = .ok (.lconst 1, 1) := by decide +kernel
theorem dX1_held_54 : decode cX1_held 54 = .ok (.goto 20, 3) := by decide +kernel
theorem dX1_held_57 : decode cX1_held 57 = .ok (.aload_n 0, 1) := by decide +kernel
theorem dX1_held_58 : decode cX1_held 58 = .ok (.aload_n 1, 1) := by decide +kernel
theorem dX1_held_59 : decode cX1_held 59 = .ok (.aload_n 1, 1) := by decide +kernel
theorem dX1_held_60 : decode cX1_held 60 = .ok (.iload 8, 2) := by decide +kernel
theorem dX1_held_62 : decode cX1_held 62 = .ok (.invokevirtual 40, 3) := by decide +kernel
theorem dX1_held_65 : decode cX1_held 65 = .ok (.iload 8, 2) := by decide +kernel
theorem dX1_held_67 : decode cX1_held 67 = .ok (.iload 7, 2) := by decide +kernel
theorem dX1_held_69 : decode cX1_held 69 = .ok (.iconst 1, 1) := by decide +kernel
theorem dX1_held_70 : decode cX1_held 70 = .ok (.isub, 1) := by decide +kernel
theorem dX1_held_71 : decode cX1_held 71 = .ok (.invokevirtual 47, 3) := by decide +kernel
theorem dX1_held_74 : decode cX1_held 74 = .ok (.lstore 10, 2) := by decide +kernel
theorem dX1_held_76 : decode cX1_held 76 = .ok (.aload_n 0, 1) := by decide +kernel
theorem dX1_held_77 : decode cX1_held 77 = .ok (.iload 7, 2) := by decide +kernel
theorem dX1_held_79 : decode cX1_held 79 = .ok (.iconst 1, 1) := by decide +kernel
theorem dX1_held_80 : decode cX1_held 80 = .ok (.isub, 1) := by decide +kernel
theorem dX1_held_81 : decode cX1_held 81 = .ok (.iload 8, 2) := by decide +kernel
theorem dX1_held_83 : decode cX1_held 83 = .ok (.iload 9, 2) := by decide +kernel
theorem dX1_held_85 : decode cX1_held 85 = .ok (.ifCond .eq 8, 3) := by decide +kernel
theorem dX1_held_88 : decode cX1_held 88 = .ok (.lload 10, 2) := by decide +kernel
theorem dX1_held_90 : decode cX1_held 90 = .ok (.goto 4, 3) := by decide +kernel
theorem dX1_held_93 : decode cX1_held 93 = .ok (.lconst 0, 1) := by decide +kernel
theorem dX1_held_94 : decode cX1_held 94 = .ok (.invokevirtual 43, 3) := by decide +kernel
theorem dX1_held_97 : decode cX1_held 97 = .ok (.iinc 8 1, 3) := by decide +kernel
theorem dX1_held_100 : decode cX1_held 100 = .ok (.goto (-84), 3) := by decide +kernel
theorem dX1_held_103 : decode cX1_held 103 = .ok (.lload 5, 2) := by decide +kernel
theorem dX1_held_105 : decode cX1_held 105 = .ok (.aload_n 0, 1) := by decide +kernel
theorem dX1_held_106 : decode cX1_held 106 = .ok (.aload_n 1, 1) := by decide +kernel
theorem dX1_held_107 : decode cX1_held 107 = .ok (.iload_n 2, 1) := by decide +kernel
theorem dX1_held_108 : decode cX1_held 108 = .ok (.bipush 12, 2) := by decide +kernel
theorem dX1_held_110 : decode cX1_held 110 = .ok (.iload 7, 2) := by decide +kernel
theorem dX1_held_112 : decode cX1_held 112 = .ok (.invokevirtual 47, 3) := by decide +kernel
theorem dX1_held_115 : decode cX1_held 115 = .ok (.ladd, 1) := by decide +kernel
theorem dX1_held_116 : decode cX1_held 116 = .ok (.invokestatic 33, 3) := by decide +kernel
theorem dX1_held_119 : decode cX1_held 119 = .ok (.lstore 5, 2) := by decide +kernel
theorem dX1_held_121 : decode cX1_held 121 = .ok (.iinc 7 1, 3) := by decide +kernel
theorem dX1_held_124 : decode cX1_held 124 = .ok (.goto (-118), 3) := by decide +kernel
theorem dX1_held_127 : decode cX1_held 127 = .ok (.lload 5, 2) := by decide +kernel
theorem dX1_held_129 : decode cX1_held 129 = .ok (.lreturn, 1) := by decide +kernel
theorem dX1_placeOf_0 : decode cX1_placeOf 0 = .ok (.aload_n 2, 1) := by decide +kernel
theorem dX1_placeOf_1 : decode cX1_placeOf 1 = .ok (.invokevirtual 61, 3) := by decide +kernel
theorem dX1_placeOf_4 : decode cX1_placeOf 4 = .ok (.istore_n 3, 1) := by decide +kernel
theorem dX1_placeOf_5 : decode cX1_placeOf 5 = .ok (.aload_n 0, 1) := by decide +kernel
theorem dX1_placeOf_6 : decode cX1_placeOf 6 = .ok (.aload_n 1, 1) := by decide +kernel
theorem dX1_placeOf_7 : decode cX1_placeOf 7 = .ok (.aload_n 2, 1) := by decide +kernel
theorem dX1_placeOf_8 : decode cX1_placeOf 8 = .ok (.invokevirtual 66, 3) := by decide +kernel
theorem dX1_placeOf_11 : decode cX1_placeOf 11 = .ok (.iload_n 3, 1) := by decide +kernel
theorem dX1_placeOf_12 : decode cX1_placeOf 12 = .ok (.invokevirtual 51, 3) := by decide +kernel
theorem dX1_placeOf_15 : decode cX1_placeOf 15 = .ok (.lconst 0, 1) := by decide +kernel
theorem dX1_placeOf_16 : decode cX1_placeOf 16 = .ok (.lstore 4, 2) := by decide +kernel
theorem dX1_placeOf_18 : decode cX1_placeOf 18 = .ok (.bipush 12, 2) := by decide +kernel
theorem dX1_placeOf_20 : decode cX1_placeOf 20 = .ok (.istore 6, 2) := by decide +kernel
theorem dX1_placeOf_22 : decode cX1_placeOf 22 = .ok (.iconst 0, 1) := by decide +kernel
theorem dX1_placeOf_23 : decode cX1_placeOf 23 = .ok (.istore 7, 2) := by decide +kernel
theorem dX1_placeOf_25 : decode cX1_placeOf 25 = .ok (.iload 7, 2) := by decide +kernel
theorem dX1_placeOf_27 : decode cX1_placeOf 27 = .ok (.iload_n 3, 1) := by decide +kernel
theorem dX1_placeOf_28 : decode cX1_placeOf 28 = .ok (.if_icmp .ge 133, 3) := by decide +kernel
theorem dX1_placeOf_31 : decode cX1_placeOf 31 = .ok (.aload_n 2, 1) := by decide +kernel
theorem dX1_placeOf_32 : decode cX1_placeOf 32 = .ok (.iload 7, 2) := by decide +kernel
theorem dX1_placeOf_34 : decode cX1_placeOf 34 = .ok (.invokevirtual 69, 3) := by decide +kernel
theorem dX1_placeOf_37 : decode cX1_placeOf 37 = .ok (.istore 8, 2) := by decide +kernel
theorem dX1_placeOf_39 : decode cX1_placeOf 39 = .ok (.iload_n 3, 1) := by decide +kernel
theorem dX1_placeOf_40 : decode cX1_placeOf 40 = .ok (.iload 7, 2) := by decide +kernel
theorem dX1_placeOf_42 : decode cX1_placeOf 42 = .ok (.isub, 1) := by decide +kernel
theorem dX1_placeOf_43 : decode cX1_placeOf 43 = .ok (.iconst 1, 1) := by decide +kernel
theorem dX1_placeOf_44 : decode cX1_placeOf 44 = .ok (.isub, 1) := by decide +kernel
theorem dX1_placeOf_45 : decode cX1_placeOf 45 = .ok (.istore 9, 2) := by decide +kernel
theorem dX1_placeOf_47 : decode cX1_placeOf 47 = .ok (.iconst 0, 1) := by decide +kernel
theorem dX1_placeOf_48 : decode cX1_placeOf 48 = .ok (.istore 10, 2) := by decide +kernel
theorem dX1_placeOf_50 : decode cX1_placeOf 50 = .ok (.iload 10, 2) := by decide +kernel
theorem dX1_placeOf_52 : decode cX1_placeOf 52 = .ok (.iload 8, 2) := by decide +kernel
theorem dX1_placeOf_54 : decode cX1_placeOf 54 = .ok (.if_icmp .ge 50, 3) := by decide +kernel
theorem dX1_placeOf_57 : decode cX1_placeOf 57 = .ok (.aload_n 1, 1) := by decide +kernel
theorem dX1_placeOf_58 : decode cX1_placeOf 58 = .ok (.iload 10, 2) := by decide +kernel
theorem dX1_placeOf_60 : decode cX1_placeOf 60 = .ok (.invokevirtual 21, 3) := by decide +kernel
theorem dX1_placeOf_63 : decode cX1_placeOf 63 = .ok (.aload_n 1, 1) := by decide +kernel
theorem dX1_placeOf_64 : decode cX1_placeOf 64 = .ok (.iload 8, 2) := by decide +kernel
theorem dX1_placeOf_66 : decode cX1_placeOf 66 = .ok (.invokevirtual 21, 3) := by decide +kernel
theorem dX1_placeOf_69 : decode cX1_placeOf 69 = .ok (.if_icmp .ne 29, 3) := by decide +kernel
theorem dX1_placeOf_72 : decode cX1_placeOf 72 = .ok (.lload 4, 2) := by decide +kernel
theorem dX1_placeOf_74 : decode cX1_placeOf 74 = .ok (.aload_n 1, 1) := by decide +kernel
theorem dX1_placeOf_75 : decode cX1_placeOf 75 = .ok (.iload 6, 2) := by decide +kernel
theorem dX1_placeOf_77 : decode cX1_placeOf 77 = .ok (.iload 10, 2) := by decide +kernel
theorem dX1_placeOf_79 : decode cX1_placeOf 79 = .ok (.invokevirtual 25, 3) := by decide +kernel
theorem dX1_placeOf_82 : decode cX1_placeOf 82 = .ok (.i2l, 1) := by decide +kernel
theorem dX1_placeOf_83 : decode cX1_placeOf 83 = .ok (.aload_n 0, 1) := by decide +kernel
theorem dX1_placeOf_84 : decode cX1_placeOf 84 = .ok (.iload 9, 2) := by decide +kernel
theorem dX1_placeOf_86 : decode cX1_placeOf 86 = .ok (.iload 10, 2) := by decide +kernel
theorem dX1_placeOf_88 : decode cX1_placeOf 88 = .ok (.invokevirtual 29, 3) := by decide +kernel
theorem dX1_placeOf_91 : decode cX1_placeOf 91 = .ok (.lmul, 1) := by decide +kernel
theorem dX1_placeOf_92 : decode cX1_placeOf 92 = .ok (.ladd, 1) := by decide +kernel
theorem dX1_placeOf_93 : decode cX1_placeOf 93 = .ok (.invokestatic 33, 3) := by decide +kernel
theorem dX1_placeOf_96 : decode cX1_placeOf 96 = .ok (.lstore 4, 2) := by decide +kernel
theorem dX1_placeOf_98 : decode cX1_placeOf 98 = .ok (.iinc 10 1, 3) := by decide +kernel
theorem dX1_placeOf_101 : decode cX1_placeOf 101 = .ok (.goto (-51), 3) := by decide +kernel
theorem dX1_placeOf_104 : decode cX1_placeOf 104 = .ok (.aload_n 2, 1) := by decide +kernel
theorem dX1_placeOf_105 : decode cX1_placeOf 105 = .ok (.iload 7, 2) := by decide +kernel
theorem dX1_placeOf_107 : decode cX1_placeOf 107 = .ok (.invokevirtual 72, 3) := by decide +kernel
theorem dX1_placeOf_110 : decode cX1_placeOf 110 = .ok (.iload 8, 2) := by decide +kernel
theorem dX1_placeOf_112 : decode cX1_placeOf 112 = .ok (.iload 6, 2) := by decide +kernel
theorem dX1_placeOf_114 : decode cX1_placeOf 114 = .ok (.invokestatic 75, 3) := by decide +kernel
theorem dX1_placeOf_117 : decode cX1_placeOf 117 = .ok (.if_icmp .ne 7, 3) := by decide +kernel
theorem dX1_placeOf_120 : decode cX1_placeOf 120 = .ok (.iconst 1, 1) := by decide +kernel
theorem dX1_placeOf_121 : decode cX1_placeOf 121 = .ok (.goto 4, 3) := by decide +kernel
theorem dX1_placeOf_124 : decode cX1_placeOf 124 = .ok (.iconst 0, 1) := by decide +kernel
theorem dX1_placeOf_125 : decode cX1_placeOf 125 = .ok (.invokestatic 78, 3) := by decide +kernel
theorem dX1_placeOf_128 : decode cX1_placeOf 128 = .ok (.isub, 1) := by decide +kernel
theorem dX1_placeOf_129 : decode cX1_placeOf 129 = .ok (.istore 10, 2) := by decide +kernel
theorem dX1_placeOf_131 : decode cX1_placeOf 131 = .ok (.lload 4, 2) := by decide +kernel
theorem dX1_placeOf_133 : decode cX1_placeOf 133 = .ok (.iload 10, 2) := by decide +kernel
theorem dX1_placeOf_135 : decode cX1_placeOf 135 = .ok (.i2l, 1) := by decide +kernel
theorem dX1_placeOf_136 : decode cX1_placeOf 136 = .ok (.aload_n 0, 1) := by decide +kernel
theorem dX1_placeOf_137 : decode cX1_placeOf 137 = .ok (.iload 9, 2) := by decide +kernel
theorem dX1_placeOf_139 : decode cX1_placeOf 139 = .ok (.iload 8, 2) := by decide +kernel
theorem dX1_placeOf_141 : decode cX1_placeOf 141 = .ok (.invokevirtual 29, 3) := by decide +kernel
theorem dX1_placeOf_144 : decode cX1_placeOf 144 = .ok (.lmul, 1) := by decide +kernel
theorem dX1_placeOf_145 : decode cX1_placeOf 145 = .ok (.ladd, 1) := by decide +kernel
theorem dX1_placeOf_146 : decode cX1_placeOf 146 = .ok (.invokestatic 33, 3) := by decide +kernel
theorem dX1_placeOf_149 : decode cX1_placeOf 149 = .ok (.lstore 4, 2) := by decide +kernel
theorem dX1_placeOf_151 : decode cX1_placeOf 151 = .ok (.iload 8, 2) := by decide +kernel
theorem dX1_placeOf_153 : decode cX1_placeOf 153 = .ok (.istore 6, 2) := by decide +kernel
theorem dX1_placeOf_155 : decode cX1_placeOf 155 = .ok (.iinc 7 1, 3) := by decide +kernel
theorem dX1_placeOf_158 : decode cX1_placeOf 158 = .ok (.goto (-133), 3) := by decide +kernel
theorem dX1_placeOf_161 : decode cX1_placeOf 161 = .ok (.lload 4, 2) := by decide +kernel
theorem dX1_placeOf_163 : decode cX1_placeOf 163 = .ok (.aload_n 2, 1) := by decide +kernel
theorem dX1_placeOf_164 : decode cX1_placeOf 164 = .ok (.invokevirtual 82, 3) := by decide +kernel
theorem dX1_placeOf_167 : decode cX1_placeOf 167 = .ok (.i2l, 1) := by decide +kernel
theorem dX1_placeOf_168 : decode cX1_placeOf 168 = .ok (.ladd, 1) := by decide +kernel
theorem dX1_placeOf_169 : decode cX1_placeOf 169 = .ok (.invokestatic 33, 3) := by decide +kernel
theorem dX1_placeOf_172 : decode cX1_placeOf 172 = .ok (.lreturn, 1) := by decide +kernel
theorem dX1_find_0 : decode cX1_find 0 = .ok (.aload_n 0, 1) := by decide +kernel
theorem dX1_find_1 : decode cX1_find 1 = .ok (.aload_n 1, 1) := by decide +kernel
theorem dX1_find_2 : decode cX1_find 2 = .ok (.iload_n 2, 1) := by decide +kernel
theorem dX1_find_3 : decode cX1_find 3 = .ok (.iload_n 3, 1) := by decide +kernel
theorem dX1_find_4 : decode cX1_find 4 = .ok (.invokevirtual 51, 3) := by decide +kernel
theorem dX1_find_7 : decode cX1_find 7 = .ok (.iload 4, 2) := by decide +kernel
theorem dX1_find_9 : decode cX1_find 9 = .ok (.i2l, 1) := by decide +kernel
theorem dX1_find_10 : decode cX1_find 10 = .ok (.lstore 6, 2) := by decide +kernel
theorem dX1_find_12 : decode cX1_find 12 = .ok (.aload 5, 2) := by decide +kernel
theorem dX1_find_14 : decode cX1_find 14 = .ok (.iload_n 2, 1) := by decide +kernel
theorem dX1_find_15 : decode cX1_find 15 = .ok (.iconst 0, 1) := by decide +kernel
theorem dX1_find_16 : decode cX1_find 16 = .ok (.invokevirtual 85, 3) := by decide +kernel
theorem dX1_find_19 : decode cX1_find 19 = .ok (.iconst 1, 1) := by decide +kernel
theorem dX1_find_20 : decode cX1_find 20 = .ok (.istore 8, 2) := by decide +kernel
theorem dX1_find_22 : decode cX1_find 22 = .ok (.iload 8, 2) := by decide +kernel
theorem dX1_find_24 : decode cX1_find 24 = .ok (.iload_n 3, 1) := by decide +kernel
theorem dX1_find_25 : decode cX1_find 25 = .ok (.if_icmp .gt 24, 3) := by decide +kernel
theorem dX1_find_28 : decode cX1_find 28 = .ok (.aload_n 0, 1) := by decide +kernel
theorem dX1_find_29 : decode cX1_find 29 = .ok (.aload_n 1, 1) := by decide +kernel
theorem dX1_find_30 : decode cX1_find 30 = .ok (.iload_n 3, 1) := by decide +kernel
theorem dX1_find_31 : decode cX1_find 31 = .ok (.iload 8, 2) := by decide +kernel
theorem dX1_find_33 : decode cX1_find 33 = .ok (.isub, 1) := by decide +kernel
theorem dX1_find_34 : decode cX1_find 34 = .ok (.lload 6, 2) := by decide +kernel
theorem dX1_find_36 : decode cX1_find 36 = .ok (.aload 5, 2) := by decide +kernel
theorem dX1_find_38 : decode cX1_find 38 = .ok (.invokevirtual 89, 3) := by decide +kernel
theorem dX1_find_41 : decode cX1_find 41 = .ok (.lstore 6, 2) := by decide +kernel
theorem dX1_find_43 : decode cX1_find 43 = .ok (.iinc 8 1, 3) := by decide +kernel
theorem dX1_find_46 : decode cX1_find 46 = .ok (.goto (-24), 3) := by decide +kernel
theorem dX1_find_49 : decode cX1_find 49 = .ok (.aload 5, 2) := by decide +kernel
theorem dX1_find_51 : decode cX1_find 51 = .ok (.aload 5, 2) := by decide +kernel
theorem dX1_find_53 : decode cX1_find 53 = .ok (.invokevirtual 61, 3) := by decide +kernel
theorem dX1_find_56 : decode cX1_find 56 = .ok (.lload 6, 2) := by decide +kernel
theorem dX1_find_58 : decode cX1_find 58 = .ok (.l2i, 1) := by decide +kernel
theorem dX1_find_59 : decode cX1_find 59 = .ok (.invokevirtual 93, 3) := by decide +kernel
theorem dX1_find_62 : decode cX1_find 62 = .ok (.return_, 1) := by decide +kernel
theorem dX1_findStep_0 : decode cX1_findStep 0 = .ok (.lload_n 3, 1) := by decide +kernel
theorem dX1_findStep_1 : decode cX1_findStep 1 = .ok (.lstore 6, 2) := by decide +kernel
theorem dX1_findStep_3 : decode cX1_findStep 3 = .ok (.aload_n 1, 1) := by decide +kernel
theorem dX1_findStep_4 : decode cX1_findStep 4 = .ok (.aload 5, 2) := by decide +kernel
theorem dX1_findStep_6 : decode cX1_findStep 6 = .ok (.invokevirtual 96, 3) := by decide +kernel
theorem dX1_findStep_9 : decode cX1_findStep 9 = .ok (.istore 8, 2) := by decide +kernel
theorem dX1_findStep_11 : decode cX1_findStep 11 = .ok (.aload 5, 2) := by decide +kernel
theorem dX1_findStep_13 : decode cX1_findStep 13 = .ok (.invokevirtual 100, 3) := by decide +kernel
theorem dX1_findStep_16 : decode cX1_findStep 16 = .ok (.istore 9, 2) := by decide +kernel
theorem dX1_findStep_18 : decode cX1_findStep 18 = .ok (.iconst 0, 1) := by decide +kernel
theorem dX1_findStep_19 : decode cX1_findStep 19 = .ok (.istore 10, 2) := by decide +kernel
theorem dX1_findStep_21 : decode cX1_findStep 21 = .ok (.iload 10, 2) := by decide +kernel
theorem dX1_findStep_23 : decode cX1_findStep 23 = .ok (.aload_n 1, 1) := by decide +kernel
theorem dX1_findStep_24 : decode cX1_findStep 24 = .ok (.invokevirtual 15, 3) := by decide +kernel
theorem dX1_findStep_27 : decode cX1_findStep 27 = .ok (.if_icmp .ge 118, 3) := by decide +kernel
theorem dX1_findStep_30 : decode cX1_findStep 30 = .ok (.aload_n 1, 1) := by decide +kernel
theorem dX1_findStep_31 : decode cX1_findStep 31 = .ok (.iload 10, 2) := by decide +kernel
theorem dX1_findStep_33 : decode cX1_findStep 33 = .ok (.invokevirtual 21, 3) := by decide +kernel
theorem dX1_findStep_36 : decode cX1_findStep 36 = .ok (.iload 8, 2) := by decide +kernel
theorem dX1_findStep_38 : decode cX1_findStep 38 = .ok (.if_icmp .ne 13, 3) := by decide +kernel
theorem dX1_findStep_41 : decode cX1_findStep 41 = .ok (.aload_n 0, 1) := by decide +kernel
theorem dX1_findStep_42 : decode cX1_findStep 42 = .ok (.iload_n 2, 1) := by decide +kernel
theorem dX1_findStep_43 : decode cX1_findStep 43 = .ok (.iload 10, 2) := by decide +kernel
theorem dX1_findStep_45 : decode cX1_findStep 45 = .ok (.invokevirtual 29, 3) := by decide +kernel
theorem dX1_findStep_48 : decode cX1_findStep 48 = .ok (.goto 4, 3) := by decide +kernel
theorem dX1_findStep_51 : decode cX1_findStep 51 = .ok (.lconst 0, 1) := by decide +kernel
theorem dX1_findStep_52 : decode cX1_findStep 52 = .ok (.lstore 11, 2) := by decide +kernel
theorem dX1_findStep_54 : decode cX1_findStep 54 = .ok (.aload_n 1, 1) := by decide +kernel
theorem dX1_findStep_55 : decode cX1_findStep 55 = .ok (.iload 9, 2) := by decide +kernel
theorem dX1_findStep_57 : decode cX1_findStep 57 = .ok (.iload 10, 2) := by decide +kernel
theorem dX1_findStep_59 : decode cX1_findStep 59 = .ok (.invokevirtual 25, 3) := by decide +kernel
theorem dX1_findStep_62 : decode cX1_findStep 62 = .ok (.i2l, 1) := by decide +kernel
theorem dX1_findStep_63 : decode cX1_findStep 63 = .ok (.lload 11, 2) := by decide +kernel
theorem dX1_findStep_65 : decode cX1_findStep 65 = .ok (.lmul, 1) := by decide +kernel
theorem dX1_findStep_66 : decode cX1_findStep 66 = .ok (.lstore 13, 2) := by decide +kernel
theorem dX1_findStep_68 : decode cX1_findStep 68 = .ok (.lload 11, 2) := by decide +kernel
theorem dX1_findStep_70 : decode cX1_findStep 70 = .ok (.lconst 0, 1) := by decide +kernel
theorem dX1_findStep_71 : decode cX1_findStep 71 = .ok (.lcmp, 1) := by decide +kernel
theorem dX1_findStep_72 : decode cX1_findStep 72 = .ok (.ifCond .le 60, 3) := by decide +kernel
theorem dX1_findStep_75 : decode cX1_findStep 75 = .ok (.lload 6, 2) := by decide +kernel
theorem dX1_findStep_77 : decode cX1_findStep 77 = .ok (.lload 13, 2) := by decide +kernel
theorem dX1_findStep_79 : decode cX1_findStep 79 = .ok (.lcmp, 1) := by decide +kernel
theorem dX1_findStep_80 : decode cX1_findStep 80 = .ok (.ifCond .ge 52, 3) := by decide +kernel
theorem dX1_findStep_83 : decode cX1_findStep 83 = .ok (.aload 5, 2) := by decide +kernel
theorem dX1_findStep_85 : decode cX1_findStep 85 = .ok (.aload 5, 2) := by decide +kernel
theorem dX1_findStep_87 : decode cX1_findStep 87 = .ok (.invokevirtual 61, 3) := by decide +kernel
theorem dX1_findStep_90 : decode cX1_findStep 90 = .ok (.lload 6, 2) := by decide +kernel
theorem dX1_findStep_92 : decode cX1_findStep 92 = .ok (.lload 11, 2) := by decide +kernel
theorem dX1_findStep_94 : decode cX1_findStep 94 = .ok (.ldiv, 1) := by decide +kernel
theorem dX1_findStep_95 : decode cX1_findStep 95 = .ok (.l2i, 1) := by decide +kernel
theorem dX1_findStep_96 : decode cX1_findStep 96 = .ok (.iload 10, 2) := by decide +kernel
theorem dX1_findStep_98 : decode cX1_findStep 98 = .ok (.iload 9, 2) := by decide +kernel
theorem dX1_findStep_100 : decode cX1_findStep 100 = .ok (.invokestatic 75, 3) := by decide +kernel
theorem dX1_findStep_103 : decode cX1_findStep 103 = .ok (.if_icmp .ne 7, 3) := by decide +kernel
theorem dX1_findStep_106 : decode cX1_findStep 106 = .ok (.iconst 1, 1) := by decide +kernel
theorem dX1_findStep_107 : decode cX1_findStep 107 = .ok (.goto 4, 3) := by decide +kernel
theorem dX1_findStep_110 : decode cX1_findStep 110 = .ok (.iconst 0, 1) := by decide +kernel
theorem dX1_findStep_111 : decode cX1_findStep 111 = .ok (.invokestatic 78, 3) := by decide +kernel
theorem dX1_findStep_114 : decode cX1_findStep 114 = .ok (.iadd, 1) := by decide +kernel
theorem dX1_findStep_115 : decode cX1_findStep 115 = .ok (.invokevirtual 93, 3) := by decide +kernel
theorem dX1_findStep_118 : decode cX1_findStep 118 = .ok (.aload 5, 2) := by decide +kernel
theorem dX1_findStep_120 : decode cX1_findStep 120 = .ok (.iload 10, 2) := by decide +kernel
theorem dX1_findStep_122 : decode cX1_findStep 122 = .ok (.iconst 0, 1) := by decide +kernel
theorem dX1_findStep_123 : decode cX1_findStep 123 = .ok (.invokevirtual 103, 3) := by decide +kernel
theorem dX1_findStep_126 : decode cX1_findStep 126 = .ok (.lload 6, 2) := by decide +kernel
theorem dX1_findStep_128 : decode cX1_findStep 128 = .ok (.lload 11, 2) := by decide +kernel
theorem dX1_findStep_130 : decode cX1_findStep 130 = .ok (.lrem, 1) := by decide +kernel
theorem dX1_findStep_131 : decode cX1_findStep 131 = .ok (.lreturn, 1) := by decide +kernel
theorem dX1_findStep_132 : decode cX1_findStep 132 = .ok (.lload 6, 2) := by decide +kernel
theorem dX1_findStep_134 : decode cX1_findStep 134 = .ok (.lload 13, 2) := by decide +kernel
theorem dX1_findStep_136 : decode cX1_findStep 136 = .ok (.lsub, 1) := by decide +kernel
theorem dX1_findStep_137 : decode cX1_findStep 137 = .ok (.lstore 6, 2) := by decide +kernel
theorem dX1_findStep_139 : decode cX1_findStep 139 = .ok (.iinc 10 1, 3) := by decide +kernel
theorem dX1_findStep_142 : decode cX1_findStep 142 = .ok (.goto (-121), 3) := by decide +kernel
theorem dX1_findStep_145 : decode cX1_findStep 145 = .ok (.lload 6, 2) := by decide +kernel
theorem dX1_findStep_147 : decode cX1_findStep 147 = .ok (.lreturn, 1) := by decide +kernel
theorem dX2_takeStep_0 : decode cX2_takeStep 0 = .ok (.aload_n 1, 1) := by decide +kernel
theorem dX2_takeStep_1 : decode cX2_takeStep 1 = .ok (.invokevirtual 9, 3) := by decide +kernel
theorem dX2_takeStep_4 : decode cX2_takeStep 4 = .ok (.istore 4, 2) := by decide +kernel
theorem dX2_takeStep_6 : decode cX2_takeStep 6 = .ok (.aload_n 0, 1) := by decide +kernel
theorem dX2_takeStep_7 : decode cX2_takeStep 7 = .ok (.iload_n 2, 1) := by decide +kernel
theorem dX2_takeStep_8 : decode cX2_takeStep 8 = .ok (.invokevirtual 15, 3) := by decide +kernel
theorem dX2_takeStep_11 : decode cX2_takeStep 11 = .ok (.istore 5, 2) := by decide +kernel
theorem dX2_takeStep_13 : decode cX2_takeStep 13 = .ok (.aload_n 0, 1) := by decide +kernel
theorem dX2_takeStep_14 : decode cX2_takeStep 14 = .ok (.aload_n 0, 1) := by decide +kernel
theorem dX2_takeStep_15 : decode cX2_takeStep 15 = .ok (.iload_n 2, 1) := by decide +kernel
theorem dX2_takeStep_16 : decode cX2_takeStep 16 = .ok (.invokevirtual 21, 3) := by decide +kernel
theorem dX2_takeStep_19 : decode cX2_takeStep 19 = .ok (.invokevirtual 24, 3) := by decide +kernel
theorem dX2_takeStep_22 : decode cX2_takeStep 22 = .ok (.istore 6, 2) := by decide +kernel
theorem dX2_takeStep_24 : decode cX2_takeStep 24 = .ok (.iload 4, 2) := by decide +kernel
theorem dX2_takeStep_26 : decode cX2_takeStep 26 = .ok (.iload 5, 2) := by decide +kernel
theorem dX2_takeStep_28 : decode cX2_takeStep 28 = .ok (.invokestatic 27, 3) := by decide +kernel
theorem dX2_takeStep_31 : decode cX2_takeStep 31 = .ok (.aload_n 0, 1) := by decide +kernel
theorem dX2_takeStep_32 : decode cX2_takeStep 32 = .ok (.iload_n 2, 1) := by decide +kernel
theorem dX2_takeStep_33 : decode cX2_takeStep 33 = .ok (.invokevirtual 31, 3) := by decide +kernel
theorem dX2_takeStep_36 : decode cX2_takeStep 36 = .ok (.imul, 1) := by decide +kernel
theorem dX2_takeStep_37 : decode cX2_takeStep 37 = .ok (.istore 7, 2) := by decide +kernel
theorem dX2_takeStep_39 : decode cX2_takeStep 39 = .ok (.aload_n 1, 1) := by decide +kernel
theorem dX2_takeStep_40 : decode cX2_takeStep 40 = .ok (.invokevirtual 34, 3) := by decide +kernel
theorem dX2_takeStep_43 : decode cX2_takeStep 43 = .ok (.iload_n 2, 1) := by decide +kernel
theorem dX2_takeStep_44 : decode cX2_takeStep 44 = .ok (.invokestatic 37, 3) := by decide +kernel
theorem dX2_takeStep_47 : decode cX2_takeStep 47 = .ok (.if_icmp .ne 29, 3) := by decide +kernel
theorem dX2_takeStep_50 : decode cX2_takeStep 50 = .ok (.iload 4, 2) := by decide +kernel
theorem dX2_takeStep_52 : decode cX2_takeStep 52 = .ok (.iload 5, 2) := by decide +kernel
theorem dX2_takeStep_54 : decode cX2_takeStep 54 = .ok (.invokestatic 40, 3) := by decide +kernel
theorem dX2_takeStep_57 : decode cX2_takeStep 57 = .ok (.ifCond .ne 19, 3) := by decide +kernel
theorem dX2_takeStep_60 : decode cX2_takeStep 60 = .ok (.aload_n 1, 1) := by decide +kernel
theorem dX2_takeStep_61 : decode cX2_takeStep 61 = .ok (.invokevirtual 43, 3) := by decide +kernel
theorem dX2_takeStep_64 : decode cX2_takeStep 64 = .ok (.aload_n 1, 1) := by decide +kernel
theorem dX2_takeStep_65 : decode cX2_takeStep 65 = .ok (.iload 7, 2) := by decide +kernel
theorem dX2_takeStep_67 : decode cX2_takeStep 67 = .ok (.iload_n 3, 1) := by decide +kernel
theorem dX2_takeStep_68 : decode cX2_takeStep 68 = .ok (.iadd, 1) := by decide +kernel
theorem dX2_takeStep_69 : decode cX2_takeStep 69 = .ok (.iload 6, 2) := by decide +kernel
theorem dX2_takeStep_71 : decode cX2_takeStep 71 = .ok (.invokevirtual 46, 3) := by decide +kernel
theorem dX2_takeStep_74 : decode cX2_takeStep 74 = .ok (.iconst 1, 1) := by decide +kernel
theorem dX2_takeStep_75 : decode cX2_takeStep 75 = .ok (.ireturn, 1) := by decide +kernel
theorem dX2_takeStep_76 : decode cX2_takeStep 76 = .ok (.aload_n 1, 1) := by decide +kernel
theorem dX2_takeStep_77 : decode cX2_takeStep 77 = .ok (.aload_n 1, 1) := by decide +kernel
theorem dX2_takeStep_78 : decode cX2_takeStep 78 = .ok (.invokevirtual 50, 3) := by decide +kernel
theorem dX2_takeStep_81 : decode cX2_takeStep 81 = .ok (.iload 4, 2) := by decide +kernel
theorem dX2_takeStep_83 : decode cX2_takeStep 83 = .ok (.iload 5, 2) := by decide +kernel
theorem dX2_takeStep_85 : decode cX2_takeStep 85 = .ok (.invokestatic 40, 3) := by decide +kernel
theorem dX2_takeStep_88 : decode cX2_takeStep 88 = .ok (.invokevirtual 53, 3) := by decide +kernel
theorem dX2_takeStep_91 : decode cX2_takeStep 91 = .ok (.aload_n 1, 1) := by decide +kernel
theorem dX2_takeStep_92 : decode cX2_takeStep 92 = .ok (.iload_n 2, 1) := by decide +kernel
theorem dX2_takeStep_93 : decode cX2_takeStep 93 = .ok (.iload 7, 2) := by decide +kernel
theorem dX2_takeStep_95 : decode cX2_takeStep 95 = .ok (.iload_n 3, 1) := by decide +kernel
theorem dX2_takeStep_96 : decode cX2_takeStep 96 = .ok (.iadd, 1) := by decide +kernel
theorem dX2_takeStep_97 : decode cX2_takeStep 97 = .ok (.iload 6, 2) := by decide +kernel
theorem dX2_takeStep_99 : decode cX2_takeStep 99 = .ok (.invokestatic 40, 3) := by decide +kernel
theorem dX2_takeStep_102 : decode cX2_takeStep 102 = .ok (.invokevirtual 56, 3) := by decide +kernel
theorem dX2_takeStep_105 : decode cX2_takeStep 105 = .ok (.iconst 0, 1) := by decide +kernel
theorem dX2_takeStep_106 : decode cX2_takeStep 106 = .ok (.ireturn, 1) := by decide +kernel
theorem dX2_append_0 : decode cX2_append 0 = .ok (.iconst 0, 1) := by decide +kernel
theorem dX2_append_1 : decode cX2_append 1 = .ok (.istore_n 3, 1) := by decide +kernel
theorem dX2_append_2 : decode cX2_append 2 = .ok (.aload_n 1, 1) := by decide +kernel
theorem dX2_append_3 : decode cX2_append 3 = .ok (.aload_n 2, 1) := by decide +kernel
theorem dX2_append_4 : decode cX2_append 4 = .ok (.iconst 0, 1) := by decide +kernel
theorem dX2_append_5 : decode cX2_append 5 = .ok (.invokevirtual 59, 3) := by decide +kernel
theorem dX2_append_8 : decode cX2_append 8 = .ok (.aload_n 0, 1) := by decide +kernel
theorem dX2_append_9 : decode cX2_append 9 = .ok (.aload_n 2, 1) := by decide +kernel
theorem dX2_append_10 : decode cX2_append 10 = .ok (.invokevirtual 62, 3) := by decide +kernel
theorem dX2_append_13 : decode cX2_append 13 = .ok (.invokevirtual 24, 3) := by decide +kernel
theorem dX2_append_16 : decode cX2_append 16 = .ok (.invokevirtual 46, 3) := by decide +kernel
theorem dX2_append_19 : decode cX2_append 19 = .ok (.iconst 0, 1) := by decide +kernel
theorem dX2_append_20 : decode cX2_append 20 = .ok (.istore 4, 2) := by decide +kernel
theorem dX2_append_22 : decode cX2_append 22 = .ok (.iload 4, 2) := by decide +kernel
theorem dX2_append_24 : decode cX2_append 24 = .ok (.aload_n 2, 1) := by decide +kernel
theorem dX2_append_25 : decode cX2_append 25 = .ok (.invokevirtual 50, 3) := by decide +kernel
theorem dX2_append_28 : decode cX2_append 28 = .ok (.if_icmp .ge 34, 3) := by decide +kernel
theorem dX2_append_31 : decode cX2_append 31 = .ok (.iload_n 3, 1) := by decide +kernel
theorem dX2_append_32 : decode cX2_append 32 = .ok (.aload_n 0, 1) := by decide +kernel
theorem dX2_append_33 : decode cX2_append 33 = .ok (.aload_n 1, 1) := by decide +kernel
theorem dX2_append_34 : decode cX2_append 34 = .ok (.aload_n 2, 1) := by decide +kernel
theorem dX2_append_35 : decode cX2_append 35 = .ok (.iload 4, 2) := by decide +kernel
theorem dX2_append_37 : decode cX2_append 37 = .ok (.invokevirtual 65, 3) := by decide +kernel
theorem dX2_append_40 : decode cX2_append 40 = .ok (.aload_n 2, 1) := by decide +kernel
theorem dX2_append_41 : decode cX2_append 41 = .ok (.iload 4, 2) := by decide +kernel
theorem dX2_append_43 : decode cX2_append 43 = .ok (.iconst 1, 1) := by decide +kernel
theorem dX2_append_44 : decode cX2_append 44 = .ok (.iadd, 1) := by decide +kernel
theorem dX2_append_45 : decode cX2_append 45 = .ok (.invokevirtual 59, 3) := by decide +kernel
theorem dX2_append_48 : decode cX2_append 48 = .ok (.invokestatic 68, 3) := by decide +kernel
theorem dX2_append_51 : decode cX2_append 51 = .ok (.invokestatic 74, 3) := by decide +kernel
theorem dX2_append_54 : decode cX2_append 54 = .ok (.iadd, 1) := by decide +kernel
theorem dX2_append_55 : decode cX2_append 55 = .ok (.istore_n 3, 1) := by decide +kernel
theorem dX2_append_56 : decode cX2_append 56 = .ok (.iinc 4 1, 3) := by decide +kernel
theorem dX2_append_59 : decode cX2_append 59 = .ok (.goto (-37), 3) := by decide +kernel
theorem dX2_append_62 : decode cX2_append 62 = .ok (.iload_n 3, 1) := by decide +kernel
theorem dX2_append_63 : decode cX2_append 63 = .ok (.ireturn, 1) := by decide +kernel
theorem dX2_appendTurned_0 : decode cX2_appendTurned 0 = .ok (.aload_n 1, 1) := by decide +kernel
theorem dX2_appendTurned_1 : decode cX2_appendTurned 1 = .ok (.aload_n 2, 1) := by decide +kernel
theorem dX2_appendTurned_2 : decode cX2_appendTurned 2 = .ok (.invokevirtual 9, 3) := by decide +kernel
theorem dX2_appendTurned_5 : decode cX2_appendTurned 5 = .ok (.ineg, 1) := by decide +kernel
theorem dX2_appendTurned_6 : decode cX2_appendTurned 6 = .ok (.aload_n 0, 1) := by decide +kernel
theorem dX2_appendTurned_7 : decode cX2_appendTurned 7 = .ok (.aload_n 0, 1) := by decide +kernel
theorem dX2_appendTurned_8 : decode cX2_appendTurned 8 = .ok (.aload_n 2, 1) := by decide +kernel
theorem dX2_appendTurned_9 : decode cX2_appendTurned 9 = .ok (.invokevirtual 78, 3) := by decide +kernel
theorem dX2_appendTurned_12 : decode cX2_appendTurned 12 = .ok (.invokevirtual 24, 3) := by decide +kernel
theorem dX2_appendTurned_15 : decode cX2_appendTurned 15 = .ok (.invokevirtual 46, 3) := by decide +kernel
theorem dX2_appendTurned_18 : decode cX2_appendTurned 18 = .ok (.aload_n 2, 1) := by decide +kernel
theorem dX2_appendTurned_19 : decode cX2_appendTurned 19 = .ok (.invokevirtual 50, 3) := by decide +kernel
theorem dX2_appendTurned_22 : decode cX2_appendTurned 22 = .ok (.iconst 1, 1) := by decide +kernel
theorem dX2_appendTurned_23 : decode cX2_appendTurned 23 = .ok (.isub, 1) := by decide +kernel
theorem dX2_appendTurned_24 : decode cX2_appendTurned 24 = .ok (.istore_n 3, 1) := by decide +kernel
theorem dX2_appendTurned_25 : decode cX2_appendTurned 25 = .ok (.iload_n 3, 1) := by decide +kernel
theorem dX2_appendTurned_26 : decode cX2_appendTurned 26 = .ok (.ifCond .lt 29, 3) := by decide +kernel
theorem dX2_appendTurned_29 : decode cX2_appendTurned 29 = .ok (.aload_n 0, 1) := by decide +kernel
theorem dX2_appendTurned_30 : decode cX2_appendTurned 30 = .ok (.aload_n 1, 1) := by decide +kernel
theorem dX2_appendTurned_31 : decode cX2_appendTurned 31 = .ok (.aload_n 2, 1) := by decide +kernel
theorem dX2_appendTurned_32 : decode cX2_appendTurned 32 = .ok (.iload_n 3, 1) := by decide +kernel
theorem dX2_appendTurned_33 : decode cX2_appendTurned 33 = .ok (.invokevirtual 65, 3) := by decide +kernel
theorem dX2_appendTurned_36 : decode cX2_appendTurned 36 = .ok (.invokestatic 37, 3) := by decide +kernel
theorem dX2_appendTurned_39 : decode cX2_appendTurned 39 = .ok (.aload_n 2, 1) := by decide +kernel
theorem dX2_appendTurned_40 : decode cX2_appendTurned 40 = .ok (.iload_n 3, 1) := by decide +kernel
theorem dX2_appendTurned_41 : decode cX2_appendTurned 41 = .ok (.invokevirtual 59, 3) := by decide +kernel
theorem dX2_appendTurned_44 : decode cX2_appendTurned 44 = .ok (.ineg, 1) := by decide +kernel
theorem dX2_appendTurned_45 : decode cX2_appendTurned 45 = .ok (.invokestatic 68, 3) := by decide +kernel
theorem dX2_appendTurned_48 : decode cX2_appendTurned 48 = .ok (.pop, 1) := by decide +kernel
theorem dX2_appendTurned_49 : decode cX2_appendTurned 49 = .ok (.iinc 3 (-1), 3) := by decide +kernel
theorem dX2_appendTurned_52 : decode cX2_appendTurned 52 = .ok (.goto (-27), 3) := by decide +kernel
theorem dX2_appendTurned_55 : decode cX2_appendTurned 55 = .ok (.return_, 1) := by decide +kernel
theorem dX2_reduce_0 : decode cX2_reduce 0 = .ok (.aload_n 2, 1) := by decide +kernel
theorem dX2_reduce_1 : decode cX2_reduce 1 = .ok (.aload_n 1, 1) := by decide +kernel
theorem dX2_reduce_2 : decode cX2_reduce 2 = .ok (.invokevirtual 62, 3) := by decide +kernel
theorem dX2_reduce_5 : decode cX2_reduce 5 = .ok (.iconst 0, 1) := by decide +kernel
theorem dX2_reduce_6 : decode cX2_reduce 6 = .ok (.invokevirtual 82, 3) := by decide +kernel
theorem dX2_reduce_9 : decode cX2_reduce 9 = .ok (.aload_n 0, 1) := by decide +kernel
theorem dX2_reduce_10 : decode cX2_reduce 10 = .ok (.aload_n 2, 1) := by decide +kernel
theorem dX2_reduce_11 : decode cX2_reduce 11 = .ok (.aload_n 1, 1) := by decide +kernel
theorem dX2_reduce_12 : decode cX2_reduce 12 = .ok (.invokestatic 85, 3) := by decide +kernel
theorem dX2_reduce_15 : decode cX2_reduce 15 = .ok (.ireturn, 1) := by decide +kernel
theorem dX2_turn_0 : decode cX2_turn 0 = .ok (.aload_n 2, 1) := by decide +kernel
theorem dX2_turn_1 : decode cX2_turn 1 = .ok (.aload_n 0, 1) := by decide +kernel
theorem dX2_turn_2 : decode cX2_turn 2 = .ok (.aload_n 1, 1) := by decide +kernel
theorem dX2_turn_3 : decode cX2_turn 3 = .ok (.invokevirtual 78, 3) := by decide +kernel
theorem dX2_turn_6 : decode cX2_turn 6 = .ok (.iconst 0, 1) := by decide +kernel
theorem dX2_turn_7 : decode cX2_turn 7 = .ok (.invokevirtual 82, 3) := by decide +kernel
theorem dX2_turn_10 : decode cX2_turn 10 = .ok (.aload_n 0, 1) := by decide +kernel
theorem dX2_turn_11 : decode cX2_turn 11 = .ok (.aload_n 2, 1) := by decide +kernel
theorem dX2_turn_12 : decode cX2_turn 12 = .ok (.aload_n 1, 1) := by decide +kernel
theorem dX2_turn_13 : decode cX2_turn 13 = .ok (.invokestatic 89, 3) := by decide +kernel
theorem dX2_turn_16 : decode cX2_turn 16 = .ok (.return_, 1) := by decide +kernel
theorem dX2_product_0 : decode cX2_product 0 = .ok (.aload_n 3, 1) := by decide +kernel
theorem dX2_product_1 : decode cX2_product 1 = .ok (.aload_n 1, 1) := by decide +kernel
theorem dX2_product_2 : decode cX2_product 2 = .ok (.invokevirtual 62, 3) := by decide +kernel
theorem dX2_product_5 : decode cX2_product 5 = .ok (.iconst 0, 1) := by decide +kernel
theorem dX2_product_6 : decode cX2_product 6 = .ok (.invokevirtual 82, 3) := by decide +kernel
theorem dX2_product_9 : decode cX2_product 9 = .ok (.aload_n 0, 1) := by decide +kernel
theorem dX2_product_10 : decode cX2_product 10 = .ok (.aload_n 3, 1) := by decide +kernel
theorem dX2_product_11 : decode cX2_product 11 = .ok (.aload_n 1, 1) := by decide +kernel
theorem dX2_product_12 : decode cX2_product 12 = .ok (.invokestatic 85, 3) := by decide +kernel
theorem dX2_product_15 : decode cX2_product 15 = .ok (.pop, 1) := by decide +kernel
theorem dX2_product_16 : decode cX2_product 16 = .ok (.aload_n 0, 1) := by decide +kernel
theorem dX2_product_17 : decode cX2_product 17 = .ok (.aload_n 3, 1) := by decide +kernel
theorem dX2_product_18 : decode cX2_product 18 = .ok (.aload_n 2, 1) := by decide +kernel
theorem dX2_product_19 : decode cX2_product 19 = .ok (.invokestatic 85, 3) := by decide +kernel
theorem dX2_product_22 : decode cX2_product 22 = .ok (.pop, 1) := by decide +kernel
theorem dX2_product_23 : decode cX2_product 23 = .ok (.return_, 1) := by decide +kernel
theorem dX2_shrink_0 : decode cX2_shrink 0 = .ok (.aload_n 2, 1) := by decide +kernel
theorem dX2_shrink_1 : decode cX2_shrink 1 = .ok (.aload_n 1, 1) := by decide +kernel
theorem dX2_shrink_2 : decode cX2_shrink 2 = .ok (.invokevirtual 62, 3) := by decide +kernel
theorem dX2_shrink_5 : decode cX2_shrink 5 = .ok (.iconst 0, 1) := by decide +kernel
theorem dX2_shrink_6 : decode cX2_shrink 6 = .ok (.invokevirtual 82, 3) := by decide +kernel
theorem dX2_shrink_9 : decode cX2_shrink 9 = .ok (.aload_n 0, 1) := by decide +kernel
theorem dX2_shrink_10 : decode cX2_shrink 10 = .ok (.aload_n 2, 1) := by decide +kernel
theorem dX2_shrink_11 : decode cX2_shrink 11 = .ok (.aload_n 1, 1) := by decide +kernel
theorem dX2_shrink_12 : decode cX2_shrink 12 = .ok (.invokestatic 85, 3) := by decide +kernel
theorem dX2_shrink_15 : decode cX2_shrink 15 = .ok (.pop, 1) := by decide +kernel
theorem dX2_shrink_16 : decode cX2_shrink 16 = .ok (.iconst 0, 1) := by decide +kernel
theorem dX2_shrink_17 : decode cX2_shrink 17 = .ok (.istore 4, 2) := by decide +kernel
theorem dX2_shrink_19 : decode cX2_shrink 19 = .ok (.iload 4, 2) := by decide +kernel
theorem dX2_shrink_21 : decode cX2_shrink 21 = .ok (.bipush 72, 2) := by decide +kernel
theorem dX2_shrink_23 : decode cX2_shrink 23 = .ok (.if_icmp .ge 39, 3) := by decide +kernel
theorem dX2_shrink_26 : decode cX2_shrink 26 = .ok (.aload_n 0, 1) := by decide +kernel
theorem dX2_shrink_27 : decode cX2_shrink 27 = .ok (.aload_n 2, 1) := by decide +kernel
theorem dX2_shrink_28 : decode cX2_shrink 28 = .ok (.invokestatic 93, 3) := by decide +kernel
theorem dX2_shrink_31 : decode cX2_shrink 31 = .ok (.ifCond .eq 31, 3) := by decide +kernel
theorem dX2_shrink_34 : decode cX2_shrink 34 = .ok (.aload_n 0, 1) := by decide +kernel
theorem dX2_shrink_35 : decode cX2_shrink 35 = .ok (.aload_n 2, 1) := by decide +kernel
theorem dX2_shrink_36 : decode cX2_shrink 36 = .ok (.aload_n 3, 1) := by decide +kernel
theorem dX2_shrink_37 : decode cX2_shrink 37 = .ok (.invokestatic 97, 3) := by decide +kernel
theorem dX2_shrink_40 : decode cX2_shrink 40 = .ok (.aload_n 2, 1) := by decide +kernel
theorem dX2_shrink_41 : decode cX2_shrink 41 = .ok (.aload_n 3, 1) := by decide +kernel
theorem dX2_shrink_42 : decode cX2_shrink 42 = .ok (.invokevirtual 62, 3) := by decide +kernel
theorem dX2_shrink_45 : decode cX2_shrink 45 = .ok (.iconst 0, 1) := by decide +kernel
theorem dX2_shrink_46 : decode cX2_shrink 46 = .ok (.invokevirtual 82, 3) := by decide +kernel
theorem dX2_shrink_49 : decode cX2_shrink 49 = .ok (.aload_n 0, 1) := by decide +kernel
theorem dX2_shrink_50 : decode cX2_shrink 50 = .ok (.aload_n 2, 1) := by decide +kernel
theorem dX2_shrink_51 : decode cX2_shrink 51 = .ok (.aload_n 3, 1) := by decide +kernel
theorem dX2_shrink_52 : decode cX2_shrink 52 = .ok (.invokestatic 85, 3) := by decide +kernel
theorem dX2_shrink_55 : decode cX2_shrink 55 = .ok (.pop, 1) := by decide +kernel
theorem dX2_shrink_56 : decode cX2_shrink 56 = .ok (.iinc 4 1, 3) := by decide +kernel
theorem dX2_shrink_59 : decode cX2_shrink 59 = .ok (.goto (-40), 3) := by decide +kernel
theorem dX2_shrink_62 : decode cX2_shrink 62 = .ok (.return_, 1) := by decide +kernel
theorem dX2_seam_0 : decode cX2_seam 0 = .ok (.aload_n 1, 1) := by decide +kernel
theorem dX2_seam_1 : decode cX2_seam 1 = .ok (.invokevirtual 9, 3) := by decide +kernel
theorem dX2_seam_4 : decode cX2_seam 4 = .ok (.aload_n 1, 1) := by decide +kernel
theorem dX2_seam_5 : decode cX2_seam 5 = .ok (.iconst 0, 1) := by decide +kernel
theorem dX2_seam_6 : decode cX2_seam 6 = .ok (.invokevirtual 59, 3) := by decide +kernel
theorem dX2_seam_9 : decode cX2_seam 9 = .ok (.iadd, 1) := by decide +kernel
theorem dX2_seam_10 : decode cX2_seam 10 = .ok (.aload_n 0, 1) := by decide +kernel
theorem dX2_seam_11 : decode cX2_seam 11 = .ok (.aload_n 1, 1) := by decide +kernel
theorem dX2_seam_12 : decode cX2_seam 12 = .ok (.invokevirtual 62, 3) := by decide +kernel
theorem dX2_seam_15 : decode cX2_seam 15 = .ok (.invokevirtual 24, 3) := by decide +kernel
theorem dX2_seam_18 : decode cX2_seam 18 = .ok (.invokestatic 40, 3) := by decide +kernel
theorem dX2_seam_21 : decode cX2_seam 21 = .ok (.ireturn, 1) := by decide +kernel
theorem dX2_canShrink_0 : decode cX2_canShrink 0 = .ok (.aload_n 1, 1) := by decide +kernel
theorem dX2_canShrink_1 : decode cX2_canShrink 1 = .ok (.iconst 0, 1) := by decide +kernel
theorem dX2_canShrink_2 : decode cX2_canShrink 2 = .ok (.invokevirtual 65, 3) := by decide +kernel
theorem dX2_canShrink_5 : decode cX2_canShrink 5 = .ok (.istore_n 2, 1) := by decide +kernel
theorem dX2_canShrink_6 : decode cX2_canShrink 6 = .ok (.aload_n 1, 1) := by decide +kernel
theorem dX2_canShrink_7 : decode cX2_canShrink 7 = .ok (.invokevirtual 50, 3) := by decide +kernel
theorem dX2_canShrink_10 : decode cX2_canShrink 10 = .ok (.iconst 1, 1) := by decide +kernel
theorem dX2_canShrink_11 : decode cX2_canShrink 11 = .ok (.if_icmp .le 34, 3) := by decide +kernel
theorem dX2_canShrink_14 : decode cX2_canShrink 14 = .ok (.aload_n 1, 1) := by decide +kernel
theorem dX2_canShrink_15 : decode cX2_canShrink 15 = .ok (.invokevirtual 34, 3) := by decide +kernel
theorem dX2_canShrink_18 : decode cX2_canShrink 18 = .ok (.iload_n 2, 1) := by decide +kernel
theorem dX2_canShrink_19 : decode cX2_canShrink 19 = .ok (.invokestatic 37, 3) := by decide +kernel
theorem dX2_canShrink_22 : decode cX2_canShrink 22 = .ok (.if_icmp .ne 23, 3) := by decide +kernel
theorem dX2_canShrink_25 : decode cX2_canShrink 25 = .ok (.aload_n 0, 1) := by decide +kernel
theorem dX2_canShrink_26 : decode cX2_canShrink 26 = .ok (.aload_n 1, 1) := by decide +kernel
theorem dX2_canShrink_27 : decode cX2_canShrink 27 = .ok (.invokestatic 100, 3) := by decide +kernel
theorem dX2_canShrink_30 : decode cX2_canShrink 30 = .ok (.aload_n 0, 1) := by decide +kernel
theorem dX2_canShrink_31 : decode cX2_canShrink 31 = .ok (.iload_n 2, 1) := by decide +kernel
theorem dX2_canShrink_32 : decode cX2_canShrink 32 = .ok (.invokevirtual 15, 3) := by decide +kernel
theorem dX2_canShrink_35 : decode cX2_canShrink 35 = .ok (.invokestatic 40, 3) := by decide +kernel
theorem dX2_canShrink_38 : decode cX2_canShrink 38 = .ok (.ifCond .ne 7, 3) := by decide +kernel
theorem dX2_canShrink_41 : decode cX2_canShrink 41 = .ok (.iconst 1, 1) := by decide +kernel
theorem dX2_canShrink_42 : decode cX2_canShrink 42 = .ok (.goto 4, 3) := by decide +kernel
theorem dX2_canShrink_45 : decode cX2_canShrink 45 = .ok (.iconst 0, 1) := by decide +kernel
theorem dX2_canShrink_46 : decode cX2_canShrink 46 = .ok (.ireturn, 1) := by decide +kernel
theorem dX2_cutEnds_0 : decode cX2_cutEnds 0 = .ok (.aload_n 1, 1) := by decide +kernel
theorem dX2_cutEnds_1 : decode cX2_cutEnds 1 = .ok (.iconst 0, 1) := by decide +kernel
theorem dX2_cutEnds_2 : decode cX2_cutEnds 2 = .ok (.invokevirtual 65, 3) := by decide +kernel
theorem dX2_cutEnds_5 : decode cX2_cutEnds 5 = .ok (.istore_n 3, 1) := by decide +kernel
theorem dX2_cutEnds_6 : decode cX2_cutEnds 6 = .ok (.aload_n 0, 1) := by decide +kernel
theorem dX2_cutEnds_7 : decode cX2_cutEnds 7 = .ok (.iload_n 3, 1) := by decide +kernel
theorem dX2_cutEnds_8 : decode cX2_cutEnds 8 = .ok (.invokevirtual 21, 3) := by decide +kernel
theorem dX2_cutEnds_11 : decode cX2_cutEnds 11 = .ok (.istore 4, 2) := by decide +kernel
theorem dX2_cutEnds_13 : decode cX2_cutEnds 13 = .ok (.aload_n 0, 1) := by decide +kernel
theorem dX2_cutEnds_14 : decode cX2_cutEnds 14 = .ok (.aload_n 1, 1) := by decide +kernel
theorem dX2_cutEnds_15 : decode cX2_cutEnds 15 = .ok (.invokestatic 100, 3) := by decide +kernel
theorem dX2_cutEnds_18 : decode cX2_cutEnds 18 = .ok (.aload_n 0, 1) := by decide +kernel
theorem dX2_cutEnds_19 : decode cX2_cutEnds 19 = .ok (.iload_n 3, 1) := by decide +kernel
theorem dX2_cutEnds_20 : decode cX2_cutEnds 20 = .ok (.invokevirtual 15, 3) := by decide +kernel
theorem dX2_cutEnds_23 : decode cX2_cutEnds 23 = .ok (.invokestatic 27, 3) := by decide +kernel
theorem dX2_cutEnds_26 : decode cX2_cutEnds 26 = .ok (.aload_n 0, 1) := by decide +kernel
theorem dX2_cutEnds_27 : decode cX2_cutEnds 27 = .ok (.iload_n 3, 1) := by decide +kernel
theorem dX2_cutEnds_28 : decode cX2_cutEnds 28 = .ok (.invokevirtual 31, 3) := by decide +kernel
theorem dX2_cutEnds_31 : decode cX2_cutEnds 31 = .ok (.imul, 1) := by decide +kernel
theorem dX2_cutEnds_32 : decode cX2_cutEnds 32 = .ok (.istore 5, 2) := by decide +kernel
theorem dX2_cutEnds_34 : decode cX2_cutEnds 34 = .ok (.aload_n 2, 1) := by decide +kernel
theorem dX2_cutEnds_35 : decode cX2_cutEnds 35 = .ok (.iload 4, 2) := by decide +kernel
theorem dX2_cutEnds_37 : decode cX2_cutEnds 37 = .ok (.aload_n 1, 1) := by decide +kernel
theorem dX2_cutEnds_38 : decode cX2_cutEnds 38 = .ok (.iconst 1, 1) := by decide +kernel
theorem dX2_cutEnds_39 : decode cX2_cutEnds 39 = .ok (.invokevirtual 59, 3) := by decide +kernel
theorem dX2_cutEnds_42 : decode cX2_cutEnds 42 = .ok (.invokevirtual 82, 3) := by decide +kernel
theorem dX2_cutEnds_45 : decode cX2_cutEnds 45 = .ok (.iconst 1, 1) := by decide +kernel
theorem dX2_cutEnds_46 : decode cX2_cutEnds 46 = .ok (.istore 6, 2) := by decide +kernel
theorem dX2_cutEnds_48 : decode cX2_cutEnds 48 = .ok (.iload 6, 2) := by decide +kernel
theorem dX2_cutEnds_50 : decode cX2_cutEnds 50 = .ok (.aload_n 1, 1) := by decide +kernel
theorem dX2_cutEnds_51 : decode cX2_cutEnds 51 = .ok (.invokevirtual 50, 3) := by decide +kernel
theorem dX2_cutEnds_54 : decode cX2_cutEnds 54 = .ok (.iconst 1, 1) := by decide +kernel
theorem dX2_cutEnds_55 : decode cX2_cutEnds 55 = .ok (.isub, 1) := by decide +kernel
theorem dX2_cutEnds_56 : decode cX2_cutEnds 56 = .ok (.if_icmp .ge 27, 3) := by decide +kernel
theorem dX2_cutEnds_59 : decode cX2_cutEnds 59 = .ok (.aload_n 2, 1) := by decide +kernel
theorem dX2_cutEnds_60 : decode cX2_cutEnds 60 = .ok (.aload_n 1, 1) := by decide +kernel
theorem dX2_cutEnds_61 : decode cX2_cutEnds 61 = .ok (.iload 6, 2) := by decide +kernel
theorem dX2_cutEnds_63 : decode cX2_cutEnds 63 = .ok (.invokevirtual 65, 3) := by decide +kernel
theorem dX2_cutEnds_66 : decode cX2_cutEnds 66 = .ok (.aload_n 1, 1) := by decide +kernel
theorem dX2_cutEnds_67 : decode cX2_cutEnds 67 = .ok (.iload 6, 2) := by decide +kernel
theorem dX2_cutEnds_69 : decode cX2_cutEnds 69 = .ok (.iconst 1, 1) := by decide +kernel
theorem dX2_cutEnds_70 : decode cX2_cutEnds 70 = .ok (.iadd, 1) := by decide +kernel
theorem dX2_cutEnds_71 : decode cX2_cutEnds 71 = .ok (.invokevirtual 59, 3) := by decide +kernel
theorem dX2_cutEnds_74 : decode cX2_cutEnds 74 = .ok (.invokevirtual 56, 3) := by decide +kernel
theorem dX2_cutEnds_77 : decode cX2_cutEnds 77 = .ok (.iinc 6 1, 3) := by decide +kernel
theorem dX2_cutEnds_80 : decode cX2_cutEnds 80 = .ok (.goto (-32), 3) := by decide +kernel
theorem dX2_cutEnds_83 : decode cX2_cutEnds 83 = .ok (.aload_n 2, 1) := by decide +kernel
theorem dX2_cutEnds_84 : decode cX2_cutEnds 84 = .ok (.iload 5, 2) := by decide +kernel
theorem dX2_cutEnds_86 : decode cX2_cutEnds 86 = .ok (.aload_n 0, 1) := by decide +kernel
theorem dX2_cutEnds_87 : decode cX2_cutEnds 87 = .ok (.iload 4, 2) := by decide +kernel
theorem dX2_cutEnds_89 : decode cX2_cutEnds 89 = .ok (.invokevirtual 24, 3) := by decide +kernel
theorem dX2_cutEnds_92 : decode cX2_cutEnds 92 = .ok (.invokevirtual 46, 3) := by decide +kernel
theorem dX2_cutEnds_95 : decode cX2_cutEnds 95 = .ok (.return_, 1) := by decide +kernel
theorem dX2_beginBehind_0 : decode cX2_beginBehind 0 = .ok (.iload_n 2, 1) := by decide +kernel
theorem dX2_beginBehind_1 : decode cX2_beginBehind 1 = .ok (.iconst 1, 1) := by decide +kernel
theorem dX2_beginBehind_2 : decode cX2_beginBehind 2 = .ok (.if_icmp .ge 19, 3) := by decide +kernel
theorem dX2_beginBehind_5 : decode cX2_beginBehind 5 = .ok (.aload_n 3, 1) := by decide +kernel
theorem dX2_beginBehind_6 : decode cX2_beginBehind 6 = .ok (.aload_n 1, 1) := by decide +kernel
theorem dX2_beginBehind_7 : decode cX2_beginBehind 7 = .ok (.invokevirtual 62, 3) := by decide +kernel
theorem dX2_beginBehind_10 : decode cX2_beginBehind 10 = .ok (.aload_n 1, 1) := by decide +kernel
theorem dX2_beginBehind_11 : decode cX2_beginBehind 11 = .ok (.iconst 0, 1) := by decide +kernel
theorem dX2_beginBehind_12 : decode cX2_beginBehind 12 = .ok (.invokevirtual 59, 3) := by decide +kernel
theorem dX2_beginBehind_15 : decode cX2_beginBehind 15 = .ok (.invokevirtual 82, 3) := by decide +kernel
theorem dX2_beginBehind_18 : decode cX2_beginBehind 18 = .ok (.goto 23, 3) := by decide +kernel
theorem dX2_beginBehind_21 : decode cX2_beginBehind 21 = .ok (.aload_n 3, 1) := by decide +kernel
theorem dX2_beginBehind_22 : decode cX2_beginBehind 22 = .ok (.aload_n 0, 1) := by decide +kernel
theorem dX2_beginBehind_23 : decode cX2_beginBehind 23 = .ok (.aload_n 1, 1) := by decide +kernel
theorem dX2_beginBehind_24 : decode cX2_beginBehind 24 = .ok (.iload_n 2, 1) := by decide +kernel
theorem dX2_beginBehind_25 : decode cX2_beginBehind 25 = .ok (.iconst 1, 1) := by decide +kernel
theorem dX2_beginBehind_26 : decode cX2_beginBehind 26 = .ok (.isub, 1) := by decide +kernel
theorem dX2_beginBehind_27 : decode cX2_beginBehind 27 = .ok (.invokevirtual 65, 3) := by decide +kernel
theorem dX2_beginBehind_30 : decode cX2_beginBehind 30 = .ok (.invokevirtual 21, 3) := by decide +kernel
theorem dX2_beginBehind_33 : decode cX2_beginBehind 33 = .ok (.aload_n 1, 1) := by decide +kernel
theorem dX2_beginBehind_34 : decode cX2_beginBehind 34 = .ok (.iload_n 2, 1) := by decide +kernel
theorem dX2_beginBehind_35 : decode cX2_beginBehind 35 = .ok (.invokevirtual 59, 3) := by decide +kernel
theorem dX2_beginBehind_38 : decode cX2_beginBehind 38 = .ok (.invokevirtual 82, 3) := by decide +kernel
theorem dX2_beginBehind_41 : decode cX2_beginBehind 41 = .ok (.iload_n 2, 1) := by decide +kernel
theorem dX2_beginBehind_42 : decode cX2_beginBehind 42 = .ok (.istore 4, 2) := by decide +kernel
theorem dX2_beginBehind_44 : decode cX2_beginBehind 44 = .ok (.iload 4, 2) := by decide +kernel
theorem dX2_beginBehind_46 : decode cX2_beginBehind 46 = .ok (.aload_n 1, 1) := by decide +kernel
theorem dX2_beginBehind_47 : decode cX2_beginBehind 47 = .ok (.invokevirtual 50, 3) := by decide +kernel
theorem dX2_beginBehind_50 : decode cX2_beginBehind 50 = .ok (.if_icmp .ge 27, 3) := by decide +kernel
theorem dX2_beginBehind_53 : decode cX2_beginBehind 53 = .ok (.aload_n 3, 1) := by decide +kernel
theorem dX2_beginBehind_54 : decode cX2_beginBehind 54 = .ok (.aload_n 1, 1) := by decide +kernel
theorem dX2_beginBehind_55 : decode cX2_beginBehind 55 = .ok (.iload 4, 2) := by decide +kernel
theorem dX2_beginBehind_57 : decode cX2_beginBehind 57 = .ok (.invokevirtual 65, 3) := by decide +kernel
theorem dX2_beginBehind_60 : decode cX2_beginBehind 60 = .ok (.aload_n 1, 1) := by decide +kernel
theorem dX2_beginBehind_61 : decode cX2_beginBehind 61 = .ok (.iload 4, 2) := by decide +kernel
theorem dX2_beginBehind_63 : decode cX2_beginBehind 63 = .ok (.iconst 1, 1) := by decide +kernel
theorem dX2_beginBehind_64 : decode cX2_beginBehind 64 = .ok (.iadd, 1) := by decide +kernel
theorem dX2_beginBehind_65 : decode cX2_beginBehind 65 = .ok (.invokevirtual 59, 3) := by decide +kernel
theorem dX2_beginBehind_68 : decode cX2_beginBehind 68 = .ok (.invokevirtual 56, 3) := by decide +kernel
theorem dX2_beginBehind_71 : decode cX2_beginBehind 71 = .ok (.iinc 4 1, 3) := by decide +kernel
theorem dX2_beginBehind_74 : decode cX2_beginBehind 74 = .ok (.goto (-30), 3) := by decide +kernel
theorem dX2_beginBehind_77 : decode cX2_beginBehind 77 = .ok (.iload_n 2, 1) := by decide +kernel
theorem dX2_beginBehind_78 : decode cX2_beginBehind 78 = .ok (.ifCond .le 20, 3) := by decide +kernel
theorem dX2_beginBehind_81 : decode cX2_beginBehind 81 = .ok (.aload_n 3, 1) := by decide +kernel
theorem dX2_beginBehind_82 : decode cX2_beginBehind 82 = .ok (.aload_n 1, 1) := by decide +kernel
theorem dX2_beginBehind_83 : decode cX2_beginBehind 83 = .ok (.iconst 0, 1) := by decide +kernel
theorem dX2_beginBehind_84 : decode cX2_beginBehind 84 = .ok (.invokevirtual 59, 3) := by decide +kernel
theorem dX2_beginBehind_87 : decode cX2_beginBehind 87 = .ok (.aload_n 0, 1) := by decide +kernel
theorem dX2_beginBehind_88 : decode cX2_beginBehind 88 = .ok (.aload_n 1, 1) := by decide +kernel
theorem dX2_beginBehind_89 : decode cX2_beginBehind 89 = .ok (.invokevirtual 62, 3) := by decide +kernel
theorem dX2_beginBehind_92 : decode cX2_beginBehind 92 = .ok (.invokevirtual 24, 3) := by decide +kernel
theorem dX2_beginBehind_95 : decode cX2_beginBehind 95 = .ok (.invokevirtual 46, 3) := by decide +kernel
theorem dX2_beginBehind_98 : decode cX2_beginBehind 98 = .ok (.iconst 0, 1) := by decide +kernel
theorem dX2_beginBehind_99 : decode cX2_beginBehind 99 = .ok (.istore 4, 2) := by decide +kernel
theorem dX2_beginBehind_101 : decode cX2_beginBehind 101 = .ok (.iload 4, 2) := by decide +kernel
theorem dX2_beginBehind_103 : decode cX2_beginBehind 103 = .ok (.iload_n 2, 1) := by decide +kernel
theorem dX2_beginBehind_104 : decode cX2_beginBehind 104 = .ok (.if_icmp .ge 39, 3) := by decide +kernel
theorem dX2_beginBehind_107 : decode cX2_beginBehind 107 = .ok (.aload_n 3, 1) := by decide +kernel
theorem dX2_beginBehind_108 : decode cX2_beginBehind 108 = .ok (.aload_n 1, 1) := by decide +kernel
theorem dX2_beginBehind_109 : decode cX2_beginBehind 109 = .ok (.iload 4, 2) := by decide +kernel
theorem dX2_beginBehind_111 : decode cX2_beginBehind 111 = .ok (.invokevirtual 65, 3) := by decide +kernel
theorem dX2_beginBehind_114 : decode cX2_beginBehind 114 = .ok (.iload 4, 2) := by decide +kernel
theorem dX2_beginBehind_116 : decode cX2_beginBehind 116 = .ok (.iconst 1, 1) := by decide +kernel
theorem dX2_beginBehind_117 : decode cX2_beginBehind 117 = .ok (.iadd, 1) := by decide +kernel
theorem dX2_beginBehind_118 : decode cX2_beginBehind 118 = .ok (.iload_n 2, 1) := by decide +kernel
theorem dX2_beginBehind_119 : decode cX2_beginBehind 119 = .ok (.if_icmp .ge 14, 3) := by decide +kernel
theorem dX2_beginBehind_122 : decode cX2_beginBehind 122 = .ok (.aload_n 1, 1) := by decide +kernel
theorem dX2_beginBehind_123 : decode cX2_beginBehind 123 = .ok (.iload 4, 2) := by decide +kernel
theorem dX2_beginBehind_125 : decode cX2_beginBehind 125 = .ok (.iconst 1, 1) := by decide +kernel
theorem dX2_beginBehind_126 : decode cX2_beginBehind 126 = .ok (.iadd, 1) := by decide +kernel
theorem dX2_beginBehind_127 : decode cX2_beginBehind 127 = .ok (.invokevirtual 59, 3) := by decide +kernel
theorem dX2_beginBehind_130 : decode cX2_beginBehind 130 = .ok (.goto 4, 3) := by decide +kernel
theorem dX2_beginBehind_133 : decode cX2_beginBehind 133 = .ok (.iconst 0, 1) := by decide +kernel
theorem dX2_beginBehind_134 : decode cX2_beginBehind 134 = .ok (.invokevirtual 56, 3) := by decide +kernel
theorem dX2_beginBehind_137 : decode cX2_beginBehind 137 = .ok (.iinc 4 1, 3) := by decide +kernel
theorem dX2_beginBehind_140 : decode cX2_beginBehind 140 = .ok (.goto (-39), 3) := by decide +kernel
theorem dX2_beginBehind_143 : decode cX2_beginBehind 143 = .ok (.return_, 1) := by decide +kernel
theorem dX3_slot_0 : decode cX3_slot 0 = .ok (.aload_n 0, 1) := by decide +kernel
theorem dX3_slot_1 : decode cX3_slot 1 = .ok (.getfield 17, 3) := by decide +kernel
theorem dX3_slot_4 : decode cX3_slot 4 = .ok (.iload_n 1, 1) := by decide +kernel
theorem dX3_slot_5 : decode cX3_slot 5 = .ok (.iadd, 1) := by decide +kernel
theorem dX3_slot_6 : decode cX3_slot 6 = .ok (.bipush 8, 2) := by decide +kernel
theorem dX3_slot_8 : decode cX3_slot 8 = .ok (.invokestatic 25, 3) := by decide +kernel
theorem dX3_slot_11 : decode cX3_slot 11 = .ok (.istore_n 2, 1) := by decide +kernel
theorem dX3_slot_12 : decode cX3_slot 12 = .ok (.iload_n 2, 1) := by decide +kernel
theorem dX3_slot_13 : decode cX3_slot 13 = .ok (.aload_n 0, 1) := by decide +kernel
theorem dX3_slot_14 : decode cX3_slot 14 = .ok (.getfield 11, 3) := by decide +kernel
theorem dX3_slot_17 : decode cX3_slot 17 = .ok (.arraylength, 1) := by decide +kernel
theorem dX3_slot_18 : decode cX3_slot 18 = .ok (.if_icmp .ge 12, 3) := by decide +kernel
theorem dX3_slot_21 : decode cX3_slot 21 = .ok (.aload_n 0, 1) := by decide +kernel
theorem dX3_slot_22 : decode cX3_slot 22 = .ok (.getfield 11, 3) := by decide +kernel
theorem dX3_slot_25 : decode cX3_slot 25 = .ok (.iload_n 2, 1) := by decide +kernel
theorem dX3_slot_26 : decode cX3_slot 26 = .ok (.aaload, 1) := by decide +kernel
theorem dX3_slot_27 : decode cX3_slot 27 = .ok (.goto 4, 3) := by decide +kernel
theorem dX3_slot_31 : decode cX3_slot 31 = .ok (.areturn, 1) := by decide +kernel
theorem dX3_size_0 : decode cX3_size 0 = .ok (.aload_n 0, 1) := by decide +kernel
theorem dX3_size_1 : decode cX3_size 1 = .ok (.getfield 21, 3) := by decide +kernel
theorem dX3_size_4 : decode cX3_size 4 = .ok (.ireturn, 1) := by decide +kernel
theorem dX3_push_0 : decode cX3_push 0 = .ok (.aload_n 0, 1) := by decide +kernel
theorem dX3_push_1 : decode cX3_push 1 = .ok (.getfield 21, 3) := by decide +kernel
theorem dX3_push_4 : decode cX3_push 4 = .ok (.bipush 8, 2) := by decide +kernel
theorem dX3_push_6 : decode cX3_push 6 = .ok (.if_icmp .lt 24, 3) := by decide +kernel
theorem dX3_push_9 : decode cX3_push 9 = .ok (.aload_n 0, 1) := by decide +kernel
theorem dX3_push_10 : decode cX3_push 10 = .ok (.aload_n 0, 1) := by decide +kernel
theorem dX3_push_11 : decode cX3_push 11 = .ok (.getfield 17, 3) := by decide +kernel
theorem dX3_push_14 : decode cX3_push 14 = .ok (.iconst 1, 1) := by decide +kernel
theorem dX3_push_15 : decode cX3_push 15 = .ok (.iadd, 1) := by decide +kernel
theorem dX3_push_16 : decode cX3_push 16 = .ok (.bipush 8, 2) := by decide +kernel
theorem dX3_push_18 : decode cX3_push 18 = .ok (.invokestatic 25, 3) := by decide +kernel
theorem dX3_push_21 : decode cX3_push 21 = .ok (.putfield 17, 3) := by decide +kernel
theorem dX3_push_24 : decode cX3_push 24 = .ok (.aload_n 0, 1) := by decide +kernel
theorem dX3_push_25 : decode cX3_push 25 = .ok (.bipush 7, 2) := by decide +kernel
theorem dX3_push_27 : decode cX3_push 27 = .ok (.putfield 21, 3) := by decide +kernel
theorem dX3_push_30 : decode cX3_push 30 = .ok (.aload_n 0, 1) := by decide +kernel
theorem dX3_push_31 : decode cX3_push 31 = .ok (.aload_n 0, 1) := by decide +kernel
theorem dX3_push_32 : decode cX3_push 32 = .ok (.getfield 21, 3) := by decide +kernel
theorem dX3_push_35 : decode cX3_push 35 = .ok (.invokevirtual 29, 3) := by decide +kernel
theorem dX3_push_38 : decode cX3_push 38 = .ok (.astore_n 2, 1) := by decide +kernel
theorem dX3_push_39 : decode cX3_push 39 = .ok (.aload_n 2, 1) := by decide +kernel
theorem dX3_push_40 : decode cX3_push 40 = .ok (.ifnull 18, 3) := by decide +kernel
theorem dX3_push_43 : decode cX3_push 43 = .ok (.aload_n 2, 1) := by decide +kernel
theorem dX3_push_44 : decode cX3_push 44 = .ok (.aload_n 1, 1) := by decide +kernel
theorem dX3_push_45 : decode cX3_push 45 = .ok (.invokevirtual 33, 3) := by decide +kernel
theorem dX3_push_48 : decode cX3_push 48 = .ok (.aload_n 0, 1) := by decide +kernel
theorem dX3_push_49 : decode cX3_push 49 = .ok (.dup, 1) := by decide +kernel
theorem dX3_push_50 : decode cX3_push 50 = .ok (.getfield 21, 3) := by decide +kernel
theorem dX3_push_53 : decode cX3_push 53 = .ok (.iconst 1, 1) := by decide +kernel
theorem dX3_push_54 : decode cX3_push 54 = .ok (.iadd, 1) := by decide +kernel
theorem dX3_push_55 : decode cX3_push 55 = .ok (.putfield 21, 3) := by decide +kernel
theorem dX3_push_58 : decode cX3_push 58 = .ok (.return_, 1) := by decide +kernel
theorem dX3_pop_0 : decode cX3_pop 0 = .ok (.aload_n 0, 1) := by decide +kernel
theorem dX3_pop_1 : decode cX3_pop 1 = .ok (.aload_n 0, 1) := by decide +kernel
theorem dX3_pop_2 : decode cX3_pop 2 = .ok (.getfield 21, 3) := by decide +kernel
theorem dX3_pop_5 : decode cX3_pop 5 = .ok (.iconst 1, 1) := by decide +kernel
theorem dX3_pop_6 : decode cX3_pop 6 = .ok (.isub, 1) := by decide +kernel
theorem dX3_pop_7 : decode cX3_pop 7 = .ok (.invokevirtual 29, 3) := by decide +kernel
theorem dX3_pop_10 : decode cX3_pop 10 = .ok (.astore_n 2, 1) := by decide +kernel
theorem dX3_pop_11 : decode cX3_pop 11 = .ok (.aload_n 0, 1) := by decide +kernel
theorem dX3_pop_12 : decode cX3_pop 12 = .ok (.getfield 21, 3) := by decide +kernel
theorem dX3_pop_15 : decode cX3_pop 15 = .ok (.iconst 1, 1) := by decide +kernel
theorem dX3_pop_16 : decode cX3_pop 16 = .ok (.if_icmp .lt 7, 3) := by decide +kernel
theorem dX3_pop_19 : decode cX3_pop 19 = .ok (.aload_n 2, 1) := by decide +kernel
theorem dX3_pop_20 : decode cX3_pop 20 = .ok (.ifnonnull 5, 3) := by decide +kernel
theorem dX3_pop_23 : decode cX3_pop 23 = .ok (.iconst 0, 1) := by decide +kernel
theorem dX3_pop_24 : decode cX3_pop 24 = .ok (.ireturn, 1) := by decide +kernel
theorem dX3_pop_25 : decode cX3_pop 25 = .ok (.aload_n 1, 1) := by decide +kernel
theorem dX3_pop_26 : decode cX3_pop 26 = .ok (.aload_n 2, 1) := by decide +kernel
theorem dX3_pop_27 : decode cX3_pop 27 = .ok (.invokevirtual 33, 3) := by decide +kernel
theorem dX3_pop_30 : decode cX3_pop 30 = .ok (.aload_n 0, 1) := by decide +kernel
theorem dX3_pop_31 : decode cX3_pop 31 = .ok (.dup, 1) := by decide +kernel
theorem dX3_pop_32 : decode cX3_pop 32 = .ok (.getfield 21, 3) := by decide +kernel
theorem dX3_pop_35 : decode cX3_pop 35 = .ok (.iconst 1, 1) := by decide +kernel
theorem dX3_pop_36 : decode cX3_pop 36 = .ok (.isub, 1) := by decide +kernel
theorem dX3_pop_37 : decode cX3_pop 37 = .ok (.putfield 21, 3) := by decide +kernel
theorem dX3_pop_40 : decode cX3_pop 40 = .ok (.iconst 1, 1) := by decide +kernel
theorem dX3_pop_41 : decode cX3_pop 41 = .ok (.ireturn, 1) := by decide +kernel
theorem dX3_copyFrom_0 : decode cX3_copyFrom 0 = .ok (.aload_n 0, 1) := by decide +kernel
theorem dX3_copyFrom_1 : decode cX3_copyFrom 1 = .ok (.iconst 0, 1) := by decide +kernel
theorem dX3_copyFrom_2 : decode cX3_copyFrom 2 = .ok (.putfield 17, 3) := by decide +kernel
theorem dX3_copyFrom_5 : decode cX3_copyFrom 5 = .ok (.aload_n 0, 1) := by decide +kernel
theorem dX3_copyFrom_6 : decode cX3_copyFrom 6 = .ok (.iconst 0, 1) := by decide +kernel
theorem dX3_copyFrom_7 : decode cX3_copyFrom 7 = .ok (.putfield 21, 3) := by decide +kernel
theorem dX3_copyFrom_10 : decode cX3_copyFrom 10 = .ok (.iconst 0, 1) := by decide +kernel
theorem dX3_copyFrom_11 : decode cX3_copyFrom 11 = .ok (.istore_n 2, 1) := by decide +kernel
theorem dX3_copyFrom_12 : decode cX3_copyFrom 12 = .ok (.iload_n 2, 1) := by decide +kernel
theorem dX3_copyFrom_13 : decode cX3_copyFrom 13 = .ok (.aload_n 1, 1) := by decide +kernel
theorem dX3_copyFrom_14 : decode cX3_copyFrom 14 = .ok (.getfield 21, 3) := by decide +kernel
theorem dX3_copyFrom_17 : decode cX3_copyFrom 17 = .ok (.if_icmp .ge 24, 3) := by decide +kernel
theorem dX3_copyFrom_20 : decode cX3_copyFrom 20 = .ok (.aload_n 1, 1) := by decide +kernel
theorem dX3_copyFrom_21 : decode cX3_copyFrom 21 = .ok (.iload_n 2, 1) := by decide +kernel
theorem dX3_copyFrom_22 : decode cX3_copyFrom 22 = .ok (.invokevirtual 29, 3) := by decide +kernel
theorem dX3_copyFrom_25 : decode cX3_copyFrom 25 = .ok (.astore_n 3, 1) := by decide +kernel
theorem dX3_copyFrom_26 : decode cX3_copyFrom 26 = .ok (.aload_n 3, 1) := by decide +kernel
theorem dX3_copyFrom_27 : decode cX3_copyFrom 27 = .ok (.ifnull 8, 3) := by decide +kernel
theorem dX3_copyFrom_30 : decode cX3_copyFrom 30 = .ok (.aload_n 0, 1) := by decide +kernel
theorem dX3_copyFrom_31 : decode cX3_copyFrom 31 = .ok (.aload_n 3, 1) := by decide +kernel
theorem dX3_copyFrom_32 : decode cX3_copyFrom 32 = .ok (.invokevirtual 37, 3) := by decide +kernel
theorem dX3_copyFrom_35 : decode cX3_copyFrom 35 = .ok (.iinc 2 1, 3) := by decide +kernel
theorem dX3_copyFrom_38 : decode cX3_copyFrom 38 = .ok (.goto (-26), 3) := by decide +kernel
theorem dX3_copyFrom_41 : decode cX3_copyFrom 41 = .ok (.return_, 1) := by decide +kernel
theorem dX4_start_0 : decode cX4_start 0 = .ok (.aload_n 1, 1) := by decide +kernel
theorem dX4_start_1 : decode cX4_start 1 = .ok (.aload_n 2, 1) := by decide +kernel
theorem dX4_start_2 : decode cX4_start 2 = .ok (.aload_n 0, 1) := by decide +kernel
theorem dX4_start_3 : decode cX4_start 3 = .ok (.getfield 12, 3) := by decide +kernel
theorem dX4_start_6 : decode cX4_start 6 = .ok (.aload_n 0, 1) := by decide +kernel
theorem dX4_start_7 : decode cX4_start 7 = .ok (.getfield 24, 3) := by decide +kernel
theorem dX4_start_10 : decode cX4_start 10 = .ok (.invokestatic 45, 3) := by decide +kernel
theorem dX4_start_13 : decode cX4_start 13 = .ok (.aload_n 0, 1) := by decide +kernel
theorem dX4_start_14 : decode cX4_start 14 = .ok (.getfield 12, 3) := by decide +kernel
theorem dX4_start_17 : decode cX4_start 17 = .ok (.invokevirtual 51, 3) := by decide +kernel
theorem dX4_start_20 : decode cX4_start 20 = .ok (.ifCond .ne 8, 3) := by decide +kernel
theorem dX4_start_23 : decode cX4_start 23 = .ok (.aload_n 0, 1) := by decide +kernel
theorem dX4_start_24 : decode cX4_start 24 = .ok (.aload_n 1, 1) := by decide +kernel
theorem dX4_start_25 : decode cX4_start 25 = .ok (.invokevirtual 55, 3) := by decide +kernel
theorem dX4_start_28 : decode cX4_start 28 = .ok (.return_, 1) := by decide +kernel
theorem dX4_begunBehind_0 : decode cX4_begunBehind 0 = .ok (.aload_n 0, 1) := by decide +kernel
theorem dX4_begunBehind_1 : decode cX4_begunBehind 1 = .ok (.getfield 38, 3) := by decide +kernel
theorem dX4_begunBehind_4 : decode cX4_begunBehind 4 = .ok (.ireturn, 1) := by decide +kernel
theorem dX4_numberTaken_0 : decode cX4_numberTaken 0 = .ok (.aload_n 0, 1) := by decide +kernel
theorem dX4_numberTaken_1 : decode cX4_numberTaken 1 = .ok (.getfield 42, 3) := by decide +kernel
theorem dX4_numberTaken_4 : decode cX4_numberTaken 4 = .ok (.ireturn, 1) := by decide +kernel
theorem dX4_reaches_0 : decode cX4_reaches 0 = .ok (.aload_n 1, 1) := by decide +kernel
theorem dX4_reaches_1 : decode cX4_reaches 1 = .ok (.aload_n 2, 1) := by decide +kernel
theorem dX4_reaches_2 : decode cX4_reaches 2 = .ok (.aload_n 0, 1) := by decide +kernel
theorem dX4_reaches_3 : decode cX4_reaches 3 = .ok (.getfield 18, 3) := by decide +kernel
theorem dX4_reaches_6 : decode cX4_reaches 6 = .ok (.aload_n 0, 1) := by decide +kernel
theorem dX4_reaches_7 : decode cX4_reaches 7 = .ok (.getfield 24, 3) := by decide +kernel
theorem dX4_reaches_10 : decode cX4_reaches 10 = .ok (.invokestatic 45, 3) := by decide +kernel
theorem dX4_reaches_13 : decode cX4_reaches 13 = .ok (.aload_n 0, 1) := by decide +kernel
theorem dX4_reaches_14 : decode cX4_reaches 14 = .ok (.getfield 18, 3) := by decide +kernel
theorem dX4_reaches_17 : decode cX4_reaches 17 = .ok (.invokevirtual 51, 3) := by decide +kernel
theorem dX4_reaches_20 : decode cX4_reaches 20 = .ok (.aload_n 0, 1) := by decide +kernel
theorem dX4_reaches_21 : decode cX4_reaches 21 = .ok (.getfield 12, 3) := by decide +kernel
theorem dX4_reaches_24 : decode cX4_reaches 24 = .ok (.invokevirtual 51, 3) := by decide +kernel
theorem dX4_reaches_27 : decode cX4_reaches 27 = .ok (.if_icmp .eq 5, 3) := by decide +kernel
theorem dX4_reaches_30 : decode cX4_reaches 30 = .ok (.iconst 0, 1) := by decide +kernel
theorem dX4_reaches_31 : decode cX4_reaches 31 = .ok (.ireturn, 1) := by decide +kernel
theorem dX4_reaches_32 : decode cX4_reaches 32 = .ok (.aload_n 0, 1) := by decide +kernel
theorem dX4_reaches_33 : decode cX4_reaches 33 = .ok (.getfield 12, 3) := by decide +kernel
theorem dX4_reaches_36 : decode cX4_reaches 36 = .ok (.invokevirtual 51, 3) := by decide +kernel
theorem dX4_reaches_39 : decode cX4_reaches 39 = .ok (.ifCond .ne 11, 3) := by decide +kernel
theorem dX4_reaches_42 : decode cX4_reaches 42 = .ok (.aload_n 0, 1) := by decide +kernel
theorem dX4_reaches_43 : decode cX4_reaches 43 = .ok (.aload_n 1, 1) := by decide +kernel
theorem dX4_reaches_44 : decode cX4_reaches 44 = .ok (.invokevirtual 59, 3) := by decide +kernel
theorem dX4_reaches_47 : decode cX4_reaches 47 = .ok (.goto 8, 3) := by decide +kernel
theorem dX4_reaches_50 : decode cX4_reaches 50 = .ok (.aload_n 0, 1) := by decide +kernel
theorem dX4_reaches_51 : decode cX4_reaches 51 = .ok (.aload_n 1, 1) := by decide +kernel
theorem dX4_reaches_52 : decode cX4_reaches 52 = .ok (.invokevirtual 63, 3) := by decide +kernel
theorem dX4_reaches_55 : decode cX4_reaches 55 = .ok (.ireturn, 1) := by decide +kernel
theorem dX4_reachesSteps_0 : decode cX4_reachesSteps 0 = .ok (.aload_n 0, 1) := by decide +kernel
theorem dX4_reachesSteps_1 : decode cX4_reachesSteps 1 = .ok (.getfield 30, 3) := by decide +kernel
theorem dX4_reachesSteps_4 : decode cX4_reachesSteps 4 = .ok (.aload_n 1, 1) := by decide +kernel
theorem dX4_reachesSteps_5 : decode cX4_reachesSteps 5 = .ok (.aload_n 0, 1) := by decide +kernel
theorem dX4_reachesSteps_6 : decode cX4_reachesSteps 6 = .ok (.getfield 18, 3) := by decide +kernel
theorem dX4_reachesSteps_9 : decode cX4_reachesSteps 9 = .ok (.invokevirtual 66, 3) := by decide +kernel
theorem dX4_reachesSteps_12 : decode cX4_reachesSteps 12 = .ok (.iconst 0, 1) := by decide +kernel
theorem dX4_reachesSteps_13 : decode cX4_reachesSteps 13 = .ok (.istore_n 2, 1) := by decide +kernel
theorem dX4_reachesSteps_14 : decode cX4_reachesSteps 14 = .ok (.iload_n 2, 1) := by decide +kernel
theorem dX4_reachesSteps_15 : decode cX4_reachesSteps 15 = .ok (.aload_n 0, 1) := by decide +kernel
theorem dX4_reachesSteps_16 : decode cX4_reachesSteps 16 = .ok (.getfield 12, 3) := by decide +kernel
theorem dX4_reachesSteps_19 : decode cX4_reachesSteps 19 = .ok (.invokevirtual 51, 3) := by decide +kernel
theorem dX4_reachesSteps_22 : decode cX4_reachesSteps 22 = .ok (.if_icmp .ge 51, 3) := by decide +kernel
theorem dX4_reachesSteps_25 : decode cX4_reachesSteps 25 = .ok (.aload_n 1, 1) := by decide +kernel
theorem dX4_reachesSteps_26 : decode cX4_reachesSteps 26 = .ok (.aload_n 0, 1) := by decide +kernel
theorem dX4_reachesSteps_27 : decode cX4_reachesSteps 27 = .ok (.getfield 12, 3) := by decide +kernel
theorem dX4_reachesSteps_30 : decode cX4_reachesSteps 30 = .ok (.iload_n 2, 1) := by decide +kernel
theorem dX4_reachesSteps_31 : decode cX4_reachesSteps 31 = .ok (.aload_n 0, 1) := by decide +kernel
theorem dX4_reachesSteps_32 : decode cX4_reachesSteps 32 = .ok (.getfield 21, 3) := by decide +kernel
theorem dX4_reachesSteps_35 : decode cX4_reachesSteps 35 = .ok (.invokestatic 70, 3) := by decide +kernel
theorem dX4_reachesSteps_38 : decode cX4_reachesSteps 38 = .ok (.aload_n 0, 1) := by decide +kernel
theorem dX4_reachesSteps_39 : decode cX4_reachesSteps 39 = .ok (.getfield 21, 3) := by decide +kernel
theorem dX4_reachesSteps_42 : decode cX4_reachesSteps 42 = .ok (.aload_n 0, 1) := by decide +kernel
theorem dX4_reachesSteps_43 : decode cX4_reachesSteps 43 = .ok (.getfield 18, 3) := by decide +kernel
theorem dX4_reachesSteps_46 : decode cX4_reachesSteps 46 = .ok (.invokevirtual 74, 3) := by decide +kernel
theorem dX4_reachesSteps_49 : decode cX4_reachesSteps 49 = .ok (.ifCond .eq 18, 3) := by decide +kernel
theorem dX4_reachesSteps_52 : decode cX4_reachesSteps 52 = .ok (.aload_n 0, 1) := by decide +kernel
theorem dX4_reachesSteps_53 : decode cX4_reachesSteps 53 = .ok (.aload_n 1, 1) := by decide +kernel
theorem dX4_reachesSteps_54 : decode cX4_reachesSteps 54 = .ok (.invokevirtual 78, 3) := by decide +kernel
theorem dX4_reachesSteps_57 : decode cX4_reachesSteps 57 = .ok (.ifCond .eq 10, 3) := by decide +kernel
theorem dX4_reachesSteps_60 : decode cX4_reachesSteps 60 = .ok (.aload_n 0, 1) := by decide +kernel
theorem dX4_reachesSteps_61 : decode cX4_reachesSteps 61 = .ok (.iload_n 2, 1) := by decide +kernel
theorem dX4_reachesSteps_62 : decode cX4_reachesSteps 62 = .ok (.putfield 38, 3) := by decide +kernel
theorem dX4_reachesSteps_65 : decode cX4_reachesSteps 65 = .ok (.iconst 1, 1) := by decide +kernel
theorem dX4_reachesSteps_66 : decode cX4_reachesSteps 66 = .ok (.ireturn, 1) := by decide +kernel
theorem dX4_reachesSteps_67 : decode cX4_reachesSteps 67 = .ok (.iinc 2 1, 3) := by decide +kernel
theorem dX4_reachesSteps_70 : decode cX4_reachesSteps 70 = .ok (.goto (-56), 3) := by decide +kernel
theorem dX4_reachesSteps_73 : decode cX4_reachesSteps 73 = .ok (.iconst 0, 1) := by decide +kernel
theorem dX4_reachesSteps_74 : decode cX4_reachesSteps 74 = .ok (.ireturn, 1) := by decide +kernel
theorem dX4_findNumber_0 : decode cX4_findNumber 0 = .ok (.aload_n 1, 1) := by decide +kernel
theorem dX4_findNumber_1 : decode cX4_findNumber 1 = .ok (.aload_n 0, 1) := by decide +kernel
theorem dX4_findNumber_2 : decode cX4_findNumber 2 = .ok (.getfield 21, 3) := by decide +kernel
theorem dX4_findNumber_5 : decode cX4_findNumber 5 = .ok (.invokevirtual 81, 3) := by decide +kernel
theorem dX4_findNumber_8 : decode cX4_findNumber 8 = .ok (.invokevirtual 84, 3) := by decide +kernel
theorem dX4_findNumber_11 : decode cX4_findNumber 11 = .ok (.istore_n 2, 1) := by decide +kernel
theorem dX4_findNumber_12 : decode cX4_findNumber 12 = .ok (.aload_n 0, 1) := by decide +kernel
theorem dX4_findNumber_13 : decode cX4_findNumber 13 = .ok (.getfield 21, 3) := by decide +kernel
theorem dX4_findNumber_16 : decode cX4_findNumber 16 = .ok (.iconst 0, 1) := by decide +kernel
theorem dX4_findNumber_17 : decode cX4_findNumber 17 = .ok (.invokevirtual 90, 3) := by decide +kernel
theorem dX4_findNumber_20 : decode cX4_findNumber 20 = .ok (.istore_n 3, 1) := by decide +kernel
theorem dX4_findNumber_21 : decode cX4_findNumber 21 = .ok (.aload_n 0, 1) := by decide +kernel
theorem dX4_findNumber_22 : decode cX4_findNumber 22 = .ok (.getfield 21, 3) := by decide +kernel
theorem dX4_findNumber_25 : decode cX4_findNumber 25 = .ok (.invokevirtual 93, 3) := by decide +kernel
theorem dX4_findNumber_28 : decode cX4_findNumber 28 = .ok (.istore 4, 2) := by decide +kernel
theorem dX4_findNumber_30 : decode cX4_findNumber 30 = .ok (.iconst 0, 1) := by decide +kernel
theorem dX4_findNumber_31 : decode cX4_findNumber 31 = .ok (.istore 5, 2) := by decide +kernel
theorem dX4_findNumber_33 : decode cX4_findNumber 33 = .ok (.iload 5, 2) := by decide +kernel
theorem dX4_findNumber_35 : decode cX4_findNumber 35 = .ok (.iload_n 2, 1) := by decide +kernel
theorem dX4_findNumber_36 : decode cX4_findNumber 36 = .ok (.if_icmp .ge 70, 3) := by decide +kernel
theorem dX4_findNumber_39 : decode cX4_findNumber 39 = .ok (.aload_n 0, 1) := by decide +kernel
theorem dX4_findNumber_40 : decode cX4_findNumber 40 = .ok (.getfield 21, 3) := by decide +kernel
theorem dX4_findNumber_43 : decode cX4_findNumber 43 = .ok (.iconst 0, 1) := by decide +kernel
theorem dX4_findNumber_44 : decode cX4_findNumber 44 = .ok (.iload_n 3, 1) := by decide +kernel
theorem dX4_findNumber_45 : decode cX4_findNumber 45 = .ok (.iload 5, 2) := by decide +kernel
theorem dX4_findNumber_47 : decode cX4_findNumber 47 = .ok (.isub, 1) := by decide +kernel
theorem dX4_findNumber_48 : decode cX4_findNumber 48 = .ok (.iload_n 2, 1) := by decide +kernel
theorem dX4_findNumber_49 : decode cX4_findNumber 49 = .ok (.invokestatic 96, 3) := by decide +kernel
theorem dX4_findNumber_52 : decode cX4_findNumber 52 = .ok (.invokevirtual 100, 3) := by decide +kernel
theorem dX4_findNumber_55 : decode cX4_findNumber 55 = .ok (.aload_n 0, 1) := by decide +kernel
theorem dX4_findNumber_56 : decode cX4_findNumber 56 = .ok (.getfield 21, 3) := by decide +kernel
theorem dX4_findNumber_59 : decode cX4_findNumber 59 = .ok (.aload_n 0, 1) := by decide +kernel
theorem dX4_findNumber_60 : decode cX4_findNumber 60 = .ok (.getfield 21, 3) := by decide +kernel
theorem dX4_findNumber_63 : decode cX4_findNumber 63 = .ok (.invokevirtual 51, 3) := by decide +kernel
theorem dX4_findNumber_66 : decode cX4_findNumber 66 = .ok (.iload 4, 2) := by decide +kernel
theorem dX4_findNumber_68 : decode cX4_findNumber 68 = .ok (.iload 5, 2) := by decide +kernel
theorem dX4_findNumber_70 : decode cX4_findNumber 70 = .ok (.iadd, 1) := by decide +kernel
theorem dX4_findNumber_71 : decode cX4_findNumber 71 = .ok (.iload_n 2, 1) := by decide +kernel
theorem dX4_findNumber_72 : decode cX4_findNumber 72 = .ok (.invokestatic 96, 3) := by decide +kernel
theorem dX4_findNumber_75 : decode cX4_findNumber 75 = .ok (.invokevirtual 100, 3) := by decide +kernel
theorem dX4_findNumber_78 : decode cX4_findNumber 78 = .ok (.aload_n 0, 1) := by decide +kernel
theorem dX4_findNumber_79 : decode cX4_findNumber 79 = .ok (.getfield 30, 3) := by decide +kernel
theorem dX4_findNumber_82 : decode cX4_findNumber 82 = .ok (.aload_n 0, 1) := by decide +kernel
theorem dX4_findNumber_83 : decode cX4_findNumber 83 = .ok (.getfield 21, 3) := by decide +kernel
theorem dX4_findNumber_86 : decode cX4_findNumber 86 = .ok (.invokevirtual 104, 3) := by decide +kernel
theorem dX4_findNumber_89 : decode cX4_findNumber 89 = .ok (.ifCond .eq 11, 3) := by decide +kernel
theorem dX4_findNumber_92 : decode cX4_findNumber 92 = .ok (.aload_n 0, 1) := by decide +kernel
theorem dX4_findNumber_93 : decode cX4_findNumber 93 = .ok (.iload 5, 2) := by decide +kernel
theorem dX4_findNumber_95 : decode cX4_findNumber 95 = .ok (.putfield 42, 3) := by decide +kernel
theorem dX4_findNumber_98 : decode cX4_findNumber 98 = .ok (.iconst 1, 1) := by decide +kernel
theorem dX4_findNumber_99 : decode cX4_findNumber 99 = .ok (.ireturn, 1) := by decide +kernel
theorem dX4_findNumber_100 : decode cX4_findNumber 100 = .ok (.iinc 5 1, 3) := by decide +kernel
theorem dX4_findNumber_103 : decode cX4_findNumber 103 = .ok (.goto (-70), 3) := by decide +kernel
theorem dX4_findNumber_106 : decode cX4_findNumber 106 = .ok (.iconst 0, 1) := by decide +kernel
theorem dX4_findNumber_107 : decode cX4_findNumber 107 = .ok (.ireturn, 1) := by decide +kernel
theorem dX4_reachesNumber_0 : decode cX4_reachesNumber 0 = .ok (.aload_n 0, 1) := by decide +kernel
theorem dX4_reachesNumber_1 : decode cX4_reachesNumber 1 = .ok (.getfield 18, 3) := by decide +kernel
theorem dX4_reachesNumber_4 : decode cX4_reachesNumber 4 = .ok (.iconst 0, 1) := by decide +kernel
theorem dX4_reachesNumber_5 : decode cX4_reachesNumber 5 = .ok (.invokevirtual 90, 3) := by decide +kernel
theorem dX4_reachesNumber_8 : decode cX4_reachesNumber 8 = .ok (.aload_n 1, 1) := by decide +kernel
theorem dX4_reachesNumber_9 : decode cX4_reachesNumber 9 = .ok (.aload_n 0, 1) := by decide +kernel
theorem dX4_reachesNumber_10 : decode cX4_reachesNumber 10 = .ok (.getfield 12, 3) := by decide +kernel
theorem dX4_reachesNumber_13 : decode cX4_reachesNumber 13 = .ok (.invokevirtual 81, 3) := by decide +kernel
theorem dX4_reachesNumber_16 : decode cX4_reachesNumber 16 = .ok (.invokevirtual 84, 3) := by decide +kernel
theorem dX4_reachesNumber_19 : decode cX4_reachesNumber 19 = .ok (.imul, 1) := by decide +kernel
theorem dX4_reachesNumber_20 : decode cX4_reachesNumber 20 = .ok (.istore_n 2, 1) := by decide +kernel
theorem dX4_reachesNumber_21 : decode cX4_reachesNumber 21 = .ok (.aload_n 0, 1) := by decide +kernel
theorem dX4_reachesNumber_22 : decode cX4_reachesNumber 22 = .ok (.getfield 12, 3) := by decide +kernel
theorem dX4_reachesNumber_25 : decode cX4_reachesNumber 25 = .ok (.iconst 0, 1) := by decide +kernel
theorem dX4_reachesNumber_26 : decode cX4_reachesNumber 26 = .ok (.invokevirtual 90, 3) := by decide +kernel
theorem dX4_reachesNumber_29 : decode cX4_reachesNumber 29 = .ok (.aload_n 1, 1) := by decide +kernel
theorem dX4_reachesNumber_30 : decode cX4_reachesNumber 30 = .ok (.aload_n 0, 1) := by decide +kernel
theorem dX4_reachesNumber_31 : decode cX4_reachesNumber 31 = .ok (.getfield 18, 3) := by decide +kernel
theorem dX4_reachesNumber_34 : decode cX4_reachesNumber 34 = .ok (.invokevirtual 81, 3) := by decide +kernel
theorem dX4_reachesNumber_37 : decode cX4_reachesNumber 37 = .ok (.invokevirtual 84, 3) := by decide +kernel
theorem dX4_reachesNumber_40 : decode cX4_reachesNumber 40 = .ok (.imul, 1) := by decide +kernel
theorem dX4_reachesNumber_41 : decode cX4_reachesNumber 41 = .ok (.istore_n 3, 1) := by decide +kernel
theorem dX4_reachesNumber_42 : decode cX4_reachesNumber 42 = .ok (.aload_n 0, 1) := by decide +kernel
theorem dX4_reachesNumber_43 : decode cX4_reachesNumber 43 = .ok (.aload_n 0, 1) := by decide +kernel
theorem dX4_reachesNumber_44 : decode cX4_reachesNumber 44 = .ok (.aload_n 0, 1) := by decide +kernel
theorem dX4_reachesNumber_45 : decode cX4_reachesNumber 45 = .ok (.getfield 18, 3) := by decide +kernel
theorem dX4_reachesNumber_48 : decode cX4_reachesNumber 48 = .ok (.invokevirtual 81, 3) := by decide +kernel
theorem dX4_reachesNumber_51 : decode cX4_reachesNumber 51 = .ok (.invokevirtual 107, 3) := by decide +kernel
theorem dX4_reachesNumber_54 : decode cX4_reachesNumber 54 = .ok (.putfield 38, 3) := by decide +kernel
theorem dX4_reachesNumber_57 : decode cX4_reachesNumber 57 = .ok (.aload_n 0, 1) := by decide +kernel
theorem dX4_reachesNumber_58 : decode cX4_reachesNumber 58 = .ok (.iconst 0, 1) := by decide +kernel
theorem dX4_reachesNumber_59 : decode cX4_reachesNumber 59 = .ok (.putfield 42, 3) := by decide +kernel
theorem dX4_reachesNumber_62 : decode cX4_reachesNumber 62 = .ok (.aload_n 0, 1) := by decide +kernel
theorem dX4_reachesNumber_63 : decode cX4_reachesNumber 63 = .ok (.getfield 38, 3) := by decide +kernel
theorem dX4_reachesNumber_66 : decode cX4_reachesNumber 66 = .ok (.ifCond .lt 12, 3) := by decide +kernel
theorem dX4_reachesNumber_69 : decode cX4_reachesNumber 69 = .ok (.iload_n 2, 1) := by decide +kernel
theorem dX4_reachesNumber_70 : decode cX4_reachesNumber 70 = .ok (.iload_n 3, 1) := by decide +kernel
theorem dX4_reachesNumber_71 : decode cX4_reachesNumber 71 = .ok (.if_icmp .ne 7, 3) := by decide +kernel
theorem dX4_reachesNumber_74 : decode cX4_reachesNumber 74 = .ok (.iconst 1, 1) := by decide +kernel
theorem dX4_reachesNumber_75 : decode cX4_reachesNumber 75 = .ok (.goto 4, 3) := by decide +kernel
theorem dX4_reachesNumber_78 : decode cX4_reachesNumber 78 = .ok (.iconst 0, 1) := by decide +kernel
theorem dX4_reachesNumber_79 : decode cX4_reachesNumber 79 = .ok (.ireturn, 1) := by decide +kernel
theorem dX4_farOf_0 : decode cX4_farOf 0 = .ok (.iload_n 1, 1) := by decide +kernel
theorem dX4_farOf_1 : decode cX4_farOf 1 = .ok (.ifCond .lt 12, 3) := by decide +kernel
theorem dX4_farOf_4 : decode cX4_farOf 4 = .ok (.iload_n 1, 1) := by decide +kernel
theorem dX4_farOf_5 : decode cX4_farOf 5 = .ok (.aload_n 0, 1) := by decide +kernel
theorem dX4_farOf_6 : decode cX4_farOf 6 = .ok (.getfield 34, 3) := by decide +kernel
theorem dX4_farOf_9 : decode cX4_farOf 9 = .ok (.arraylength, 1) := by decide +kernel
theorem dX4_farOf_10 : decode cX4_farOf 10 = .ok (.if_icmp .lt 7, 3) := by decide +kernel
theorem dX4_farOf_13 : decode cX4_farOf 13 = .ok (.iconst (-1), 1) := by decide +kernel
theorem dX4_farOf_14 : decode cX4_farOf 14 = .ok (.goto 9, 3) := by decide +kernel
theorem dX4_farOf_17 : decode cX4_farOf 17 = .ok (.aload_n 0, 1) := by decide +kernel
theorem dX4_farOf_18 : decode cX4_farOf 18 = .ok (.getfield 34, 3) := by decide +kernel
theorem dX4_farOf_21 : decode cX4_farOf 21 = .ok (.iload_n 1, 1) := by decide +kernel
theorem dX4_farOf_22 : decode cX4_farOf 22 = .ok (.iaload, 1) := by decide +kernel
theorem dX4_farOf_23 : decode cX4_farOf 23 = .ok (.ireturn, 1) := by decide +kernel
theorem dX4_setFar_0 : decode cX4_setFar 0 = .ok (.iload_n 1, 1) := by decide +kernel
theorem dX4_setFar_1 : decode cX4_setFar 1 = .ok (.ifCond .lt 19, 3) := by decide +kernel
theorem dX4_setFar_4 : decode cX4_setFar 4 = .ok (.iload_n 1, 1) := by decide +kernel
theorem dX4_setFar_5 : decode cX4_setFar 5 = .ok (.aload_n 0, 1) := by decide +kernel
theorem dX4_setFar_6 : decode cX4_setFar 6 = .ok (.getfield 34, 3) := by decide +kernel
theorem dX4_setFar_9 : decode cX4_setFar 9 = .ok (.arraylength, 1) := by decide +kernel
theorem dX4_setFar_10 : decode cX4_setFar 10 = .ok (.if_icmp .ge 10, 3) := by decide +kernel
theorem dX4_setFar_13 : decode cX4_setFar 13 = .ok (.aload_n 0, 1) := by decide +kernel
theorem dX4_setFar_14 : decode cX4_setFar 14 = .ok (.getfield 34, 3) := by decide +kernel
theorem dX4_setFar_17 : decode cX4_setFar 17 = .ok (.iload_n 1, 1) := by decide +kernel
theorem dX4_setFar_18 : decode cX4_setFar 18 = .ok (.iload_n 2, 1) := by decide +kernel
theorem dX4_setFar_19 : decode cX4_setFar 19 = .ok (.iastore, 1) := by decide +kernel
theorem dX4_setFar_20 : decode cX4_setFar 20 = .ok (.return_, 1) := by decide +kernel
theorem dX4_spread_0 : decode cX4_spread 0 = .ok (.aload_n 0, 1) := by decide +kernel
theorem dX4_spread_1 : decode cX4_spread 1 = .ok (.getfield 12, 3) := by decide +kernel
theorem dX4_spread_4 : decode cX4_spread 4 = .ok (.iconst 0, 1) := by decide +kernel
theorem dX4_spread_5 : decode cX4_spread 5 = .ok (.invokevirtual 90, 3) := by decide +kernel
theorem dX4_spread_8 : decode cX4_spread 8 = .ok (.aload_n 1, 1) := by decide +kernel
theorem dX4_spread_9 : decode cX4_spread 9 = .ok (.aload_n 0, 1) := by decide +kernel
theorem dX4_spread_10 : decode cX4_spread 10 = .ok (.getfield 12, 3) := by decide +kernel
theorem dX4_spread_13 : decode cX4_spread 13 = .ok (.invokevirtual 81, 3) := by decide +kernel
theorem dX4_spread_16 : decode cX4_spread 16 = .ok (.invokevirtual 84, 3) := by decide +kernel
theorem dX4_spread_19 : decode cX4_spread 19 = .ok (.invokestatic 110, 3) := by decide +kernel
theorem dX4_spread_22 : decode cX4_spread 22 = .ok (.istore_n 2, 1) := by decide +kernel
theorem dX4_spread_23 : decode cX4_spread 23 = .ok (.aload_n 0, 1) := by decide +kernel
theorem dX4_spread_24 : decode cX4_spread 24 = .ok (.getfield 34, 3) := by decide +kernel
theorem dX4_spread_27 : decode cX4_spread 27 = .ok (.iconst (-1), 1) := by decide +kernel
theorem dX4_spread_28 : decode cX4_spread 28 = .ok (.invokestatic 113, 3) := by decide +kernel
theorem dX4_spread_31 : decode cX4_spread 31 = .ok (.aload_n 0, 1) := by decide +kernel
theorem dX4_spread_32 : decode cX4_spread 32 = .ok (.aload_n 0, 1) := by decide +kernel
theorem dX4_spread_33 : decode cX4_spread 33 = .ok (.getfield 12, 3) := by decide +kernel
theorem dX4_spread_36 : decode cX4_spread 36 = .ok (.invokevirtual 81, 3) := by decide +kernel
theorem dX4_spread_39 : decode cX4_spread 39 = .ok (.iconst 0, 1) := by decide +kernel
theorem dX4_spread_40 : decode cX4_spread 40 = .ok (.invokevirtual 119, 3) := by decide +kernel
theorem dX4_spread_43 : decode cX4_spread 43 = .ok (.iconst 1, 1) := by decide +kernel
theorem dX4_spread_44 : decode cX4_spread 44 = .ok (.istore_n 3, 1) := by decide +kernel
theorem dX4_spread_45 : decode cX4_spread 45 = .ok (.iload_n 3, 1) := by decide +kernel
theorem dX4_spread_46 : decode cX4_spread 46 = .ok (.bipush 6, 2) := by decide +kernel
theorem dX4_spread_48 : decode cX4_spread 48 = .ok (.if_icmp .ge 83, 3) := by decide +kernel
theorem dX4_spread_51 : decode cX4_spread 51 = .ok (.iconst 0, 1) := by decide +kernel
theorem dX4_spread_52 : decode cX4_spread 52 = .ok (.istore 4, 2) := by decide +kernel
theorem dX4_spread_54 : decode cX4_spread 54 = .ok (.iload 4, 2) := by decide +kernel
theorem dX4_spread_56 : decode cX4_spread 56 = .ok (.aload_n 1, 1) := by decide +kernel
theorem dX4_spread_57 : decode cX4_spread 57 = .ok (.invokevirtual 122, 3) := by decide +kernel
theorem dX4_spread_60 : decode cX4_spread 60 = .ok (.if_icmp .ge 65, 3) := by decide +kernel
theorem dX4_spread_63 : decode cX4_spread 63 = .ok (.aload_n 0, 1) := by decide +kernel
theorem dX4_spread_64 : decode cX4_spread 64 = .ok (.aload_n 1, 1) := by decide +kernel
theorem dX4_spread_65 : decode cX4_spread 65 = .ok (.iload 4, 2) := by decide +kernel
theorem dX4_spread_67 : decode cX4_spread 67 = .ok (.invokevirtual 125, 3) := by decide +kernel
theorem dX4_spread_70 : decode cX4_spread 70 = .ok (.invokevirtual 107, 3) := by decide +kernel
theorem dX4_spread_73 : decode cX4_spread 73 = .ok (.iload_n 3, 1) := by decide +kernel
theorem dX4_spread_74 : decode cX4_spread 74 = .ok (.iconst 1, 1) := by decide +kernel
theorem dX4_spread_75 : decode cX4_spread 75 = .ok (.isub, 1) := by decide +kernel
theorem dX4_spread_76 : decode cX4_spread 76 = .ok (.if_icmp .ne 43, 3) := by decide +kernel
theorem dX4_spread_79 : decode cX4_spread 79 = .ok (.aload_n 0, 1) := by decide +kernel
theorem dX4_spread_80 : decode cX4_spread 80 = .ok (.aload_n 1, 1) := by decide +kernel
theorem dX4_spread_81 : decode cX4_spread 81 = .ok (.iload 4, 2) := by decide +kernel
theorem dX4_spread_83 : decode cX4_spread 83 = .ok (.invokevirtual 128, 3) := by decide +kernel
theorem dX4_spread_86 : decode cX4_spread 86 = .ok (.invokevirtual 107, 3) := by decide +kernel
theorem dX4_spread_89 : decode cX4_spread 89 = .ok (.iconst (-1), 1) := by decide +kernel
theorem dX4_spread_90 : decode cX4_spread 90 = .ok (.if_icmp .ne 29, 3) := by decide +kernel
theorem dX4_spread_93 : decode cX4_spread 93 = .ok (.aload_n 1, 1) := by decide +kernel
theorem dX4_spread_94 : decode cX4_spread 94 = .ok (.iload 4, 2) := by decide +kernel
theorem dX4_spread_96 : decode cX4_spread 96 = .ok (.iconst 1, 1) := by decide +kernel
theorem dX4_spread_97 : decode cX4_spread 97 = .ok (.ishr, 1) := by decide +kernel
theorem dX4_spread_98 : decode cX4_spread 98 = .ok (.invokevirtual 131, 3) := by decide +kernel
theorem dX4_spread_101 : decode cX4_spread 101 = .ok (.iload_n 2, 1) := by decide +kernel
theorem dX4_spread_102 : decode cX4_spread 102 = .ok (.invokestatic 96, 3) := by decide +kernel
theorem dX4_spread_105 : decode cX4_spread 105 = .ok (.ifCond .ne 14, 3) := by decide +kernel
theorem dX4_spread_108 : decode cX4_spread 108 = .ok (.aload_n 0, 1) := by decide +kernel
theorem dX4_spread_109 : decode cX4_spread 109 = .ok (.aload_n 1, 1) := by decide +kernel
theorem dX4_spread_110 : decode cX4_spread 110 = .ok (.iload 4, 2) := by decide +kernel
theorem dX4_spread_112 : decode cX4_spread 112 = .ok (.invokevirtual 128, 3) := by decide +kernel
theorem dX4_spread_115 : decode cX4_spread 115 = .ok (.iload_n 3, 1) := by decide +kernel
theorem dX4_spread_116 : decode cX4_spread 116 = .ok (.invokevirtual 119, 3) := by decide +kernel
theorem dX4_spread_119 : decode cX4_spread 119 = .ok (.iinc 4 1, 3) := by decide +kernel
theorem dX4_spread_122 : decode cX4_spread 122 = .ok (.goto (-68), 3) := by decide +kernel
theorem dX4_spread_125 : decode cX4_spread 125 = .ok (.iinc 3 1, 3) := by decide +kernel
theorem dX4_spread_128 : decode cX4_spread 128 = .ok (.goto (-83), 3) := by decide +kernel
theorem dX4_spread_131 : decode cX4_spread 131 = .ok (.return_, 1) := by decide +kernel
theorem dX5_result_0 : decode cX5_result 0 = .ok (.aload_n 0, 1) := by decide +kernel
theorem dX5_result_1 : decode cX5_result 1 = .ok (.getfield 21, 3) := by decide +kernel
theorem dX5_result_4 : decode cX5_result 4 = .ok (.areturn, 1) := by decide +kernel
theorem dX5_tellFault_0 : decode cX5_tellFault 0 = .ok (.aload_n 0, 1) := by decide +kernel
theorem dX5_tellFault_1 : decode cX5_tellFault 1 = .ok (.getfield 32, 3) := by decide +kernel
theorem dX5_tellFault_4 : decode cX5_tellFault 4 = .ok (.ifCond .ne 5, 3) := by decide +kernel
theorem dX5_tellFault_7 : decode cX5_tellFault 7 = .ok (.iconst (-1), 1) := by decide +kernel
theorem dX5_tellFault_8 : decode cX5_tellFault 8 = .ok (.ireturn, 1) := by decide +kernel
theorem dX5_tellFault_9 : decode cX5_tellFault 9 = .ok (.iload_n 1, 1) := by decide +kernel
theorem dX5_tellFault_10 : decode cX5_tellFault 10 = .ok (.tableswitch 41 0 2 #[26, 31, 36], 26) := by decide +kernel
theorem dX5_tellFault_36 : decode cX5_tellFault 36 = .ok (.aload_n 0, 1) := by decide +kernel
theorem dX5_tellFault_37 : decode cX5_tellFault 37 = .ok (.getfield 46, 3) := by decide +kernel
theorem dX5_tellFault_40 : decode cX5_tellFault 40 = .ok (.ireturn, 1) := by decide +kernel
theorem dX5_tellFault_41 : decode cX5_tellFault 41 = .ok (.aload_n 0, 1) := by decide +kernel
theorem dX5_tellFault_42 : decode cX5_tellFault 42 = .ok (.getfield 49, 3) := by decide +kernel
theorem dX5_tellFault_45 : decode cX5_tellFault 45 = .ok (.ireturn, 1) := by decide +kernel
theorem dX5_tellFault_46 : decode cX5_tellFault 46 = .ok (.aload_n 0, 1) := by decide +kernel
theorem dX5_tellFault_47 : decode cX5_tellFault 47 = .ok (.getfield 52, 3) := by decide +kernel
theorem dX5_tellFault_50 : decode cX5_tellFault 50 = .ok (.ireturn, 1) := by decide +kernel
theorem dX5_tellFault_51 : decode cX5_tellFault 51 = .ok (.iconst (-1), 1) := by decide +kernel
theorem dX5_tellFault_52 : decode cX5_tellFault 52 = .ok (.ireturn, 1) := by decide +kernel
theorem dX5_kind_0 : decode cX5_kind 0 = .ok (.aload_n 0, 1) := by decide +kernel
theorem dX5_kind_1 : decode cX5_kind 1 = .ok (.getfield 12, 3) := by decide +kernel
theorem dX5_kind_4 : decode cX5_kind 4 = .ok (.aload_n 0, 1) := by decide +kernel
theorem dX5_kind_5 : decode cX5_kind 5 = .ok (.getfield 36, 3) := by decide +kernel
theorem dX5_kind_8 : decode cX5_kind 8 = .ok (.invokevirtual 75, 3) := by decide +kernel
theorem dX5_kind_11 : decode cX5_kind 11 = .ok (.ireturn, 1) := by decide +kernel
theorem dX5_value_0 : decode cX5_value 0 = .ok (.aload_n 0, 1) := by decide +kernel
theorem dX5_value_1 : decode cX5_value 1 = .ok (.getfield 12, 3) := by decide +kernel
theorem dX5_value_4 : decode cX5_value 4 = .ok (.aload_n 0, 1) := by decide +kernel
theorem dX5_value_5 : decode cX5_value 5 = .ok (.getfield 36, 3) := by decide +kernel
theorem dX5_value_8 : decode cX5_value 8 = .ok (.invokevirtual 79, 3) := by decide +kernel
theorem dX5_value_11 : decode cX5_value 11 = .ok (.ireturn, 1) := by decide +kernel
theorem dX5_passes_0 : decode cX5_passes 0 = .ok (.iload_n 1, 1) := by decide +kernel
theorem dX5_passes_1 : decode cX5_passes 1 = .ok (.ifCond .ne 38, 3) := by decide +kernel
theorem dX5_passes_4 : decode cX5_passes 4 = .ok (.aload_n 0, 1) := by decide +kernel
theorem dX5_passes_5 : decode cX5_passes 5 = .ok (.getfield 46, 3) := by decide +kernel
theorem dX5_passes_8 : decode cX5_passes 8 = .ok (.ifCond .ne 31, 3) := by decide +kernel
theorem dX5_passes_11 : decode cX5_passes 11 = .ok (.aload_n 0, 1) := by decide +kernel
theorem dX5_passes_12 : decode cX5_passes 12 = .ok (.iload_n 2, 1) := by decide +kernel
theorem dX5_passes_13 : decode cX5_passes 13 = .ok (.putfield 46, 3) := by decide +kernel
theorem dX5_passes_16 : decode cX5_passes 16 = .ok (.aload_n 0, 1) := by decide +kernel
theorem dX5_passes_17 : decode cX5_passes 17 = .ok (.aload_n 0, 1) := by decide +kernel
theorem dX5_passes_18 : decode cX5_passes 18 = .ok (.getfield 12, 3) := by decide +kernel
theorem dX5_passes_21 : decode cX5_passes 21 = .ok (.aload_n 0, 1) := by decide +kernel
theorem dX5_passes_22 : decode cX5_passes 22 = .ok (.getfield 36, 3) := by decide +kernel
theorem dX5_passes_25 : decode cX5_passes 25 = .ok (.invokevirtual 82, 3) := by decide +kernel
theorem dX5_passes_28 : decode cX5_passes 28 = .ok (.putfield 49, 3) := by decide +kernel
theorem dX5_passes_31 : decode cX5_passes 31 = .ok (.aload_n 0, 1) := by decide +kernel
theorem dX5_passes_32 : decode cX5_passes 32 = .ok (.aload_n 0, 1) := by decide +kernel
theorem dX5_passes_33 : decode cX5_passes 33 = .ok (.getfield 43, 3) := by decide +kernel
theorem dX5_passes_36 : decode cX5_passes 36 = .ok (.putfield 52, 3) := by decide +kernel
theorem dX5_passes_39 : decode cX5_passes 39 = .ok (.aload_n 0, 1) := by decide +kernel
theorem dX5_passes_40 : decode cX5_passes 40 = .ok (.getfield 46, 3) := by decide +kernel
theorem dX5_passes_43 : decode cX5_passes 43 = .ok (.ifCond .ne 7, 3) := by decide +kernel
theorem dX5_passes_46 : decode cX5_passes 46 = .ok (.iconst 1, 1) := by decide +kernel
theorem dX5_passes_47 : decode cX5_passes 47 = .ok (.goto 4, 3) := by decide +kernel
theorem dX5_passes_50 : decode cX5_passes 50 = .ok (.iconst 0, 1) := by decide +kernel
theorem dX5_passes_51 : decode cX5_passes 51 = .ok (.ireturn, 1) := by decide +kernel
theorem dX5_stands_0 : decode cX5_stands 0 = .ok (.aload_n 0, 1) := by decide +kernel
theorem dX5_stands_1 : decode cX5_stands 1 = .ok (.getfield 12, 3) := by decide +kernel
theorem dX5_stands_4 : decode cX5_stands 4 = .ok (.aload_n 0, 1) := by decide +kernel
theorem dX5_stands_5 : decode cX5_stands 5 = .ok (.getfield 36, 3) := by decide +kernel
theorem dX5_stands_8 : decode cX5_stands 8 = .ok (.invokevirtual 75, 3) := by decide +kernel
theorem dX5_stands_11 : decode cX5_stands 11 = .ok (.istore_n 2, 1) := by decide +kernel
theorem dX5_stands_12 : decode cX5_stands 12 = .ok (.aload_n 0, 1) := by decide +kernel
theorem dX5_stands_13 : decode cX5_stands 13 = .ok (.iload_n 2, 1) := by decide +kernel
theorem dX5_stands_14 : decode cX5_stands 14 = .ok (.iload_n 1, 1) := by decide +kernel
theorem dX5_stands_15 : decode cX5_stands 15 = .ok (.if_icmp .ne 7, 3) := by decide +kernel
theorem dX5_stands_18 : decode cX5_stands 18 = .ok (.iconst 1, 1) := by decide +kernel
theorem dX5_stands_19 : decode cX5_stands 19 = .ok (.goto 4, 3) := by decide +kernel
theorem dX5_stands_22 : decode cX5_stands 22 = .ok (.iconst 0, 1) := by decide +kernel
theorem dX5_stands_23 : decode cX5_stands 23 = .ok (.iload_n 2, 1) := by decide +kernel
theorem dX5_stands_24 : decode cX5_stands 24 = .ok (.iconst 1, 1) := by decide +kernel
theorem dX5_stands_25 : decode cX5_stands 25 = .ok (.if_icmp .ne 7, 3) := by decide +kernel
theorem dX5_stands_28 : decode cX5_stands 28 = .ok (.iconst 1, 1) := by decide +kernel
theorem dX5_stands_29 : decode cX5_stands 29 = .ok (.goto 4, 3) := by decide +kernel
theorem dX5_stands_32 : decode cX5_stands 32 = .ok (.iconst 2, 1) := by decide +kernel
theorem dX5_stands_33 : decode cX5_stands 33 = .ok (.invokevirtual 85, 3) := by decide +kernel
theorem dX5_stands_36 : decode cX5_stands 36 = .ok (.ireturn, 1) := by decide +kernel
theorem dX5_endsLine_0 : decode cX5_endsLine 0 = .ok (.aload_n 0, 1) := by decide +kernel
theorem dX5_endsLine_1 : decode cX5_endsLine 1 = .ok (.bipush 9, 2) := by decide +kernel
theorem dX5_endsLine_3 : decode cX5_endsLine 3 = .ok (.invokevirtual 89, 3) := by decide +kernel
theorem dX5_endsLine_6 : decode cX5_endsLine 6 = .ok (.ifCond .ne 5, 3) := by decide +kernel
theorem dX5_endsLine_9 : decode cX5_endsLine 9 = .ok (.iconst 0, 1) := by decide +kernel
theorem dX5_endsLine_10 : decode cX5_endsLine 10 = .ok (.ireturn, 1) := by decide +kernel
theorem dX5_endsLine_11 : decode cX5_endsLine 11 = .ok (.aload_n 0, 1) := by decide +kernel
theorem dX5_endsLine_12 : decode cX5_endsLine 12 = .ok (.dup, 1) := by decide +kernel
theorem dX5_endsLine_13 : decode cX5_endsLine 13 = .ok (.getfield 43, 3) := by decide +kernel
theorem dX5_endsLine_16 : decode cX5_endsLine 16 = .ok (.iconst 1, 1) := by decide +kernel
theorem dX5_endsLine_17 : decode cX5_endsLine 17 = .ok (.iadd, 1) := by decide +kernel
theorem dX5_endsLine_18 : decode cX5_endsLine 18 = .ok (.putfield 43, 3) := by decide +kernel
theorem dX5_endsLine_21 : decode cX5_endsLine 21 = .ok (.aload_n 0, 1) := by decide +kernel
theorem dX5_endsLine_22 : decode cX5_endsLine 22 = .ok (.dup, 1) := by decide +kernel
theorem dX5_endsLine_23 : decode cX5_endsLine 23 = .ok (.getfield 36, 3) := by decide +kernel
theorem dX5_endsLine_26 : decode cX5_endsLine 26 = .ok (.iconst 1, 1) := by decide +kernel
theorem dX5_endsLine_27 : decode cX5_endsLine 27 = .ok (.iadd, 1) := by decide +kernel
theorem dX5_endsLine_28 : decode cX5_endsLine 28 = .ok (.putfield 36, 3) := by decide +kernel
theorem dX5_endsLine_31 : decode cX5_endsLine 31 = .ok (.iconst 1, 1) := by decide +kernel
theorem dX5_endsLine_32 : decode cX5_endsLine 32 = .ok (.ireturn, 1) := by decide +kernel
theorem dX5_readVertex_0 : decode cX5_readVertex 0 = .ok (.aload_n 0, 1) := by decide +kernel
theorem dX5_readVertex_1 : decode cX5_readVertex 1 = .ok (.aload_n 0, 1) := by decide +kernel
theorem dX5_readVertex_2 : decode cX5_readVertex 2 = .ok (.getfield 21, 3) := by decide +kernel
theorem dX5_readVertex_5 : decode cX5_readVertex 5 = .ok (.invokevirtual 93, 3) := by decide +kernel
theorem dX5_readVertex_8 : decode cX5_readVertex 8 = .ok (.bipush 6, 2) := by decide +kernel
theorem dX5_readVertex_10 : decode cX5_readVertex 10 = .ok (.if_icmp .ge 7, 3) := by decide +kernel
theorem dX5_readVertex_13 : decode cX5_readVertex 13 = .ok (.iconst 1, 1) := by decide +kernel
theorem dX5_readVertex_14 : decode cX5_readVertex 14 = .ok (.goto 4, 3) := by decide +kernel
theorem dX5_readVertex_17 : decode cX5_readVertex 17 = .ok (.iconst 0, 1) := by decide +kernel
theorem dX5_readVertex_18 : decode cX5_readVertex 18 = .ok (.bipush 6, 2) := by decide +kernel
theorem dX5_readVertex_20 : decode cX5_readVertex 20 = .ok (.invokevirtual 85, 3) := by decide +kernel
theorem dX5_readVertex_23 : decode cX5_readVertex 23 = .ok (.ifCond .ne 4, 3) := by decide +kernel
theorem dX5_readVertex_26 : decode cX5_readVertex 26 = .ok (.return_, 1) := by decide +kernel
theorem dX5_readVertex_27 : decode cX5_readVertex 27 = .ok (.aload_n 0, 1) := by decide +kernel
theorem dX5_readVertex_28 : decode cX5_readVertex 28 = .ok (.dup, 1) := by decide +kernel
theorem dX5_readVertex_29 : decode cX5_readVertex 29 = .ok (.getfield 36, 3) := by decide +kernel
theorem dX5_readVertex_32 : decode cX5_readVertex 32 = .ok (.iconst 1, 1) := by decide +kernel
theorem dX5_readVertex_33 : decode cX5_readVertex 33 = .ok (.iadd, 1) := by decide +kernel
theorem dX5_readVertex_34 : decode cX5_readVertex 34 = .ok (.putfield 36, 3) := by decide +kernel
theorem dX5_readVertex_37 : decode cX5_readVertex 37 = .ok (.aload_n 0, 1) := by decide +kernel
theorem dX5_readVertex_38 : decode cX5_readVertex 38 = .ok (.invokevirtual 96, 3) := by decide +kernel
theorem dX5_readVertex_41 : decode cX5_readVertex 41 = .ok (.istore_n 1, 1) := by decide +kernel
theorem dX5_readVertex_42 : decode cX5_readVertex 42 = .ok (.aload_n 0, 1) := by decide +kernel
theorem dX5_readVertex_43 : decode cX5_readVertex 43 = .ok (.bipush 6, 2) := by decide +kernel
theorem dX5_readVertex_45 : decode cX5_readVertex 45 = .ok (.invokevirtual 89, 3) := by decide +kernel
theorem dX5_readVertex_48 : decode cX5_readVertex 48 = .ok (.ifCond .eq 27, 3) := by decide +kernel
theorem dX5_readVertex_51 : decode cX5_readVertex 51 = .ok (.aload_n 0, 1) := by decide +kernel
theorem dX5_readVertex_52 : decode cX5_readVertex 52 = .ok (.iload_n 1, 1) := by decide +kernel
theorem dX5_readVertex_53 : decode cX5_readVertex 53 = .ok (.iconst 1, 1) := by decide +kernel
theorem dX5_readVertex_54 : decode cX5_readVertex 54 = .ok (.if_icmp .lt 13, 3) := by decide +kernel
theorem dX5_readVertex_57 : decode cX5_readVertex 57 = .ok (.iload_n 1, 1) := by decide +kernel
theorem dX5_readVertex_58 : decode cX5_readVertex 58 = .ok (.bipush 60, 2) := by decide +kernel
theorem dX5_readVertex_60 : decode cX5_readVertex 60 = .ok (.if_icmp .gt 7, 3) := by decide +kernel
theorem dX5_readVertex_63 : decode cX5_readVertex 63 = .ok (.iconst 1, 1) := by decide +kernel
theorem dX5_readVertex_64 : decode cX5_readVertex 64 = .ok (.goto 4, 3) := by decide +kernel
theorem dX5_readVertex_67 : decode cX5_readVertex 67 = .ok (.iconst 0, 1) := by decide +kernel
theorem dX5_readVertex_68 : decode cX5_readVertex 68 = .ok (.iconst 4, 1) := by decide +kernel
theorem dX5_readVertex_69 : decode cX5_readVertex 69 = .ok (.invokevirtual 85, 3) := by decide +kernel
theorem dX5_readVertex_72 : decode cX5_readVertex 72 = .ok (.ifCond .ne 4, 3) := by decide +kernel
theorem dX5_readVertex_75 : decode cX5_readVertex 75 = .ok (.return_, 1) := by decide +kernel
theorem dX5_readVertex_76 : decode cX5_readVertex 76 = .ok (.aload_n 0, 1) := by decide +kernel
theorem dX5_readVertex_77 : decode cX5_readVertex 77 = .ok (.dup, 1) := by decide +kernel
theorem dX5_readVertex_78 : decode cX5_readVertex 78 = .ok (.getfield 36, 3) := by decide +kernel
theorem dX5_readVertex_81 : decode cX5_readVertex 81 = .ok (.iconst 1, 1) := by decide +kernel
theorem dX5_readVertex_82 : decode cX5_readVertex 82 = .ok (.iadd, 1) := by decide +kernel
theorem dX5_readVertex_83 : decode cX5_readVertex 83 = .ok (.putfield 36, 3) := by decide +kernel
theorem dX5_readVertex_86 : decode cX5_readVertex 86 = .ok (.aload_n 0, 1) := by decide +kernel
theorem dX5_readVertex_87 : decode cX5_readVertex 87 = .ok (.invokevirtual 99, 3) := by decide +kernel
theorem dX5_readVertex_90 : decode cX5_readVertex 90 = .ok (.ifCond .eq 11, 3) := by decide +kernel
theorem dX5_readVertex_93 : decode cX5_readVertex 93 = .ok (.aload_n 0, 1) := by decide +kernel
theorem dX5_readVertex_94 : decode cX5_readVertex 94 = .ok (.getfield 21, 3) := by decide +kernel
theorem dX5_readVertex_97 : decode cX5_readVertex 97 = .ok (.iload_n 1, 1) := by decide +kernel
theorem dX5_readVertex_98 : decode cX5_readVertex 98 = .ok (.invokevirtual 103, 3) := by decide +kernel
theorem dX5_readVertex_101 : decode cX5_readVertex 101 = .ok (.return_, 1) := by decide +kernel
theorem dX5_readEdge_0 : decode cX5_readEdge 0 = .ok (.aload_n 0, 1) := by decide +kernel
theorem dX5_readEdge_1 : decode cX5_readEdge 1 = .ok (.aload_n 0, 1) := by decide +kernel
theorem dX5_readEdge_2 : decode cX5_readEdge 2 = .ok (.getfield 21, 3) := by decide +kernel
theorem dX5_readEdge_5 : decode cX5_readEdge 5 = .ok (.invokevirtual 107, 3) := by decide +kernel
theorem dX5_readEdge_8 : decode cX5_readEdge 8 = .ok (.bipush 6, 2) := by decide +kernel
theorem dX5_readEdge_10 : decode cX5_readEdge 10 = .ok (.if_icmp .ge 7, 3) := by decide +kernel
theorem dX5_readEdge_13 : decode cX5_readEdge 13 = .ok (.iconst 1, 1) := by decide +kernel
theorem dX5_readEdge_14 : decode cX5_readEdge 14 = .ok (.goto 4, 3) := by decide +kernel
theorem dX5_readEdge_17 : decode cX5_readEdge 17 = .ok (.iconst 0, 1) := by decide +kernel
theorem dX5_readEdge_18 : decode cX5_readEdge 18 = .ok (.bipush 6, 2) := by decide +kernel
theorem dX5_readEdge_20 : decode cX5_readEdge 20 = .ok (.invokevirtual 85, 3) := by decide +kernel
theorem dX5_readEdge_23 : decode cX5_readEdge 23 = .ok (.ifCond .ne 4, 3) := by decide +kernel
theorem dX5_readEdge_26 : decode cX5_readEdge 26 = .ok (.return_, 1) := by decide +kernel
theorem dX5_readEdge_27 : decode cX5_readEdge 27 = .ok (.aload_n 0, 1) := by decide +kernel
theorem dX5_readEdge_28 : decode cX5_readEdge 28 = .ok (.dup, 1) := by decide +kernel
theorem dX5_readEdge_29 : decode cX5_readEdge 29 = .ok (.getfield 36, 3) := by decide +kernel
theorem dX5_readEdge_32 : decode cX5_readEdge 32 = .ok (.iconst 1, 1) := by decide +kernel
theorem dX5_readEdge_33 : decode cX5_readEdge 33 = .ok (.iadd, 1) := by decide +kernel
theorem dX5_readEdge_34 : decode cX5_readEdge 34 = .ok (.putfield 36, 3) := by decide +kernel
theorem dX5_readEdge_37 : decode cX5_readEdge 37 = .ok (.aload_n 0, 1) := by decide +kernel
theorem dX5_readEdge_38 : decode cX5_readEdge 38 = .ok (.invokevirtual 110, 3) := by decide +kernel
theorem dX5_readEdge_41 : decode cX5_readEdge 41 = .ok (.istore_n 1, 1) := by decide +kernel
theorem dX5_readEdge_42 : decode cX5_readEdge 42 = .ok (.aload_n 0, 1) := by decide +kernel
theorem dX5_readEdge_43 : decode cX5_readEdge 43 = .ok (.iload_n 1, 1) := by decide +kernel
theorem dX5_readEdge_44 : decode cX5_readEdge 44 = .ok (.iconst 0, 1) := by decide +kernel
theorem dX5_readEdge_45 : decode cX5_readEdge 45 = .ok (.invokevirtual 113, 3) := by decide +kernel
theorem dX5_readEdge_48 : decode cX5_readEdge 48 = .ok (.istore_n 2, 1) := by decide +kernel
theorem dX5_readEdge_49 : decode cX5_readEdge 49 = .ok (.aload_n 0, 1) := by decide +kernel
theorem dX5_readEdge_50 : decode cX5_readEdge 50 = .ok (.invokevirtual 110, 3) := by decide +kernel
theorem dX5_readEdge_53 : decode cX5_readEdge 53 = .ok (.istore_n 3, 1) := by decide +kernel
theorem dX5_readEdge_54 : decode cX5_readEdge 54 = .ok (.aload_n 0, 1) := by decide +kernel
theorem dX5_readEdge_55 : decode cX5_readEdge 55 = .ok (.iload_n 3, 1) := by decide +kernel
theorem dX5_readEdge_56 : decode cX5_readEdge 56 = .ok (.aload_n 0, 1) := by decide +kernel
theorem dX5_readEdge_57 : decode cX5_readEdge 57 = .ok (.getfield 21, 3) := by decide +kernel
theorem dX5_readEdge_60 : decode cX5_readEdge 60 = .ok (.iload_n 1, 1) := by decide +kernel
theorem dX5_readEdge_61 : decode cX5_readEdge 61 = .ok (.invokevirtual 117, 3) := by decide +kernel
theorem dX5_readEdge_64 : decode cX5_readEdge 64 = .ok (.iload_n 2, 1) := by decide +kernel
theorem dX5_readEdge_65 : decode cX5_readEdge 65 = .ok (.invokestatic 120, 3) := by decide +kernel
theorem dX5_readEdge_68 : decode cX5_readEdge 68 = .ok (.invokevirtual 113, 3) := by decide +kernel
theorem dX5_readEdge_71 : decode cX5_readEdge 71 = .ok (.istore 4, 2) := by decide +kernel
theorem dX5_readEdge_73 : decode cX5_readEdge 73 = .ok (.aload_n 0, 1) := by decide +kernel
theorem dX5_readEdge_74 : decode cX5_readEdge 74 = .ok (.getfield 46, 3) := by decide +kernel
theorem dX5_readEdge_77 : decode cX5_readEdge 77 = .ok (.ifCond .ne 22, 3) := by decide +kernel
theorem dX5_readEdge_80 : decode cX5_readEdge 80 = .ok (.aload_n 0, 1) := by decide +kernel
theorem dX5_readEdge_81 : decode cX5_readEdge 81 = .ok (.invokevirtual 99, 3) := by decide +kernel
theorem dX5_readEdge_84 : decode cX5_readEdge 84 = .ok (.ifCond .eq 15, 3) := by decide +kernel
theorem dX5_readEdge_87 : decode cX5_readEdge 87 = .ok (.aload_n 0, 1) := by decide +kernel
theorem dX5_readEdge_88 : decode cX5_readEdge 88 = .ok (.getfield 21, 3) := by decide +kernel
theorem dX5_readEdge_91 : decode cX5_readEdge 91 = .ok (.iload_n 1, 1) := by decide +kernel
theorem dX5_readEdge_92 : decode cX5_readEdge 92 = .ok (.iload_n 2, 1) := by decide +kernel
theorem dX5_readEdge_93 : decode cX5_readEdge 93 = .ok (.iload_n 3, 1) := by decide +kernel
theorem dX5_readEdge_94 : decode cX5_readEdge 94 = .ok (.iload 4, 2) := by decide +kernel
theorem dX5_readEdge_96 : decode cX5_readEdge 96 = .ok (.invokevirtual 123, 3) := by decide +kernel
theorem dX5_readEdge_99 : decode cX5_readEdge 99 = .ok (.return_, 1) := by decide +kernel
theorem dX5_readPlace_0 : decode cX5_readPlace 0 = .ok (.aload_n 0, 1) := by decide +kernel
theorem dX5_readPlace_1 : decode cX5_readPlace 1 = .ok (.invokevirtual 96, 3) := by decide +kernel
theorem dX5_readPlace_4 : decode cX5_readPlace 4 = .ok (.istore_n 1, 1) := by decide +kernel
theorem dX5_readPlace_5 : decode cX5_readPlace 5 = .ok (.aload_n 0, 1) := by decide +kernel
theorem dX5_readPlace_6 : decode cX5_readPlace 6 = .ok (.getfield 46, 3) := by decide +kernel
theorem dX5_readPlace_9 : decode cX5_readPlace 9 = .ok (.ifCond .ne 28, 3) := by decide +kernel
theorem dX5_readPlace_12 : decode cX5_readPlace 12 = .ok (.aload_n 0, 1) := by decide +kernel
theorem dX5_readPlace_13 : decode cX5_readPlace 13 = .ok (.bipush 6, 2) := by decide +kernel
theorem dX5_readPlace_15 : decode cX5_readPlace 15 = .ok (.invokevirtual 89, 3) := by decide +kernel
theorem dX5_readPlace_18 : decode cX5_readPlace 18 = .ok (.ifCond .eq 19, 3) := by decide +kernel
theorem dX5_readPlace_21 : decode cX5_readPlace 21 = .ok (.aload_n 0, 1) := by decide +kernel
theorem dX5_readPlace_22 : decode cX5_readPlace 22 = .ok (.aload_n 0, 1) := by decide +kernel
theorem dX5_readPlace_23 : decode cX5_readPlace 23 = .ok (.getfield 21, 3) := by decide +kernel
theorem dX5_readPlace_26 : decode cX5_readPlace 26 = .ok (.iload_n 1, 1) := by decide +kernel
theorem dX5_readPlace_27 : decode cX5_readPlace 27 = .ok (.invokevirtual 127, 3) := by decide +kernel
theorem dX5_readPlace_30 : decode cX5_readPlace 30 = .ok (.iconst 3, 1) := by decide +kernel
theorem dX5_readPlace_31 : decode cX5_readPlace 31 = .ok (.invokevirtual 85, 3) := by decide +kernel
theorem dX5_readPlace_34 : decode cX5_readPlace 34 = .ok (.ifCond .ne 5, 3) := by decide +kernel
theorem dX5_readPlace_37 : decode cX5_readPlace 37 = .ok (.iconst (-1), 1) := by decide +kernel
theorem dX5_readPlace_38 : decode cX5_readPlace 38 = .ok (.ireturn, 1) := by decide +kernel
theorem dX5_readPlace_39 : decode cX5_readPlace 39 = .ok (.aload_n 0, 1) := by decide +kernel
theorem dX5_readPlace_40 : decode cX5_readPlace 40 = .ok (.dup, 1) := by decide +kernel
theorem dX5_readPlace_41 : decode cX5_readPlace 41 = .ok (.getfield 36, 3) := by decide +kernel
theorem dX5_readPlace_44 : decode cX5_readPlace 44 = .ok (.iconst 1, 1) := by decide +kernel
theorem dX5_readPlace_45 : decode cX5_readPlace 45 = .ok (.iadd, 1) := by decide +kernel
theorem dX5_readPlace_46 : decode cX5_readPlace 46 = .ok (.putfield 36, 3) := by decide +kernel
theorem dX5_readPlace_49 : decode cX5_readPlace 49 = .ok (.iload_n 1, 1) := by decide +kernel
theorem dX5_readPlace_50 : decode cX5_readPlace 50 = .ok (.ireturn, 1) := by decide +kernel
theorem dX5_readIndex_0 : decode cX5_readIndex 0 = .ok (.aload_n 0, 1) := by decide +kernel
theorem dX5_readIndex_1 : decode cX5_readIndex 1 = .ok (.invokevirtual 96, 3) := by decide +kernel
theorem dX5_readIndex_4 : decode cX5_readIndex 4 = .ok (.istore_n 3, 1) := by decide +kernel
theorem dX5_readIndex_5 : decode cX5_readIndex 5 = .ok (.aload_n 0, 1) := by decide +kernel
theorem dX5_readIndex_6 : decode cX5_readIndex 6 = .ok (.getfield 46, 3) := by decide +kernel
theorem dX5_readIndex_9 : decode cX5_readIndex 9 = .ok (.ifCond .ne 12, 3) := by decide +kernel
theorem dX5_readIndex_12 : decode cX5_readIndex 12 = .ok (.aload_n 0, 1) := by decide +kernel
theorem dX5_readIndex_13 : decode cX5_readIndex 13 = .ok (.bipush 6, 2) := by decide +kernel
theorem dX5_readIndex_15 : decode cX5_readIndex 15 = .ok (.invokevirtual 89, 3) := by decide +kernel
theorem dX5_readIndex_18 : decode cX5_readIndex 18 = .ok (.ifCond .ne 5, 3) := by decide +kernel
theorem dX5_readIndex_21 : decode cX5_readIndex 21 = .ok (.iconst (-1), 1) := by decide +kernel
theorem dX5_readIndex_22 : decode cX5_readIndex 22 = .ok (.ireturn, 1) := by decide +kernel
theorem dX5_readIndex_23 : decode cX5_readIndex 23 = .ok (.aload_n 0, 1) := by decide +kernel
theorem dX5_readIndex_24 : decode cX5_readIndex 24 = .ok (.getfield 21, 3) := by decide +kernel
theorem dX5_readIndex_27 : decode cX5_readIndex 27 = .ok (.iload_n 1, 1) := by decide +kernel
theorem dX5_readIndex_28 : decode cX5_readIndex 28 = .ok (.invokevirtual 117, 3) := by decide +kernel
theorem dX5_readIndex_31 : decode cX5_readIndex 31 = .ok (.istore 4, 2) := by decide +kernel
theorem dX5_readIndex_33 : decode cX5_readIndex 33 = .ok (.iload_n 3, 1) := by decide +kernel
theorem dX5_readIndex_34 : decode cX5_readIndex 34 = .ok (.iconst 1, 1) := by decide +kernel
theorem dX5_readIndex_35 : decode cX5_readIndex 35 = .ok (.if_icmp .lt 16, 3) := by decide +kernel
theorem dX5_readIndex_38 : decode cX5_readIndex 38 = .ok (.iload 4, 2) := by decide +kernel
theorem dX5_readIndex_40 : decode cX5_readIndex 40 = .ok (.iload_n 3, 1) := by decide +kernel
theorem dX5_readIndex_41 : decode cX5_readIndex 41 = .ok (.invokestatic 130, 3) := by decide +kernel
theorem dX5_readIndex_44 : decode cX5_readIndex 44 = .ok (.ifCond .ne 7, 3) := by decide +kernel
theorem dX5_readIndex_47 : decode cX5_readIndex 47 = .ok (.iconst 1, 1) := by decide +kernel
theorem dX5_readIndex_48 : decode cX5_readIndex 48 = .ok (.goto 4, 3) := by decide +kernel
theorem dX5_readIndex_51 : decode cX5_readIndex 51 = .ok (.iconst 0, 1) := by decide +kernel
theorem dX5_readIndex_52 : decode cX5_readIndex 52 = .ok (.istore 5, 2) := by decide +kernel
theorem dX5_readIndex_54 : decode cX5_readIndex 54 = .ok (.aload_n 0, 1) := by decide +kernel
theorem dX5_readIndex_55 : decode cX5_readIndex 55 = .ok (.iload 5, 2) := by decide +kernel
theorem dX5_readIndex_57 : decode cX5_readIndex 57 = .ok (.ifCond .eq 21, 3) := by decide +kernel
theorem dX5_readIndex_60 : decode cX5_readIndex 60 = .ok (.iload_n 2, 1) := by decide +kernel
theorem dX5_readIndex_61 : decode cX5_readIndex 61 = .ok (.ifCond .eq 13, 3) := by decide +kernel
theorem dX5_readIndex_64 : decode cX5_readIndex 64 = .ok (.iload 4, 2) := by decide +kernel
theorem dX5_readIndex_66 : decode cX5_readIndex 66 = .ok (.iload_n 3, 1) := by decide +kernel
theorem dX5_readIndex_67 : decode cX5_readIndex 67 = .ok (.invokestatic 120, 3) := by decide +kernel
theorem dX5_readIndex_70 : decode cX5_readIndex 70 = .ok (.iload_n 2, 1) := by decide +kernel
theorem dX5_readIndex_71 : decode cX5_readIndex 71 = .ok (.if_icmp .ne 7, 3) := by decide +kernel
theorem dX5_readIndex_74 : decode cX5_readIndex 74 = .ok (.iconst 1, 1) := by decide +kernel
theorem dX5_readIndex_75 : decode cX5_readIndex 75 = .ok (.goto 4, 3) := by decide +kernel
theorem dX5_readIndex_78 : decode cX5_readIndex 78 = .ok (.iconst 0, 1) := by decide +kernel
theorem dX5_readIndex_79 : decode cX5_readIndex 79 = .ok (.iconst 4, 1) := by decide +kernel
theorem dX5_readIndex_80 : decode cX5_readIndex 80 = .ok (.invokevirtual 85, 3) := by decide +kernel
theorem dX5_readIndex_83 : decode cX5_readIndex 83 = .ok (.ifCond .ne 5, 3) := by decide +kernel
theorem dX5_readIndex_86 : decode cX5_readIndex 86 = .ok (.iconst (-1), 1) := by decide +kernel
theorem dX5_readIndex_87 : decode cX5_readIndex 87 = .ok (.ireturn, 1) := by decide +kernel
theorem dX5_readIndex_88 : decode cX5_readIndex 88 = .ok (.aload_n 0, 1) := by decide +kernel
theorem dX5_readIndex_89 : decode cX5_readIndex 89 = .ok (.dup, 1) := by decide +kernel
theorem dX5_readIndex_90 : decode cX5_readIndex 90 = .ok (.getfield 36, 3) := by decide +kernel
theorem dX5_readIndex_93 : decode cX5_readIndex 93 = .ok (.iconst 1, 1) := by decide +kernel
theorem dX5_readIndex_94 : decode cX5_readIndex 94 = .ok (.iadd, 1) := by decide +kernel
theorem dX5_readIndex_95 : decode cX5_readIndex 95 = .ok (.putfield 36, 3) := by decide +kernel
theorem dX5_readIndex_98 : decode cX5_readIndex 98 = .ok (.iload_n 3, 1) := by decide +kernel
theorem dX5_readIndex_99 : decode cX5_readIndex 99 = .ok (.ireturn, 1) := by decide +kernel
theorem dX5_readWalk_0 : decode cX5_readWalk 0 = .ok (.aload_n 0, 1) := by decide +kernel
theorem dX5_readWalk_1 : decode cX5_readWalk 1 = .ok (.iconst 5, 1) := by decide +kernel
theorem dX5_readWalk_2 : decode cX5_readWalk 2 = .ok (.invokevirtual 89, 3) := by decide +kernel
theorem dX5_readWalk_5 : decode cX5_readWalk 5 = .ok (.ifCond .eq 27, 3) := by decide +kernel
theorem dX5_readWalk_8 : decode cX5_readWalk 8 = .ok (.aload_n 0, 1) := by decide +kernel
theorem dX5_readWalk_9 : decode cX5_readWalk 9 = .ok (.aload_n 0, 1) := by decide +kernel
theorem dX5_readWalk_10 : decode cX5_readWalk 10 = .ok (.getfield 21, 3) := by decide +kernel
theorem dX5_readWalk_13 : decode cX5_readWalk 13 = .ok (.invokevirtual 133, 3) := by decide +kernel
theorem dX5_readWalk_16 : decode cX5_readWalk 16 = .ok (.ifCond .ne 7, 3) := by decide +kernel
theorem dX5_readWalk_19 : decode cX5_readWalk 19 = .ok (.iconst 1, 1) := by decide +kernel
theorem dX5_readWalk_20 : decode cX5_readWalk 20 = .ok (.goto 4, 3) := by decide +kernel
theorem dX5_readWalk_23 : decode cX5_readWalk 23 = .ok (.iconst 0, 1) := by decide +kernel
theorem dX5_readWalk_24 : decode cX5_readWalk 24 = .ok (.bipush 6, 2) := by decide +kernel
theorem dX5_readWalk_26 : decode cX5_readWalk 26 = .ok (.invokevirtual 85, 3) := by decide +kernel
theorem dX5_readWalk_29 : decode cX5_readWalk 29 = .ok (.ifCond .ne 4, 3) := by decide +kernel
theorem dX5_readWalk_32 : decode cX5_readWalk 32 = .ok (.return_, 1) := by decide +kernel
theorem dX5_readWalk_33 : decode cX5_readWalk 33 = .ok (.aload_n 0, 1) := by decide +kernel
theorem dX5_readWalk_34 : decode cX5_readWalk 34 = .ok (.dup, 1) := by decide +kernel
theorem dX5_readWalk_35 : decode cX5_readWalk 35 = .ok (.getfield 36, 3) := by decide +kernel
theorem dX5_readWalk_38 : decode cX5_readWalk 38 = .ok (.iconst 1, 1) := by decide +kernel
theorem dX5_readWalk_39 : decode cX5_readWalk 39 = .ok (.iadd, 1) := by decide +kernel
theorem dX5_readWalk_40 : decode cX5_readWalk 40 = .ok (.putfield 36, 3) := by decide +kernel
theorem dX5_readWalk_43 : decode cX5_readWalk 43 = .ok (.aload_n 0, 1) := by decide +kernel
theorem dX5_readWalk_44 : decode cX5_readWalk 44 = .ok (.aload_n 0, 1) := by decide +kernel
theorem dX5_readWalk_45 : decode cX5_readWalk 45 = .ok (.invokevirtual 110, 3) := by decide +kernel
theorem dX5_readWalk_48 : decode cX5_readWalk 48 = .ok (.putfield 40, 3) := by decide +kernel
theorem dX5_readWalk_51 : decode cX5_readWalk 51 = .ok (.aload_n 0, 1) := by decide +kernel
theorem dX5_readWalk_52 : decode cX5_readWalk 52 = .ok (.getfield 28, 3) := by decide +kernel
theorem dX5_readWalk_55 : decode cX5_readWalk 55 = .ok (.aload_n 0, 1) := by decide +kernel
theorem dX5_readWalk_56 : decode cX5_readWalk 56 = .ok (.getfield 40, 3) := by decide +kernel
theorem dX5_readWalk_59 : decode cX5_readWalk 59 = .ok (.iconst 0, 1) := by decide +kernel
theorem dX5_readWalk_60 : decode cX5_readWalk 60 = .ok (.invokevirtual 136, 3) := by decide +kernel
theorem dX5_readWalk_63 : decode cX5_readWalk 63 = .ok (.aload_n 0, 1) := by decide +kernel
theorem dX5_readWalk_64 : decode cX5_readWalk 64 = .ok (.invokevirtual 140, 3) := by decide +kernel
theorem dX5_readWalk_67 : decode cX5_readWalk 67 = .ok (.iconst 0, 1) := by decide +kernel
theorem dX5_readWalk_68 : decode cX5_readWalk 68 = .ok (.istore_n 1, 1) := by decide +kernel
theorem dX5_readWalk_69 : decode cX5_readWalk 69 = .ok (.iload_n 1, 1) := by decide +kernel
theorem dX5_readWalk_70 : decode cX5_readWalk 70 = .ok (.bipush 24, 2) := by decide +kernel
theorem dX5_readWalk_72 : decode cX5_readWalk 72 = .ok (.if_icmp .gt 24, 3) := by decide +kernel
theorem dX5_readWalk_75 : decode cX5_readWalk 75 = .ok (.aload_n 0, 1) := by decide +kernel
theorem dX5_readWalk_76 : decode cX5_readWalk 76 = .ok (.invokevirtual 143, 3) := by decide +kernel
theorem dX5_readWalk_79 : decode cX5_readWalk 79 = .ok (.ifCond .eq 17, 3) := by decide +kernel
theorem dX5_readWalk_82 : decode cX5_readWalk 82 = .ok (.aload_n 0, 1) := by decide +kernel
theorem dX5_readWalk_83 : decode cX5_readWalk 83 = .ok (.invokevirtual 146, 3) := by decide +kernel
theorem dX5_readWalk_86 : decode cX5_readWalk 86 = .ok (.aload_n 0, 1) := by decide +kernel
theorem dX5_readWalk_87 : decode cX5_readWalk 87 = .ok (.invokevirtual 140, 3) := by decide +kernel
theorem dX5_readWalk_90 : decode cX5_readWalk 90 = .ok (.iinc 1 1, 3) := by decide +kernel
theorem dX5_readWalk_93 : decode cX5_readWalk 93 = .ok (.goto (-24), 3) := by decide +kernel
theorem dX5_readWalk_96 : decode cX5_readWalk 96 = .ok (.aload_n 0, 1) := by decide +kernel
theorem dX5_readWalk_97 : decode cX5_readWalk 97 = .ok (.getfield 46, 3) := by decide +kernel
theorem dX5_readWalk_100 : decode cX5_readWalk 100 = .ok (.ifCond .ne 22, 3) := by decide +kernel
theorem dX5_readWalk_103 : decode cX5_readWalk 103 = .ok (.aload_n 0, 1) := by decide +kernel
theorem dX5_readWalk_104 : decode cX5_readWalk 104 = .ok (.invokevirtual 99, 3) := by decide +kernel
theorem dX5_readWalk_107 : decode cX5_readWalk 107 = .ok (.ifCond .eq 15, 3) := by decide +kernel
theorem dX5_readWalk_110 : decode cX5_readWalk 110 = .ok (.aload_n 0, 1) := by decide +kernel
theorem dX5_readWalk_111 : decode cX5_readWalk 111 = .ok (.getfield 21, 3) := by decide +kernel
theorem dX5_readWalk_114 : decode cX5_readWalk 114 = .ok (.aload_n 0, 1) := by decide +kernel
theorem dX5_readWalk_115 : decode cX5_readWalk 115 = .ok (.getfield 28, 3) := by decide +kernel
theorem dX5_readWalk_118 : decode cX5_readWalk 118 = .ok (.invokevirtual 149, 3) := by decide +kernel
theorem dX5_readWalk_121 : decode cX5_readWalk 121 = .ok (.pop, 1) := by decide +kernel
theorem dX5_readWalk_122 : decode cX5_readWalk 122 = .ok (.return_, 1) := by decide +kernel
theorem dX5_isSign_0 : decode cX5_isSign 0 = .ok (.aload_n 0, 1) := by decide +kernel
theorem dX5_isSign_1 : decode cX5_isSign 1 = .ok (.invokevirtual 62, 3) := by decide +kernel
theorem dX5_isSign_4 : decode cX5_isSign 4 = .ok (.istore_n 1, 1) := by decide +kernel
theorem dX5_isSign_5 : decode cX5_isSign 5 = .ok (.aload_n 0, 1) := by decide +kernel
theorem dX5_isSign_6 : decode cX5_isSign 6 = .ok (.getfield 46, 3) := by decide +kernel
theorem dX5_isSign_9 : decode cX5_isSign 9 = .ok (.ifCond .ne 19, 3) := by decide +kernel
theorem dX5_isSign_12 : decode cX5_isSign 12 = .ok (.iload_n 1, 1) := by decide +kernel
theorem dX5_isSign_13 : decode cX5_isSign 13 = .ok (.bipush 7, 2) := by decide +kernel
theorem dX5_isSign_15 : decode cX5_isSign 15 = .ok (.if_icmp .eq 9, 3) := by decide +kernel
theorem dX5_isSign_18 : decode cX5_isSign 18 = .ok (.iload_n 1, 1) := by decide +kernel
theorem dX5_isSign_19 : decode cX5_isSign 19 = .ok (.bipush 8, 2) := by decide +kernel
theorem dX5_isSign_21 : decode cX5_isSign 21 = .ok (.if_icmp .ne 7, 3) := by decide +kernel
theorem dX5_isSign_24 : decode cX5_isSign 24 = .ok (.iconst 1, 1) := by decide +kernel
theorem dX5_isSign_25 : decode cX5_isSign 25 = .ok (.goto 4, 3) := by decide +kernel
theorem dX5_isSign_28 : decode cX5_isSign 28 = .ok (.iconst 0, 1) := by decide +kernel
theorem dX5_isSign_29 : decode cX5_isSign 29 = .ok (.ireturn, 1) := by decide +kernel
theorem dX5_readNumber_0 : decode cX5_readNumber 0 = .ok (.aload_n 0, 1) := by decide +kernel
theorem dX5_readNumber_1 : decode cX5_readNumber 1 = .ok (.getfield 46, 3) := by decide +kernel
theorem dX5_readNumber_4 : decode cX5_readNumber 4 = .ok (.ifCond .ne 44, 3) := by decide +kernel
theorem dX5_readNumber_7 : decode cX5_readNumber 7 = .ok (.aload_n 0, 1) := by decide +kernel
theorem dX5_readNumber_8 : decode cX5_readNumber 8 = .ok (.invokevirtual 62, 3) := by decide +kernel
theorem dX5_readNumber_11 : decode cX5_readNumber 11 = .ok (.bipush 6, 2) := by decide +kernel
theorem dX5_readNumber_13 : decode cX5_readNumber 13 = .ok (.if_icmp .ne 35, 3) := by decide +kernel
theorem dX5_readNumber_16 : decode cX5_readNumber 16 = .ok (.aload_n 0, 1) := by decide +kernel
theorem dX5_readNumber_17 : decode cX5_readNumber 17 = .ok (.getfield 28, 3) := by decide +kernel
theorem dX5_readNumber_20 : decode cX5_readNumber 20 = .ok (.aload_n 0, 1) := by decide +kernel
theorem dX5_readNumber_21 : decode cX5_readNumber 21 = .ok (.invokevirtual 96, 3) := by decide +kernel
theorem dX5_readNumber_24 : decode cX5_readNumber 24 = .ok (.aload_n 0, 1) := by decide +kernel
theorem dX5_readNumber_25 : decode cX5_readNumber 25 = .ok (.getfield 21, 3) := by decide +kernel
theorem dX5_readNumber_28 : decode cX5_readNumber 28 = .ok (.aload_n 0, 1) := by decide +kernel
theorem dX5_readNumber_29 : decode cX5_readNumber 29 = .ok (.getfield 40, 3) := by decide +kernel
theorem dX5_readNumber_32 : decode cX5_readNumber 32 = .ok (.invokevirtual 117, 3) := by decide +kernel
theorem dX5_readNumber_35 : decode cX5_readNumber 35 = .ok (.invokevirtual 153, 3) := by decide +kernel
theorem dX5_readNumber_38 : decode cX5_readNumber 38 = .ok (.aload_n 0, 1) := by decide +kernel
theorem dX5_readNumber_39 : decode cX5_readNumber 39 = .ok (.dup, 1) := by decide +kernel
theorem dX5_readNumber_40 : decode cX5_readNumber 40 = .ok (.getfield 36, 3) := by decide +kernel
theorem dX5_readNumber_43 : decode cX5_readNumber 43 = .ok (.iconst 1, 1) := by decide +kernel
theorem dX5_readNumber_44 : decode cX5_readNumber 44 = .ok (.iadd, 1) := by decide +kernel
theorem dX5_readNumber_45 : decode cX5_readNumber 45 = .ok (.putfield 36, 3) := by decide +kernel
theorem dX5_readNumber_48 : decode cX5_readNumber 48 = .ok (.return_, 1) := by decide +kernel
theorem dX5_readStep_0 : decode cX5_readStep 0 = .ok (.aload_n 0, 1) := by decide +kernel
theorem dX5_readStep_1 : decode cX5_readStep 1 = .ok (.aload_n 0, 1) := by decide +kernel
theorem dX5_readStep_2 : decode cX5_readStep 2 = .ok (.getfield 28, 3) := by decide +kernel
theorem dX5_readStep_5 : decode cX5_readStep 5 = .ok (.invokevirtual 156, 3) := by decide +kernel
theorem dX5_readStep_8 : decode cX5_readStep 8 = .ok (.bipush 24, 2) := by decide +kernel
theorem dX5_readStep_10 : decode cX5_readStep 10 = .ok (.if_icmp .ge 7, 3) := by decide +kernel
theorem dX5_readStep_13 : decode cX5_readStep 13 = .ok (.iconst 1, 1) := by decide +kernel
theorem dX5_readStep_14 : decode cX5_readStep 14 = .ok (.goto 4, 3) := by decide +kernel
theorem dX5_readStep_17 : decode cX5_readStep 17 = .ok (.iconst 0, 1) := by decide +kernel
theorem dX5_readStep_18 : decode cX5_readStep 18 = .ok (.bipush 6, 2) := by decide +kernel
theorem dX5_readStep_20 : decode cX5_readStep 20 = .ok (.invokevirtual 85, 3) := by decide +kernel
theorem dX5_readStep_23 : decode cX5_readStep 23 = .ok (.ifCond .ne 4, 3) := by decide +kernel
theorem dX5_readStep_26 : decode cX5_readStep 26 = .ok (.return_, 1) := by decide +kernel
theorem dX5_readStep_27 : decode cX5_readStep 27 = .ok (.aload_n 0, 1) := by decide +kernel
theorem dX5_readStep_28 : decode cX5_readStep 28 = .ok (.invokevirtual 62, 3) := by decide +kernel
theorem dX5_readStep_31 : decode cX5_readStep 31 = .ok (.bipush 8, 2) := by decide +kernel
theorem dX5_readStep_33 : decode cX5_readStep 33 = .ok (.if_icmp .ne 7, 3) := by decide +kernel
theorem dX5_readStep_36 : decode cX5_readStep 36 = .ok (.iconst 1, 1) := by decide +kernel
theorem dX5_readStep_37 : decode cX5_readStep 37 = .ok (.goto 4, 3) := by decide +kernel
theorem dX5_readStep_40 : decode cX5_readStep 40 = .ok (.iconst 0, 1) := by decide +kernel
theorem dX5_readStep_41 : decode cX5_readStep 41 = .ok (.invokestatic 159, 3) := by decide +kernel
theorem dX5_readStep_44 : decode cX5_readStep 44 = .ok (.istore_n 1, 1) := by decide +kernel
theorem dX5_readStep_45 : decode cX5_readStep 45 = .ok (.aload_n 0, 1) := by decide +kernel
theorem dX5_readStep_46 : decode cX5_readStep 46 = .ok (.dup, 1) := by decide +kernel
theorem dX5_readStep_47 : decode cX5_readStep 47 = .ok (.getfield 36, 3) := by decide +kernel
theorem dX5_readStep_50 : decode cX5_readStep 50 = .ok (.iconst 1, 1) := by decide +kernel
theorem dX5_readStep_51 : decode cX5_readStep 51 = .ok (.iadd, 1) := by decide +kernel
theorem dX5_readStep_52 : decode cX5_readStep 52 = .ok (.putfield 36, 3) := by decide +kernel
theorem dX5_readStep_55 : decode cX5_readStep 55 = .ok (.iconst 2, 1) := by decide +kernel
theorem dX5_readStep_56 : decode cX5_readStep 56 = .ok (.aload_n 0, 1) := by decide +kernel
theorem dX5_readStep_57 : decode cX5_readStep 57 = .ok (.invokevirtual 96, 3) := by decide +kernel
theorem dX5_readStep_60 : decode cX5_readStep 60 = .ok (.imul, 1) := by decide +kernel
theorem dX5_readStep_61 : decode cX5_readStep 61 = .ok (.iload_n 1, 1) := by decide +kernel
theorem dX5_readStep_62 : decode cX5_readStep 62 = .ok (.iadd, 1) := by decide +kernel
theorem dX5_readStep_63 : decode cX5_readStep 63 = .ok (.istore_n 2, 1) := by decide +kernel
theorem dX5_readStep_64 : decode cX5_readStep 64 = .ok (.aload_n 0, 1) := by decide +kernel
theorem dX5_readStep_65 : decode cX5_readStep 65 = .ok (.bipush 6, 2) := by decide +kernel
theorem dX5_readStep_67 : decode cX5_readStep 67 = .ok (.invokevirtual 89, 3) := by decide +kernel
theorem dX5_readStep_70 : decode cX5_readStep 70 = .ok (.ifCond .eq 49, 3) := by decide +kernel
theorem dX5_readStep_73 : decode cX5_readStep 73 = .ok (.aload_n 0, 1) := by decide +kernel
theorem dX5_readStep_74 : decode cX5_readStep 74 = .ok (.aload_n 0, 1) := by decide +kernel
theorem dX5_readStep_75 : decode cX5_readStep 75 = .ok (.getfield 21, 3) := by decide +kernel
theorem dX5_readStep_78 : decode cX5_readStep 78 = .ok (.iload_n 2, 1) := by decide +kernel
theorem dX5_readStep_79 : decode cX5_readStep 79 = .ok (.iconst 1, 1) := by decide +kernel
theorem dX5_readStep_80 : decode cX5_readStep 80 = .ok (.ishr, 1) := by decide +kernel
theorem dX5_readStep_81 : decode cX5_readStep 81 = .ok (.invokevirtual 163, 3) := by decide +kernel
theorem dX5_readStep_84 : decode cX5_readStep 84 = .ok (.iconst 3, 1) := by decide +kernel
theorem dX5_readStep_85 : decode cX5_readStep 85 = .ok (.invokevirtual 85, 3) := by decide +kernel
theorem dX5_readStep_88 : decode cX5_readStep 88 = .ok (.ifCond .eq 31, 3) := by decide +kernel
theorem dX5_readStep_91 : decode cX5_readStep 91 = .ok (.aload_n 0, 1) := by decide +kernel
theorem dX5_readStep_92 : decode cX5_readStep 92 = .ok (.aload_n 0, 1) := by decide +kernel
theorem dX5_readStep_93 : decode cX5_readStep 93 = .ok (.getfield 21, 3) := by decide +kernel
theorem dX5_readStep_96 : decode cX5_readStep 96 = .ok (.iload_n 2, 1) := by decide +kernel
theorem dX5_readStep_97 : decode cX5_readStep 97 = .ok (.invokevirtual 166, 3) := by decide +kernel
theorem dX5_readStep_100 : decode cX5_readStep 100 = .ok (.aload_n 0, 1) := by decide +kernel
theorem dX5_readStep_101 : decode cX5_readStep 101 = .ok (.getfield 40, 3) := by decide +kernel
theorem dX5_readStep_104 : decode cX5_readStep 104 = .ok (.if_icmp .ne 7, 3) := by decide +kernel
theorem dX5_readStep_107 : decode cX5_readStep 107 = .ok (.iconst 1, 1) := by decide +kernel
theorem dX5_readStep_108 : decode cX5_readStep 108 = .ok (.goto 4, 3) := by decide +kernel
theorem dX5_readStep_111 : decode cX5_readStep 111 = .ok (.iconst 0, 1) := by decide +kernel
theorem dX5_readStep_112 : decode cX5_readStep 112 = .ok (.iconst 5, 1) := by decide +kernel
theorem dX5_readStep_113 : decode cX5_readStep 113 = .ok (.invokevirtual 85, 3) := by decide +kernel
theorem dX5_readStep_116 : decode cX5_readStep 116 = .ok (.ifCond .ne 4, 3) := by decide +kernel
theorem dX5_readStep_119 : decode cX5_readStep 119 = .ok (.return_, 1) := by decide +kernel
theorem dX5_readStep_120 : decode cX5_readStep 120 = .ok (.aload_n 0, 1) := by decide +kernel
theorem dX5_readStep_121 : decode cX5_readStep 121 = .ok (.getfield 28, 3) := by decide +kernel
theorem dX5_readStep_124 : decode cX5_readStep 124 = .ok (.iload_n 2, 1) := by decide +kernel
theorem dX5_readStep_125 : decode cX5_readStep 125 = .ok (.iconst 0, 1) := by decide +kernel
theorem dX5_readStep_126 : decode cX5_readStep 126 = .ok (.invokevirtual 169, 3) := by decide +kernel
theorem dX5_readStep_129 : decode cX5_readStep 129 = .ok (.aload_n 0, 1) := by decide +kernel
theorem dX5_readStep_130 : decode cX5_readStep 130 = .ok (.aload_n 0, 1) := by decide +kernel
theorem dX5_readStep_131 : decode cX5_readStep 131 = .ok (.getfield 21, 3) := by decide +kernel
theorem dX5_readStep_134 : decode cX5_readStep 134 = .ok (.iload_n 2, 1) := by decide +kernel
theorem dX5_readStep_135 : decode cX5_readStep 135 = .ok (.invokevirtual 172, 3) := by decide +kernel
theorem dX5_readStep_138 : decode cX5_readStep 138 = .ok (.putfield 40, 3) := by decide +kernel
theorem dX5_readStep_141 : decode cX5_readStep 141 = .ok (.aload_n 0, 1) := by decide +kernel
theorem dX5_readStep_142 : decode cX5_readStep 142 = .ok (.dup, 1) := by decide +kernel
theorem dX5_readStep_143 : decode cX5_readStep 143 = .ok (.getfield 36, 3) := by decide +kernel
theorem dX5_readStep_146 : decode cX5_readStep 146 = .ok (.iconst 1, 1) := by decide +kernel
theorem dX5_readStep_147 : decode cX5_readStep 147 = .ok (.iadd, 1) := by decide +kernel
theorem dX5_readStep_148 : decode cX5_readStep 148 = .ok (.putfield 36, 3) := by decide +kernel
theorem dX5_readStep_151 : decode cX5_readStep 151 = .ok (.return_, 1) := by decide +kernel
theorem dX6_leastOf_0 : decode cX6_leastOf 0 = .ok (.iload_n 1, 1) := by decide +kernel
theorem dX6_leastOf_1 : decode cX6_leastOf 1 = .ok (.ifCond .lt 12, 3) := by decide +kernel
theorem dX6_leastOf_4 : decode cX6_leastOf 4 = .ok (.iload_n 1, 1) := by decide +kernel
theorem dX6_leastOf_5 : decode cX6_leastOf 5 = .ok (.aload_n 0, 1) := by decide +kernel
theorem dX6_leastOf_6 : decode cX6_leastOf 6 = .ok (.getfield 9, 3) := by decide +kernel
theorem dX6_leastOf_9 : decode cX6_leastOf 9 = .ok (.arraylength, 1) := by decide +kernel
theorem dX6_leastOf_10 : decode cX6_leastOf 10 = .ok (.if_icmp .lt 7, 3) := by decide +kernel
theorem dX6_leastOf_13 : decode cX6_leastOf 13 = .ok (.iconst (-1), 1) := by decide +kernel
theorem dX6_leastOf_14 : decode cX6_leastOf 14 = .ok (.goto 9, 3) := by decide +kernel
theorem dX6_leastOf_17 : decode cX6_leastOf 17 = .ok (.aload_n 0, 1) := by decide +kernel
theorem dX6_leastOf_18 : decode cX6_leastOf 18 = .ok (.getfield 9, 3) := by decide +kernel
theorem dX6_leastOf_21 : decode cX6_leastOf 21 = .ok (.iload_n 1, 1) := by decide +kernel
theorem dX6_leastOf_22 : decode cX6_leastOf 22 = .ok (.iaload, 1) := by decide +kernel
theorem dX6_leastOf_23 : decode cX6_leastOf 23 = .ok (.ireturn, 1) := by decide +kernel
theorem dX6_setLeast_0 : decode cX6_setLeast 0 = .ok (.iload_n 1, 1) := by decide +kernel
theorem dX6_setLeast_1 : decode cX6_setLeast 1 = .ok (.ifCond .lt 19, 3) := by decide +kernel
theorem dX6_setLeast_4 : decode cX6_setLeast 4 = .ok (.iload_n 1, 1) := by decide +kernel
theorem dX6_setLeast_5 : decode cX6_setLeast 5 = .ok (.aload_n 0, 1) := by decide +kernel
theorem dX6_setLeast_6 : decode cX6_setLeast 6 = .ok (.getfield 9, 3) := by decide +kernel
theorem dX6_setLeast_9 : decode cX6_setLeast 9 = .ok (.arraylength, 1) := by decide +kernel
theorem dX6_setLeast_10 : decode cX6_setLeast 10 = .ok (.if_icmp .ge 10, 3) := by decide +kernel
theorem dX6_setLeast_13 : decode cX6_setLeast 13 = .ok (.aload_n 0, 1) := by decide +kernel
theorem dX6_setLeast_14 : decode cX6_setLeast 14 = .ok (.getfield 9, 3) := by decide +kernel
theorem dX6_setLeast_17 : decode cX6_setLeast 17 = .ok (.iload_n 1, 1) := by decide +kernel
theorem dX6_setLeast_18 : decode cX6_setLeast 18 = .ok (.iload_n 2, 1) := by decide +kernel
theorem dX6_setLeast_19 : decode cX6_setLeast 19 = .ok (.iastore, 1) := by decide +kernel
theorem dX6_setLeast_20 : decode cX6_setLeast 20 = .ok (.return_, 1) := by decide +kernel
theorem dX6_join_0 : decode cX6_join 0 = .ok (.iconst 0, 1) := by decide +kernel
theorem dX6_join_1 : decode cX6_join 1 = .ok (.istore_n 2, 1) := by decide +kernel
theorem dX6_join_2 : decode cX6_join 2 = .ok (.iload_n 2, 1) := by decide +kernel
theorem dX6_join_3 : decode cX6_join 3 = .ok (.bipush 6, 2) := by decide +kernel
theorem dX6_join_5 : decode cX6_join 5 = .ok (.if_icmp .ge 15, 3) := by decide +kernel
theorem dX6_join_8 : decode cX6_join 8 = .ok (.aload_n 0, 1) := by decide +kernel
theorem dX6_join_9 : decode cX6_join 9 = .ok (.iload_n 2, 1) := by decide +kernel
theorem dX6_join_10 : decode cX6_join 10 = .ok (.iload_n 2, 1) := by decide +kernel
theorem dX6_join_11 : decode cX6_join 11 = .ok (.invokevirtual 22, 3) := by decide +kernel
theorem dX6_join_14 : decode cX6_join 14 = .ok (.iinc 2 1, 3) := by decide +kernel
theorem dX6_join_17 : decode cX6_join 17 = .ok (.goto (-15), 3) := by decide +kernel
theorem dX6_join_20 : decode cX6_join 20 = .ok (.iconst 1, 1) := by decide +kernel
theorem dX6_join_21 : decode cX6_join 21 = .ok (.istore_n 2, 1) := by decide +kernel
theorem dX6_join_22 : decode cX6_join 22 = .ok (.iload_n 2, 1) := by decide +kernel
theorem dX6_join_23 : decode cX6_join 23 = .ok (.aload_n 1, 1) := by decide +kernel
theorem dX6_join_24 : decode cX6_join 24 = .ok (.invokevirtual 26, 3) := by decide +kernel
theorem dX6_join_27 : decode cX6_join 27 = .ok (.if_icmp .ge 56, 3) := by decide +kernel
theorem dX6_join_30 : decode cX6_join 30 = .ok (.iconst 0, 1) := by decide +kernel
theorem dX6_join_31 : decode cX6_join 31 = .ok (.istore_n 3, 1) := by decide +kernel
theorem dX6_join_32 : decode cX6_join 32 = .ok (.iload_n 3, 1) := by decide +kernel
theorem dX6_join_33 : decode cX6_join 33 = .ok (.aload_n 1, 1) := by decide +kernel
theorem dX6_join_34 : decode cX6_join 34 = .ok (.invokevirtual 32, 3) := by decide +kernel
theorem dX6_join_37 : decode cX6_join 37 = .ok (.if_icmp .ge 40, 3) := by decide +kernel
theorem dX6_join_40 : decode cX6_join 40 = .ok (.aload_n 1, 1) := by decide +kernel
theorem dX6_join_41 : decode cX6_join 41 = .ok (.iload_n 3, 1) := by decide +kernel
theorem dX6_join_42 : decode cX6_join 42 = .ok (.invokevirtual 35, 3) := by decide +kernel
theorem dX6_join_45 : decode cX6_join 45 = .ok (.istore 4, 2) := by decide +kernel
theorem dX6_join_47 : decode cX6_join 47 = .ok (.aload_n 0, 1) := by decide +kernel
theorem dX6_join_48 : decode cX6_join 48 = .ok (.iload 4, 2) := by decide +kernel
theorem dX6_join_50 : decode cX6_join 50 = .ok (.aload_n 0, 1) := by decide +kernel
theorem dX6_join_51 : decode cX6_join 51 = .ok (.iload 4, 2) := by decide +kernel
theorem dX6_join_53 : decode cX6_join 53 = .ok (.invokevirtual 39, 3) := by decide +kernel
theorem dX6_join_56 : decode cX6_join 56 = .ok (.aload_n 0, 1) := by decide +kernel
theorem dX6_join_57 : decode cX6_join 57 = .ok (.aload_n 1, 1) := by decide +kernel
theorem dX6_join_58 : decode cX6_join 58 = .ok (.iload_n 3, 1) := by decide +kernel
theorem dX6_join_59 : decode cX6_join 59 = .ok (.invokevirtual 42, 3) := by decide +kernel
theorem dX6_join_62 : decode cX6_join 62 = .ok (.invokevirtual 39, 3) := by decide +kernel
theorem dX6_join_65 : decode cX6_join 65 = .ok (.invokestatic 45, 3) := by decide +kernel
theorem dX6_join_68 : decode cX6_join 68 = .ok (.invokevirtual 22, 3) := by decide +kernel
theorem dX6_join_71 : decode cX6_join 71 = .ok (.iinc 3 1, 3) := by decide +kernel
theorem dX6_join_74 : decode cX6_join 74 = .ok (.goto (-42), 3) := by decide +kernel
theorem dX6_join_77 : decode cX6_join 77 = .ok (.iinc 2 1, 3) := by decide +kernel
theorem dX6_join_80 : decode cX6_join 80 = .ok (.goto (-58), 3) := by decide +kernel
theorem dX6_join_83 : decode cX6_join 83 = .ok (.return_, 1) := by decide +kernel
theorem dX6_parts_0 : decode cX6_parts 0 = .ok (.aload_n 0, 1) := by decide +kernel
theorem dX6_parts_1 : decode cX6_parts 1 = .ok (.aload_n 1, 1) := by decide +kernel
theorem dX6_parts_2 : decode cX6_parts 2 = .ok (.invokevirtual 51, 3) := by decide +kernel
theorem dX6_parts_5 : decode cX6_parts 5 = .ok (.iconst 0, 1) := by decide +kernel
theorem dX6_parts_6 : decode cX6_parts 6 = .ok (.istore_n 2, 1) := by decide +kernel
theorem dX6_parts_7 : decode cX6_parts 7 = .ok (.iconst 0, 1) := by decide +kernel
theorem dX6_parts_8 : decode cX6_parts 8 = .ok (.istore_n 3, 1) := by decide +kernel
theorem dX6_parts_9 : decode cX6_parts 9 = .ok (.iload_n 3, 1) := by decide +kernel
theorem dX6_parts_10 : decode cX6_parts 10 = .ok (.aload_n 1, 1) := by decide +kernel
theorem dX6_parts_11 : decode cX6_parts 11 = .ok (.invokevirtual 26, 3) := by decide +kernel
theorem dX6_parts_14 : decode cX6_parts 14 = .ok (.if_icmp .ge 29, 3) := by decide +kernel
theorem dX6_parts_17 : decode cX6_parts 17 = .ok (.iload_n 2, 1) := by decide +kernel
theorem dX6_parts_18 : decode cX6_parts 18 = .ok (.aload_n 0, 1) := by decide +kernel
theorem dX6_parts_19 : decode cX6_parts 19 = .ok (.iload_n 3, 1) := by decide +kernel
theorem dX6_parts_20 : decode cX6_parts 20 = .ok (.invokevirtual 39, 3) := by decide +kernel
theorem dX6_parts_23 : decode cX6_parts 23 = .ok (.iload_n 3, 1) := by decide +kernel
theorem dX6_parts_24 : decode cX6_parts 24 = .ok (.if_icmp .ne 7, 3) := by decide +kernel
theorem dX6_parts_27 : decode cX6_parts 27 = .ok (.iconst 1, 1) := by decide +kernel
theorem dX6_parts_28 : decode cX6_parts 28 = .ok (.goto 4, 3) := by decide +kernel
theorem dX6_parts_31 : decode cX6_parts 31 = .ok (.iconst 0, 1) := by decide +kernel
theorem dX6_parts_32 : decode cX6_parts 32 = .ok (.invokestatic 55, 3) := by decide +kernel
theorem dX6_parts_35 : decode cX6_parts 35 = .ok (.iadd, 1) := by decide +kernel
theorem dX6_parts_36 : decode cX6_parts 36 = .ok (.istore_n 2, 1) := by decide +kernel
theorem dX6_parts_37 : decode cX6_parts 37 = .ok (.iinc 3 1, 3) := by decide +kernel
theorem dX6_parts_40 : decode cX6_parts 40 = .ok (.goto (-31), 3) := by decide +kernel
theorem dX6_parts_43 : decode cX6_parts 43 = .ok (.iload_n 2, 1) := by decide +kernel
theorem dX6_parts_44 : decode cX6_parts 44 = .ok (.ireturn, 1) := by decide +kernel
theorem dX6_centralOrder_0 : decode cX6_centralOrder 0 = .ok (.aload_n 0, 1) := by decide +kernel
theorem dX6_centralOrder_1 : decode cX6_centralOrder 1 = .ok (.aload_n 1, 1) := by decide +kernel
theorem dX6_centralOrder_2 : decode cX6_centralOrder 2 = .ok (.invokevirtual 51, 3) := by decide +kernel
theorem dX6_centralOrder_5 : decode cX6_centralOrder 5 = .ok (.aload_n 1, 1) := by decide +kernel
theorem dX6_centralOrder_6 : decode cX6_centralOrder 6 = .ok (.iload_n 2, 1) := by decide +kernel
theorem dX6_centralOrder_7 : decode cX6_centralOrder 7 = .ok (.invokevirtual 59, 3) := by decide +kernel
theorem dX6_centralOrder_10 : decode cX6_centralOrder 10 = .ok (.i2l, 1) := by decide +kernel
theorem dX6_centralOrder_11 : decode cX6_centralOrder 11 = .ok (.lstore_n 3, 1) := by decide +kernel
theorem dX6_centralOrder_12 : decode cX6_centralOrder 12 = .ok (.iconst 0, 1) := by decide +kernel
theorem dX6_centralOrder_13 : decode cX6_centralOrder 13 = .ok (.istore 5, 2) := by decide +kernel
theorem dX6_centralOrder_15 : decode cX6_centralOrder 15 = .ok (.iload 5, 2) := by decide +kernel
theorem dX6_centralOrder_17 : decode cX6_centralOrder 17 = .ok (.aload_n 1, 1) := by decide +kernel
theorem dX6_centralOrder_18 : decode cX6_centralOrder 18 = .ok (.invokevirtual 62, 3) := by decide +kernel
theorem dX6_centralOrder_21 : decode cX6_centralOrder 21 = .ok (.if_icmp .ge 40, 3) := by decide +kernel
theorem dX6_centralOrder_24 : decode cX6_centralOrder 24 = .ok (.aload_n 0, 1) := by decide +kernel
theorem dX6_centralOrder_25 : decode cX6_centralOrder 25 = .ok (.aload_n 1, 1) := by decide +kernel
theorem dX6_centralOrder_26 : decode cX6_centralOrder 26 = .ok (.iload 5, 2) := by decide +kernel
theorem dX6_centralOrder_28 : decode cX6_centralOrder 28 = .ok (.iconst 0, 1) := by decide +kernel
theorem dX6_centralOrder_29 : decode cX6_centralOrder 29 = .ok (.invokevirtual 65, 3) := by decide +kernel
theorem dX6_centralOrder_32 : decode cX6_centralOrder 32 = .ok (.invokevirtual 39, 3) := by decide +kernel
theorem dX6_centralOrder_35 : decode cX6_centralOrder 35 = .ok (.aload_n 0, 1) := by decide +kernel
theorem dX6_centralOrder_36 : decode cX6_centralOrder 36 = .ok (.iload_n 2, 1) := by decide +kernel
theorem dX6_centralOrder_37 : decode cX6_centralOrder 37 = .ok (.invokevirtual 39, 3) := by decide +kernel
theorem dX6_centralOrder_40 : decode cX6_centralOrder 40 = .ok (.if_icmp .ne 15, 3) := by decide +kernel
theorem dX6_centralOrder_43 : decode cX6_centralOrder 43 = .ok (.lload_n 3, 1) := by decide +kernel
theorem dX6_centralOrder_44 : decode cX6_centralOrder 44 = .ok (.aload_n 1, 1) := by decide +kernel
theorem dX6_centralOrder_45 : decode cX6_centralOrder 45 = .ok (.iload 5, 2) := by decide +kernel
theorem dX6_centralOrder_47 : decode cX6_centralOrder 47 = .ok (.invokevirtual 68, 3) := by decide +kernel
theorem dX6_centralOrder_50 : decode cX6_centralOrder 50 = .ok (.i2l, 1) := by decide +kernel
theorem dX6_centralOrder_51 : decode cX6_centralOrder 51 = .ok (.invokestatic 71, 3) := by decide +kernel
theorem dX6_centralOrder_54 : decode cX6_centralOrder 54 = .ok (.lstore_n 3, 1) := by decide +kernel
theorem dX6_centralOrder_55 : decode cX6_centralOrder 55 = .ok (.iinc 5 1, 3) := by decide +kernel
theorem dX6_centralOrder_58 : decode cX6_centralOrder 58 = .ok (.goto (-43), 3) := by decide +kernel
theorem dX6_centralOrder_61 : decode cX6_centralOrder 61 = .ok (.lload_n 3, 1) := by decide +kernel
theorem dX6_centralOrder_62 : decode cX6_centralOrder 62 = .ok (.l2i, 1) := by decide +kernel
theorem dX6_centralOrder_63 : decode cX6_centralOrder 63 = .ok (.ireturn, 1) := by decide +kernel
theorem dX6_weigh_0 : decode cX6_weigh 0 = .ok (.aload_n 0, 1) := by decide +kernel
theorem dX6_weigh_1 : decode cX6_weigh 1 = .ok (.lconst 0, 1) := by decide +kernel
theorem dX6_weigh_2 : decode cX6_weigh 2 = .ok (.putfield 15, 3) := by decide +kernel
theorem dX6_weigh_5 : decode cX6_weigh 5 = .ok (.aload_n 0, 1) := by decide +kernel
theorem dX6_weigh_6 : decode cX6_weigh 6 = .ok (.lconst 1, 1) := by decide +kernel
theorem dX6_weigh_7 : decode cX6_weigh 7 = .ok (.putfield 19, 3) := by decide +kernel
theorem dX6_weigh_10 : decode cX6_weigh 10 = .ok (.iconst 0, 1) := by decide +kernel
theorem dX6_weigh_11 : decode cX6_weigh 11 = .ok (.istore_n 2, 1) := by decide +kernel
theorem dX6_weigh_12 : decode cX6_weigh 12 = .ok (.iload_n 2, 1) := by decide +kernel
theorem dX6_weigh_13 : decode cX6_weigh 13 = .ok (.aload_n 1, 1) := by decide +kernel
theorem dX6_weigh_14 : decode cX6_weigh 14 = .ok (.invokevirtual 26, 3) := by decide +kernel
theorem dX6_weigh_17 : decode cX6_weigh 17 = .ok (.if_icmp .ge 20, 3) := by decide +kernel
theorem dX6_weigh_20 : decode cX6_weigh 20 = .ok (.aload_n 0, 1) := by decide +kernel
theorem dX6_weigh_21 : decode cX6_weigh 21 = .ok (.lconst 1, 1) := by decide +kernel
theorem dX6_weigh_22 : decode cX6_weigh 22 = .ok (.aload_n 1, 1) := by decide +kernel
theorem dX6_weigh_23 : decode cX6_weigh 23 = .ok (.iload_n 2, 1) := by decide +kernel
theorem dX6_weigh_24 : decode cX6_weigh 24 = .ok (.invokevirtual 59, 3) := by decide +kernel
theorem dX6_weigh_27 : decode cX6_weigh 27 = .ok (.i2l, 1) := by decide +kernel
theorem dX6_weigh_28 : decode cX6_weigh 28 = .ok (.invokevirtual 75, 3) := by decide +kernel
theorem dX6_weigh_31 : decode cX6_weigh 31 = .ok (.iinc 2 1, 3) := by decide +kernel
theorem dX6_weigh_34 : decode cX6_weigh 34 = .ok (.goto (-22), 3) := by decide +kernel
theorem dX6_weigh_37 : decode cX6_weigh 37 = .ok (.iconst 0, 1) := by decide +kernel
theorem dX6_weigh_38 : decode cX6_weigh 38 = .ok (.istore_n 2, 1) := by decide +kernel
theorem dX6_weigh_39 : decode cX6_weigh 39 = .ok (.iload_n 2, 1) := by decide +kernel
theorem dX6_weigh_40 : decode cX6_weigh 40 = .ok (.aload_n 1, 1) := by decide +kernel
theorem dX6_weigh_41 : decode cX6_weigh 41 = .ok (.invokevirtual 62, 3) := by decide +kernel
theorem dX6_weigh_44 : decode cX6_weigh 44 = .ok (.if_icmp .ge 22, 3) := by decide +kernel
theorem dX6_weigh_47 : decode cX6_weigh 47 = .ok (.aload_n 0, 1) := by decide +kernel
theorem dX6_weigh_48 : decode cX6_weigh 48 = .ok (.ldc2_w 79, 3) := by decide +kernel
theorem dX6_weigh_51 : decode cX6_weigh 51 = .ok (.aload_n 1, 1) := by decide +kernel
theorem dX6_weigh_52 : decode cX6_weigh 52 = .ok (.iload_n 2, 1) := by decide +kernel
theorem dX6_weigh_53 : decode cX6_weigh 53 = .ok (.invokevirtual 68, 3) := by decide +kernel
theorem dX6_weigh_56 : decode cX6_weigh 56 = .ok (.i2l, 1) := by decide +kernel
theorem dX6_weigh_57 : decode cX6_weigh 57 = .ok (.invokevirtual 75, 3) := by decide +kernel
theorem dX6_weigh_60 : decode cX6_weigh 60 = .ok (.iinc 2 1, 3) := by decide +kernel
theorem dX6_weigh_63 : decode cX6_weigh 63 = .ok (.goto (-24), 3) := by decide +kernel
theorem dX6_weigh_66 : decode cX6_weigh 66 = .ok (.return_, 1) := by decide +kernel
theorem dX6_addPart_0 : decode cX6_addPart 0 = .ok (.lload_n 3, 1) := by decide +kernel
theorem dX6_addPart_1 : decode cX6_addPart 1 = .ok (.lconst 1, 1) := by decide +kernel
theorem dX6_addPart_2 : decode cX6_addPart 2 = .ok (.lcmp, 1) := by decide +kernel
theorem dX6_addPart_3 : decode cX6_addPart 3 = .ok (.ifCond .ge 4, 3) := by decide +kernel
theorem dX6_addPart_6 : decode cX6_addPart 6 = .ok (.return_, 1) := by decide +kernel
theorem dX6_addPart_7 : decode cX6_addPart 7 = .ok (.aload_n 0, 1) := by decide +kernel
theorem dX6_addPart_8 : decode cX6_addPart 8 = .ok (.getfield 15, 3) := by decide +kernel
theorem dX6_addPart_11 : decode cX6_addPart 11 = .ok (.lload_n 3, 1) := by decide +kernel
theorem dX6_addPart_12 : decode cX6_addPart 12 = .ok (.lmul, 1) := by decide +kernel
theorem dX6_addPart_13 : decode cX6_addPart 13 = .ok (.lload_n 1, 1) := by decide +kernel
theorem dX6_addPart_14 : decode cX6_addPart 14 = .ok (.aload_n 0, 1) := by decide +kernel
theorem dX6_addPart_15 : decode cX6_addPart 15 = .ok (.getfield 19, 3) := by decide +kernel
theorem dX6_addPart_18 : decode cX6_addPart 18 = .ok (.lmul, 1) := by decide +kernel
theorem dX6_addPart_19 : decode cX6_addPart 19 = .ok (.ladd, 1) := by decide +kernel
theorem dX6_addPart_20 : decode cX6_addPart 20 = .ok (.lstore 5, 2) := by decide +kernel
theorem dX6_addPart_22 : decode cX6_addPart 22 = .ok (.aload_n 0, 1) := by decide +kernel
theorem dX6_addPart_23 : decode cX6_addPart 23 = .ok (.getfield 19, 3) := by decide +kernel
theorem dX6_addPart_26 : decode cX6_addPart 26 = .ok (.lload_n 3, 1) := by decide +kernel
theorem dX6_addPart_27 : decode cX6_addPart 27 = .ok (.lmul, 1) := by decide +kernel
theorem dX6_addPart_28 : decode cX6_addPart 28 = .ok (.lstore 7, 2) := by decide +kernel
theorem dX6_addPart_30 : decode cX6_addPart 30 = .ok (.lload 5, 2) := by decide +kernel
theorem dX6_addPart_32 : decode cX6_addPart 32 = .ok (.lload 7, 2) := by decide +kernel
theorem dX6_addPart_34 : decode cX6_addPart 34 = .ok (.invokestatic 71, 3) := by decide +kernel
theorem dX6_addPart_37 : decode cX6_addPart 37 = .ok (.lstore 9, 2) := by decide +kernel
theorem dX6_addPart_39 : decode cX6_addPart 39 = .ok (.aload_n 0, 1) := by decide +kernel
theorem dX6_addPart_40 : decode cX6_addPart 40 = .ok (.lload 9, 2) := by decide +kernel
theorem dX6_addPart_42 : decode cX6_addPart 42 = .ok (.lconst 1, 1) := by decide +kernel
theorem dX6_addPart_43 : decode cX6_addPart 43 = .ok (.lcmp, 1) := by decide +kernel
theorem dX6_addPart_44 : decode cX6_addPart 44 = .ok (.ifCond .ge 7, 3) := by decide +kernel
theorem dX6_addPart_47 : decode cX6_addPart 47 = .ok (.lconst 0, 1) := by decide +kernel
theorem dX6_addPart_48 : decode cX6_addPart 48 = .ok (.goto 8, 3) := by decide +kernel
theorem dX6_addPart_51 : decode cX6_addPart 51 = .ok (.lload 5, 2) := by decide +kernel
theorem dX6_addPart_53 : decode cX6_addPart 53 = .ok (.lload 9, 2) := by decide +kernel
theorem dX6_addPart_55 : decode cX6_addPart 55 = .ok (.ldiv, 1) := by decide +kernel
theorem dX6_addPart_56 : decode cX6_addPart 56 = .ok (.putfield 15, 3) := by decide +kernel
theorem dX6_addPart_59 : decode cX6_addPart 59 = .ok (.aload_n 0, 1) := by decide +kernel
theorem dX6_addPart_60 : decode cX6_addPart 60 = .ok (.lload 9, 2) := by decide +kernel
theorem dX6_addPart_62 : decode cX6_addPart 62 = .ok (.lconst 1, 1) := by decide +kernel
theorem dX6_addPart_63 : decode cX6_addPart 63 = .ok (.lcmp, 1) := by decide +kernel
theorem dX6_addPart_64 : decode cX6_addPart 64 = .ok (.ifCond .ge 7, 3) := by decide +kernel
theorem dX6_addPart_67 : decode cX6_addPart 67 = .ok (.lconst 1, 1) := by decide +kernel
theorem dX6_addPart_68 : decode cX6_addPart 68 = .ok (.goto 8, 3) := by decide +kernel
theorem dX6_addPart_71 : decode cX6_addPart 71 = .ok (.lload 7, 2) := by decide +kernel
theorem dX6_addPart_73 : decode cX6_addPart 73 = .ok (.lload 9, 2) := by decide +kernel
theorem dX6_addPart_75 : decode cX6_addPart 75 = .ok (.ldiv, 1) := by decide +kernel
theorem dX6_addPart_76 : decode cX6_addPart 76 = .ok (.putfield 19, 3) := by decide +kernel
theorem dX6_addPart_79 : decode cX6_addPart 79 = .ok (.return_, 1) := by decide +kernel
theorem dX6_above_0 : decode cX6_above 0 = .ok (.aload_n 0, 1) := by decide +kernel
theorem dX6_above_1 : decode cX6_above 1 = .ok (.getfield 15, 3) := by decide +kernel
theorem dX6_above_4 : decode cX6_above 4 = .ok (.lreturn, 1) := by decide +kernel
theorem dX6_below_0 : decode cX6_below 0 = .ok (.aload_n 0, 1) := by decide +kernel
theorem dX6_below_1 : decode cX6_below 1 = .ok (.getfield 19, 3) := by decide +kernel
theorem dX6_below_4 : decode cX6_below 4 = .ok (.lreturn, 1) := by decide +kernel
theorem dX7_cell_0 : decode cX7_cell 0 = .ok (.iload_n 1, 1) := by decide +kernel
theorem dX7_cell_1 : decode cX7_cell 1 = .ok (.ifCond .lt 12, 3) := by decide +kernel
theorem dX7_cell_4 : decode cX7_cell 4 = .ok (.iload_n 1, 1) := by decide +kernel
theorem dX7_cell_5 : decode cX7_cell 5 = .ok (.aload_n 0, 1) := by decide +kernel
theorem dX7_cell_6 : decode cX7_cell 6 = .ok (.getfield 11, 3) := by decide +kernel
theorem dX7_cell_9 : decode cX7_cell 9 = .ok (.arraylength, 1) := by decide +kernel
theorem dX7_cell_10 : decode cX7_cell 10 = .ok (.if_icmp .lt 7, 3) := by decide +kernel
theorem dX7_cell_13 : decode cX7_cell 13 = .ok (.iconst 0, 1) := by decide +kernel
theorem dX7_cell_14 : decode cX7_cell 14 = .ok (.goto 9, 3) := by decide +kernel
theorem dX7_cell_17 : decode cX7_cell 17 = .ok (.aload_n 0, 1) := by decide +kernel
theorem dX7_cell_18 : decode cX7_cell 18 = .ok (.getfield 11, 3) := by decide +kernel
theorem dX7_cell_21 : decode cX7_cell 21 = .ok (.iload_n 1, 1) := by decide +kernel
theorem dX7_cell_22 : decode cX7_cell 22 = .ok (.iaload, 1) := by decide +kernel
theorem dX7_cell_23 : decode cX7_cell 23 = .ok (.ireturn, 1) := by decide +kernel
theorem dX7_put_0 : decode cX7_put 0 = .ok (.iload_n 1, 1) := by decide +kernel
theorem dX7_put_1 : decode cX7_put 1 = .ok (.ifCond .lt 19, 3) := by decide +kernel
theorem dX7_put_4 : decode cX7_put 4 = .ok (.iload_n 1, 1) := by decide +kernel
theorem dX7_put_5 : decode cX7_put 5 = .ok (.aload_n 0, 1) := by decide +kernel
theorem dX7_put_6 : decode cX7_put 6 = .ok (.getfield 11, 3) := by decide +kernel
theorem dX7_put_9 : decode cX7_put 9 = .ok (.arraylength, 1) := by decide +kernel
theorem dX7_put_10 : decode cX7_put 10 = .ok (.if_icmp .ge 10, 3) := by decide +kernel
theorem dX7_put_13 : decode cX7_put 13 = .ok (.aload_n 0, 1) := by decide +kernel
theorem dX7_put_14 : decode cX7_put 14 = .ok (.getfield 11, 3) := by decide +kernel
theorem dX7_put_17 : decode cX7_put 17 = .ok (.iload_n 1, 1) := by decide +kernel
theorem dX7_put_18 : decode cX7_put 18 = .ok (.iload_n 2, 1) := by decide +kernel
theorem dX7_put_19 : decode cX7_put 19 = .ok (.iastore, 1) := by decide +kernel
theorem dX7_put_20 : decode cX7_put 20 = .ok (.return_, 1) := by decide +kernel
theorem dX7_clear_0 : decode cX7_clear 0 = .ok (.aload_n 0, 1) := by decide +kernel
theorem dX7_clear_1 : decode cX7_clear 1 = .ok (.getfield 11, 3) := by decide +kernel
theorem dX7_clear_4 : decode cX7_clear 4 = .ok (.iconst 0, 1) := by decide +kernel
theorem dX7_clear_5 : decode cX7_clear 5 = .ok (.invokestatic 15, 3) := by decide +kernel
theorem dX7_clear_8 : decode cX7_clear 8 = .ok (.return_, 1) := by decide +kernel
theorem dX7_copyFrom_0 : decode cX7_copyFrom 0 = .ok (.aload_n 1, 1) := by decide +kernel
theorem dX7_copyFrom_1 : decode cX7_copyFrom 1 = .ok (.getfield 11, 3) := by decide +kernel
theorem dX7_copyFrom_4 : decode cX7_copyFrom 4 = .ok (.iconst 0, 1) := by decide +kernel
theorem dX7_copyFrom_5 : decode cX7_copyFrom 5 = .ok (.aload_n 0, 1) := by decide +kernel
theorem dX7_copyFrom_6 : decode cX7_copyFrom 6 = .ok (.getfield 11, 3) := by decide +kernel
theorem dX7_copyFrom_9 : decode cX7_copyFrom 9 = .ok (.iconst 0, 1) := by decide +kernel
theorem dX7_copyFrom_10 : decode cX7_copyFrom 10 = .ok (.aload_n 1, 1) := by decide +kernel
theorem dX7_copyFrom_11 : decode cX7_copyFrom 11 = .ok (.getfield 11, 3) := by decide +kernel
theorem dX7_copyFrom_14 : decode cX7_copyFrom 14 = .ok (.arraylength, 1) := by decide +kernel
theorem dX7_copyFrom_15 : decode cX7_copyFrom 15 = .ok (.aload_n 0, 1) := by decide +kernel
theorem dX7_copyFrom_16 : decode cX7_copyFrom 16 = .ok (.getfield 11, 3) := by decide +kernel
theorem dX7_copyFrom_19 : decode cX7_copyFrom 19 = .ok (.arraylength, 1) := by decide +kernel
theorem dX7_copyFrom_20 : decode cX7_copyFrom 20 = .ok (.invokestatic 21, 3) := by decide +kernel
theorem dX7_copyFrom_23 : decode cX7_copyFrom 23 = .ok (.invokestatic 27, 3) := by decide +kernel
theorem dX7_copyFrom_26 : decode cX7_copyFrom 26 = .ok (.return_, 1) := by decide +kernel
theorem dX7_vertices_0 : decode cX7_vertices 0 = .ok (.aload_n 0, 1) := by decide +kernel
theorem dX7_vertices_1 : decode cX7_vertices 1 = .ok (.getfield 11, 3) := by decide +kernel
theorem dX7_vertices_4 : decode cX7_vertices 4 = .ok (.iconst 0, 1) := by decide +kernel
theorem dX7_vertices_5 : decode cX7_vertices 5 = .ok (.iaload, 1) := by decide +kernel
theorem dX7_vertices_6 : decode cX7_vertices 6 = .ok (.ireturn, 1) := by decide +kernel
theorem dX7_edges_0 : decode cX7_edges 0 = .ok (.aload_n 0, 1) := by decide +kernel
theorem dX7_edges_1 : decode cX7_edges 1 = .ok (.getfield 11, 3) := by decide +kernel
theorem dX7_edges_4 : decode cX7_edges 4 = .ok (.iconst 1, 1) := by decide +kernel
theorem dX7_edges_5 : decode cX7_edges 5 = .ok (.iaload, 1) := by decide +kernel
theorem dX7_edges_6 : decode cX7_edges 6 = .ok (.ireturn, 1) := by decide +kernel
theorem dX7_words_0 : decode cX7_words 0 = .ok (.aload_n 0, 1) := by decide +kernel
theorem dX7_words_1 : decode cX7_words 1 = .ok (.getfield 11, 3) := by decide +kernel
theorem dX7_words_4 : decode cX7_words 4 = .ok (.iconst 2, 1) := by decide +kernel
theorem dX7_words_5 : decode cX7_words 5 = .ok (.iaload, 1) := by decide +kernel
theorem dX7_words_6 : decode cX7_words 6 = .ok (.ireturn, 1) := by decide +kernel
theorem dX7_isFull_0 : decode cX7_isFull 0 = .ok (.aload_n 0, 1) := by decide +kernel
theorem dX7_isFull_1 : decode cX7_isFull 1 = .ok (.getfield 11, 3) := by decide +kernel
theorem dX7_isFull_4 : decode cX7_isFull 4 = .ok (.iconst 2, 1) := by decide +kernel
theorem dX7_isFull_5 : decode cX7_isFull 5 = .ok (.iaload, 1) := by decide +kernel
theorem dX7_isFull_6 : decode cX7_isFull 6 = .ok (.bipush 10, 2) := by decide +kernel
theorem dX7_isFull_8 : decode cX7_isFull 8 = .ok (.if_icmp .lt 7, 3) := by decide +kernel
theorem dX7_isFull_11 : decode cX7_isFull 11 = .ok (.iconst 1, 1) := by decide +kernel
theorem dX7_isFull_12 : decode cX7_isFull 12 = .ok (.goto 4, 3) := by decide +kernel
theorem dX7_isFull_15 : decode cX7_isFull 15 = .ok (.iconst 0, 1) := by decide +kernel
theorem dX7_isFull_16 : decode cX7_isFull 16 = .ok (.ireturn, 1) := by decide +kernel
theorem dX7_hasVertex_0 : decode cX7_hasVertex 0 = .ok (.iload_n 1, 1) := by decide +kernel
theorem dX7_hasVertex_1 : decode cX7_hasVertex 1 = .ok (.ifCond .lt 17, 3) := by decide +kernel
theorem dX7_hasVertex_4 : decode cX7_hasVertex 4 = .ok (.iload_n 1, 1) := by decide +kernel
theorem dX7_hasVertex_5 : decode cX7_hasVertex 5 = .ok (.aload_n 0, 1) := by decide +kernel
theorem dX7_hasVertex_6 : decode cX7_hasVertex 6 = .ok (.getfield 11, 3) := by decide +kernel
theorem dX7_hasVertex_9 : decode cX7_hasVertex 9 = .ok (.iconst 0, 1) := by decide +kernel
theorem dX7_hasVertex_10 : decode cX7_hasVertex 10 = .ok (.iaload, 1) := by decide +kernel
theorem dX7_hasVertex_11 : decode cX7_hasVertex 11 = .ok (.if_icmp .ge 7, 3) := by decide +kernel
theorem dX7_hasVertex_14 : decode cX7_hasVertex 14 = .ok (.iconst 1, 1) := by decide +kernel
theorem dX7_hasVertex_15 : decode cX7_hasVertex 15 = .ok (.goto 4, 3) := by decide +kernel
theorem dX7_hasVertex_18 : decode cX7_hasVertex 18 = .ok (.iconst 0, 1) := by decide +kernel
theorem dX7_hasVertex_19 : decode cX7_hasVertex 19 = .ok (.ireturn, 1) := by decide +kernel
theorem dX7_hasEdge_0 : decode cX7_hasEdge 0 = .ok (.iload_n 1, 1) := by decide +kernel
theorem dX7_hasEdge_1 : decode cX7_hasEdge 1 = .ok (.ifCond .lt 17, 3) := by decide +kernel
theorem dX7_hasEdge_4 : decode cX7_hasEdge 4 = .ok (.iload_n 1, 1) := by decide +kernel
theorem dX7_hasEdge_5 : decode cX7_hasEdge 5 = .ok (.aload_n 0, 1) := by decide +kernel
theorem dX7_hasEdge_6 : decode cX7_hasEdge 6 = .ok (.getfield 11, 3) := by decide +kernel
theorem dX7_hasEdge_9 : decode cX7_hasEdge 9 = .ok (.iconst 1, 1) := by decide +kernel
theorem dX7_hasEdge_10 : decode cX7_hasEdge 10 = .ok (.iaload, 1) := by decide +kernel
theorem dX7_hasEdge_11 : decode cX7_hasEdge 11 = .ok (.if_icmp .ge 7, 3) := by decide +kernel
theorem dX7_hasEdge_14 : decode cX7_hasEdge 14 = .ok (.iconst 1, 1) := by decide +kernel
theorem dX7_hasEdge_15 : decode cX7_hasEdge 15 = .ok (.goto 4, 3) := by decide +kernel
theorem dX7_hasEdge_18 : decode cX7_hasEdge 18 = .ok (.iconst 0, 1) := by decide +kernel
theorem dX7_hasEdge_19 : decode cX7_hasEdge 19 = .ok (.ireturn, 1) := by decide +kernel
theorem dX7_hasWord_0 : decode cX7_hasWord 0 = .ok (.iload_n 1, 1) := by decide +kernel
theorem dX7_hasWord_1 : decode cX7_hasWord 1 = .ok (.ifCond .lt 17, 3) := by decide +kernel
theorem dX7_hasWord_4 : decode cX7_hasWord 4 = .ok (.iload_n 1, 1) := by decide +kernel
theorem dX7_hasWord_5 : decode cX7_hasWord 5 = .ok (.aload_n 0, 1) := by decide +kernel
theorem dX7_hasWord_6 : decode cX7_hasWord 6 = .ok (.getfield 11, 3) := by decide +kernel
theorem dX7_hasWord_9 : decode cX7_hasWord 9 = .ok (.iconst 2, 1) := by decide +kernel
theorem dX7_hasWord_10 : decode cX7_hasWord 10 = .ok (.iaload, 1) := by decide +kernel
theorem dX7_hasWord_11 : decode cX7_hasWord 11 = .ok (.if_icmp .ge 7, 3) := by decide +kernel
theorem dX7_hasWord_14 : decode cX7_hasWord 14 = .ok (.iconst 1, 1) := by decide +kernel
theorem dX7_hasWord_15 : decode cX7_hasWord 15 = .ok (.goto 4, 3) := by decide +kernel
theorem dX7_hasWord_18 : decode cX7_hasWord 18 = .ok (.iconst 0, 1) := by decide +kernel
theorem dX7_hasWord_19 : decode cX7_hasWord 19 = .ok (.ireturn, 1) := by decide +kernel
theorem dX7_orderAt_0 : decode cX7_orderAt 0 = .ok (.iload_n 1, 1) := by decide +kernel
theorem dX7_orderAt_1 : decode cX7_orderAt 1 = .ok (.ifCond .lt 9, 3) := by decide +kernel
theorem dX7_orderAt_4 : decode cX7_orderAt 4 = .ok (.iload_n 1, 1) := by decide +kernel
theorem dX7_orderAt_5 : decode cX7_orderAt 5 = .ok (.bipush 6, 2) := by decide +kernel
theorem dX7_orderAt_7 : decode cX7_orderAt 7 = .ok (.if_icmp .lt 7, 3) := by decide +kernel
theorem dX7_orderAt_10 : decode cX7_orderAt 10 = .ok (.iconst 0, 1) := by decide +kernel
theorem dX7_orderAt_11 : decode cX7_orderAt 11 = .ok (.goto 11, 3) := by decide +kernel
theorem dX7_orderAt_14 : decode cX7_orderAt 14 = .ok (.aload_n 0, 1) := by decide +kernel
theorem dX7_orderAt_15 : decode cX7_orderAt 15 = .ok (.getfield 11, 3) := by decide +kernel
theorem dX7_orderAt_18 : decode cX7_orderAt 18 = .ok (.iconst 3, 1) := by decide +kernel
theorem dX7_orderAt_19 : decode cX7_orderAt 19 = .ok (.iload_n 1, 1) := by decide +kernel
theorem dX7_orderAt_20 : decode cX7_orderAt 20 = .ok (.iadd, 1) := by decide +kernel
theorem dX7_orderAt_21 : decode cX7_orderAt 21 = .ok (.iaload, 1) := by decide +kernel
theorem dX7_orderAt_22 : decode cX7_orderAt 22 = .ok (.ireturn, 1) := by decide +kernel
theorem dX7_edgePart_0 : decode cX7_edgePart 0 = .ok (.iload_n 1, 1) := by decide +kernel
theorem dX7_edgePart_1 : decode cX7_edgePart 1 = .ok (.ifCond .lt 22, 3) := by decide +kernel
theorem dX7_edgePart_4 : decode cX7_edgePart 4 = .ok (.iload_n 1, 1) := by decide +kernel
theorem dX7_edgePart_5 : decode cX7_edgePart 5 = .ok (.bipush 6, 2) := by decide +kernel
theorem dX7_edgePart_7 : decode cX7_edgePart 7 = .ok (.if_icmp .ge 16, 3) := by decide +kernel
theorem dX7_edgePart_10 : decode cX7_edgePart 10 = .ok (.iload_n 2, 1) := by decide +kernel
theorem dX7_edgePart_11 : decode cX7_edgePart 11 = .ok (.ifCond .lt 12, 3) := by decide +kernel
theorem dX7_edgePart_14 : decode cX7_edgePart 14 = .ok (.iload_n 2, 1) := by decide +kernel
theorem dX7_edgePart_15 : decode cX7_edgePart 15 = .ok (.iconst 4, 1) := by decide +kernel
theorem dX7_edgePart_16 : decode cX7_edgePart 16 = .ok (.if_icmp .ge 7, 3) := by decide +kernel
theorem dX7_edgePart_19 : decode cX7_edgePart 19 = .ok (.iconst 1, 1) := by decide +kernel
theorem dX7_edgePart_20 : decode cX7_edgePart 20 = .ok (.goto 4, 3) := by decide +kernel
theorem dX7_edgePart_23 : decode cX7_edgePart 23 = .ok (.iconst 0, 1) := by decide +kernel
theorem dX7_edgePart_24 : decode cX7_edgePart 24 = .ok (.istore_n 3, 1) := by decide +kernel
theorem dX7_edgePart_25 : decode cX7_edgePart 25 = .ok (.iload_n 3, 1) := by decide +kernel
theorem dX7_edgePart_26 : decode cX7_edgePart 26 = .ok (.ifCond .eq 19, 3) := by decide +kernel
theorem dX7_edgePart_29 : decode cX7_edgePart 29 = .ok (.aload_n 0, 1) := by decide +kernel
theorem dX7_edgePart_30 : decode cX7_edgePart 30 = .ok (.getfield 11, 3) := by decide +kernel
theorem dX7_edgePart_33 : decode cX7_edgePart 33 = .ok (.bipush 9, 2) := by decide +kernel
theorem dX7_edgePart_35 : decode cX7_edgePart 35 = .ok (.iconst 4, 1) := by decide +kernel
theorem dX7_edgePart_36 : decode cX7_edgePart 36 = .ok (.iload_n 1, 1) := by decide +kernel
theorem dX7_edgePart_37 : decode cX7_edgePart 37 = .ok (.imul, 1) := by decide +kernel
theorem dX7_edgePart_38 : decode cX7_edgePart 38 = .ok (.iadd, 1) := by decide +kernel
theorem dX7_edgePart_39 : decode cX7_edgePart 39 = .ok (.iload_n 2, 1) := by decide +kernel
theorem dX7_edgePart_40 : decode cX7_edgePart 40 = .ok (.iadd, 1) := by decide +kernel
theorem dX7_edgePart_41 : decode cX7_edgePart 41 = .ok (.iaload, 1) := by decide +kernel
theorem dX7_edgePart_42 : decode cX7_edgePart 42 = .ok (.goto 4, 3) := by decide +kernel
theorem dX7_edgePart_45 : decode cX7_edgePart 45 = .ok (.iconst 0, 1) := by decide +kernel
theorem dX7_edgePart_46 : decode cX7_edgePart 46 = .ok (.ireturn, 1) := by decide +kernel
theorem dX7_common_0 : decode cX7_common 0 = .ok (.aload_n 0, 1) := by decide +kernel
theorem dX7_common_1 : decode cX7_common 1 = .ok (.aload_n 0, 1) := by decide +kernel
theorem dX7_common_2 : decode cX7_common 2 = .ok (.iload_n 1, 1) := by decide +kernel
theorem dX7_common_3 : decode cX7_common 3 = .ok (.iconst 0, 1) := by decide +kernel
theorem dX7_common_4 : decode cX7_common 4 = .ok (.invokevirtual 33, 3) := by decide +kernel
theorem dX7_common_7 : decode cX7_common 7 = .ok (.invokevirtual 36, 3) := by decide +kernel
theorem dX7_common_10 : decode cX7_common 10 = .ok (.aload_n 0, 1) := by decide +kernel
theorem dX7_common_11 : decode cX7_common 11 = .ok (.iload_n 1, 1) := by decide +kernel
theorem dX7_common_12 : decode cX7_common 12 = .ok (.iconst 1, 1) := by decide +kernel
theorem dX7_common_13 : decode cX7_common 13 = .ok (.invokevirtual 33, 3) := by decide +kernel
theorem dX7_common_16 : decode cX7_common 16 = .ok (.invokestatic 40, 3) := by decide +kernel
theorem dX7_common_19 : decode cX7_common 19 = .ok (.ireturn, 1) := by decide +kernel
theorem dX7_stepKinds_0 : decode cX7_stepKinds 0 = .ok (.iconst 2, 1) := by decide +kernel
theorem dX7_stepKinds_1 : decode cX7_stepKinds 1 = .ok (.aload_n 0, 1) := by decide +kernel
theorem dX7_stepKinds_2 : decode cX7_stepKinds 2 = .ok (.getfield 11, 3) := by decide +kernel
theorem dX7_stepKinds_5 : decode cX7_stepKinds 5 = .ok (.iconst 1, 1) := by decide +kernel
theorem dX7_stepKinds_6 : decode cX7_stepKinds 6 = .ok (.iaload, 1) := by decide +kernel
theorem dX7_stepKinds_7 : decode cX7_stepKinds 7 = .ok (.imul, 1) := by decide +kernel
theorem dX7_stepKinds_8 : decode cX7_stepKinds 8 = .ok (.ireturn, 1) := by decide +kernel
theorem dX7_fromVertex_0 : decode cX7_fromVertex 0 = .ok (.aload_n 0, 1) := by decide +kernel
theorem dX7_fromVertex_1 : decode cX7_fromVertex 1 = .ok (.iload_n 1, 1) := by decide +kernel
theorem dX7_fromVertex_2 : decode cX7_fromVertex 2 = .ok (.iconst 1, 1) := by decide +kernel
theorem dX7_fromVertex_3 : decode cX7_fromVertex 3 = .ok (.ishr, 1) := by decide +kernel
theorem dX7_fromVertex_4 : decode cX7_fromVertex 4 = .ok (.iload_n 1, 1) := by decide +kernel
theorem dX7_fromVertex_5 : decode cX7_fromVertex 5 = .ok (.invokestatic 43, 3) := by decide +kernel
theorem dX7_fromVertex_8 : decode cX7_fromVertex 8 = .ok (.ifCond .eq 7, 3) := by decide +kernel
theorem dX7_fromVertex_11 : decode cX7_fromVertex 11 = .ok (.iconst 2, 1) := by decide +kernel
theorem dX7_fromVertex_12 : decode cX7_fromVertex 12 = .ok (.goto 4, 3) := by decide +kernel
theorem dX7_fromVertex_15 : decode cX7_fromVertex 15 = .ok (.iconst 0, 1) := by decide +kernel
theorem dX7_fromVertex_16 : decode cX7_fromVertex 16 = .ok (.invokevirtual 33, 3) := by decide +kernel
theorem dX7_fromVertex_19 : decode cX7_fromVertex 19 = .ok (.ireturn, 1) := by decide +kernel
theorem dX7_fromIndex_0 : decode cX7_fromIndex 0 = .ok (.aload_n 0, 1) := by decide +kernel
theorem dX7_fromIndex_1 : decode cX7_fromIndex 1 = .ok (.iload_n 1, 1) := by decide +kernel
theorem dX7_fromIndex_2 : decode cX7_fromIndex 2 = .ok (.iconst 1, 1) := by decide +kernel
theorem dX7_fromIndex_3 : decode cX7_fromIndex 3 = .ok (.ishr, 1) := by decide +kernel
theorem dX7_fromIndex_4 : decode cX7_fromIndex 4 = .ok (.iload_n 1, 1) := by decide +kernel
theorem dX7_fromIndex_5 : decode cX7_fromIndex 5 = .ok (.invokestatic 43, 3) := by decide +kernel
theorem dX7_fromIndex_8 : decode cX7_fromIndex 8 = .ok (.ifCond .eq 7, 3) := by decide +kernel
theorem dX7_fromIndex_11 : decode cX7_fromIndex 11 = .ok (.iconst 3, 1) := by decide +kernel
theorem dX7_fromIndex_12 : decode cX7_fromIndex 12 = .ok (.goto 4, 3) := by decide +kernel
theorem dX7_fromIndex_15 : decode cX7_fromIndex 15 = .ok (.iconst 1, 1) := by decide +kernel
theorem dX7_fromIndex_16 : decode cX7_fromIndex 16 = .ok (.invokevirtual 33, 3) := by decide +kernel
theorem dX7_fromIndex_19 : decode cX7_fromIndex 19 = .ok (.ireturn, 1) := by decide +kernel
theorem dX7_toVertex_0 : decode cX7_toVertex 0 = .ok (.aload_n 0, 1) := by decide +kernel
theorem dX7_toVertex_1 : decode cX7_toVertex 1 = .ok (.iload_n 1, 1) := by decide +kernel
theorem dX7_toVertex_2 : decode cX7_toVertex 2 = .ok (.iconst 1, 1) := by decide +kernel
theorem dX7_toVertex_3 : decode cX7_toVertex 3 = .ok (.ishr, 1) := by decide +kernel
theorem dX7_toVertex_4 : decode cX7_toVertex 4 = .ok (.iload_n 1, 1) := by decide +kernel
theorem dX7_toVertex_5 : decode cX7_toVertex 5 = .ok (.invokestatic 43, 3) := by decide +kernel
theorem dX7_toVertex_8 : decode cX7_toVertex 8 = .ok (.ifCond .eq 7, 3) := by decide +kernel
theorem dX7_toVertex_11 : decode cX7_toVertex 11 = .ok (.iconst 0, 1) := by decide +kernel
theorem dX7_toVertex_12 : decode cX7_toVertex 12 = .ok (.goto 4, 3) := by decide +kernel
theorem dX7_toVertex_15 : decode cX7_toVertex 15 = .ok (.iconst 2, 1) := by decide +kernel
theorem dX7_toVertex_16 : decode cX7_toVertex 16 = .ok (.invokevirtual 33, 3) := by decide +kernel
theorem dX7_toVertex_19 : decode cX7_toVertex 19 = .ok (.ireturn, 1) := by decide +kernel
theorem dX7_toIndex_0 : decode cX7_toIndex 0 = .ok (.aload_n 0, 1) := by decide +kernel
theorem dX7_toIndex_1 : decode cX7_toIndex 1 = .ok (.iload_n 1, 1) := by decide +kernel
theorem dX7_toIndex_2 : decode cX7_toIndex 2 = .ok (.iconst 1, 1) := by decide +kernel
theorem dX7_toIndex_3 : decode cX7_toIndex 3 = .ok (.ishr, 1) := by decide +kernel
theorem dX7_toIndex_4 : decode cX7_toIndex 4 = .ok (.iload_n 1, 1) := by decide +kernel
theorem dX7_toIndex_5 : decode cX7_toIndex 5 = .ok (.invokestatic 43, 3) := by decide +kernel
theorem dX7_toIndex_8 : decode cX7_toIndex 8 = .ok (.ifCond .eq 7, 3) := by decide +kernel
theorem dX7_toIndex_11 : decode cX7_toIndex 11 = .ok (.iconst 1, 1) := by decide +kernel
theorem dX7_toIndex_12 : decode cX7_toIndex 12 = .ok (.goto 4, 3) := by decide +kernel
theorem dX7_toIndex_15 : decode cX7_toIndex 15 = .ok (.iconst 3, 1) := by decide +kernel
theorem dX7_toIndex_16 : decode cX7_toIndex 16 = .ok (.invokevirtual 33, 3) := by decide +kernel
theorem dX7_toIndex_19 : decode cX7_toIndex 19 = .ok (.ireturn, 1) := by decide +kernel
theorem dX7_widthBehind_0 : decode cX7_widthBehind 0 = .ok (.aload_n 0, 1) := by decide +kernel
theorem dX7_widthBehind_1 : decode cX7_widthBehind 1 = .ok (.iload_n 2, 1) := by decide +kernel
theorem dX7_widthBehind_2 : decode cX7_widthBehind 2 = .ok (.invokevirtual 47, 3) := by decide +kernel
theorem dX7_widthBehind_5 : decode cX7_widthBehind 5 = .ok (.iload_n 2, 1) := by decide +kernel
theorem dX7_widthBehind_6 : decode cX7_widthBehind 6 = .ok (.iload_n 1, 1) := by decide +kernel
theorem dX7_widthBehind_7 : decode cX7_widthBehind 7 = .ok (.invokestatic 50, 3) := by decide +kernel
theorem dX7_widthBehind_10 : decode cX7_widthBehind 10 = .ok (.if_icmp .ne 7, 3) := by decide +kernel
theorem dX7_widthBehind_13 : decode cX7_widthBehind 13 = .ok (.iconst 1, 1) := by decide +kernel
theorem dX7_widthBehind_14 : decode cX7_widthBehind 14 = .ok (.goto 4, 3) := by decide +kernel
theorem dX7_widthBehind_17 : decode cX7_widthBehind 17 = .ok (.iconst 0, 1) := by decide +kernel
theorem dX7_widthBehind_18 : decode cX7_widthBehind 18 = .ok (.invokestatic 53, 3) := by decide +kernel
theorem dX7_widthBehind_21 : decode cX7_widthBehind 21 = .ok (.isub, 1) := by decide +kernel
theorem dX7_widthBehind_22 : decode cX7_widthBehind 22 = .ok (.ireturn, 1) := by decide +kernel
theorem dX7_endOf_0 : decode cX7_endOf 0 = .ok (.aload_n 1, 1) := by decide +kernel
theorem dX7_endOf_1 : decode cX7_endOf 1 = .ok (.invokevirtual 57, 3) := by decide +kernel
theorem dX7_endOf_4 : decode cX7_endOf 4 = .ok (.ifCond .ne 10, 3) := by decide +kernel
theorem dX7_endOf_7 : decode cX7_endOf 7 = .ok (.aload_n 1, 1) := by decide +kernel
theorem dX7_endOf_8 : decode cX7_endOf 8 = .ok (.invokevirtual 63, 3) := by decide +kernel
theorem dX7_endOf_11 : decode cX7_endOf 11 = .ok (.goto 11, 3) := by decide +kernel
theorem dX7_endOf_14 : decode cX7_endOf 14 = .ok (.aload_n 0, 1) := by decide +kernel
theorem dX7_endOf_15 : decode cX7_endOf 15 = .ok (.aload_n 1, 1) := by decide +kernel
theorem dX7_endOf_16 : decode cX7_endOf 16 = .ok (.invokevirtual 66, 3) := by decide +kernel
theorem dX7_endOf_19 : decode cX7_endOf 19 = .ok (.invokevirtual 69, 3) := by decide +kernel
theorem dX7_endOf_22 : decode cX7_endOf 22 = .ok (.ireturn, 1) := by decide +kernel
theorem dX7_isLoop_0 : decode cX7_isLoop 0 = .ok (.aload_n 0, 1) := by decide +kernel
theorem dX7_isLoop_1 : decode cX7_isLoop 1 = .ok (.aload_n 1, 1) := by decide +kernel
theorem dX7_isLoop_2 : decode cX7_isLoop 2 = .ok (.invokevirtual 72, 3) := by decide +kernel
theorem dX7_isLoop_5 : decode cX7_isLoop 5 = .ok (.aload_n 1, 1) := by decide +kernel
theorem dX7_isLoop_6 : decode cX7_isLoop 6 = .ok (.invokevirtual 63, 3) := by decide +kernel
theorem dX7_isLoop_9 : decode cX7_isLoop 9 = .ok (.if_icmp .ne 7, 3) := by decide +kernel
theorem dX7_isLoop_12 : decode cX7_isLoop 12 = .ok (.iconst 1, 1) := by decide +kernel
theorem dX7_isLoop_13 : decode cX7_isLoop 13 = .ok (.goto 4, 3) := by decide +kernel
theorem dX7_isLoop_16 : decode cX7_isLoop 16 = .ok (.iconst 0, 1) := by decide +kernel
theorem dX7_isLoop_17 : decode cX7_isLoop 17 = .ok (.ireturn, 1) := by decide +kernel
theorem dX7_addVertex_0 : decode cX7_addVertex 0 = .ok (.aload_n 0, 1) := by decide +kernel
theorem dX7_addVertex_1 : decode cX7_addVertex 1 = .ok (.invokevirtual 76, 3) := by decide +kernel
theorem dX7_addVertex_4 : decode cX7_addVertex 4 = .ok (.bipush 6, 2) := by decide +kernel
theorem dX7_addVertex_6 : decode cX7_addVertex 6 = .ok (.if_icmp .ge 25, 3) := by decide +kernel
theorem dX7_addVertex_9 : decode cX7_addVertex 9 = .ok (.aload_n 0, 1) := by decide +kernel
theorem dX7_addVertex_10 : decode cX7_addVertex 10 = .ok (.iconst 3, 1) := by decide +kernel
theorem dX7_addVertex_11 : decode cX7_addVertex 11 = .ok (.aload_n 0, 1) := by decide +kernel
theorem dX7_addVertex_12 : decode cX7_addVertex 12 = .ok (.invokevirtual 76, 3) := by decide +kernel
theorem dX7_addVertex_15 : decode cX7_addVertex 15 = .ok (.iadd, 1) := by decide +kernel
theorem dX7_addVertex_16 : decode cX7_addVertex 16 = .ok (.iload_n 1, 1) := by decide +kernel
theorem dX7_addVertex_17 : decode cX7_addVertex 17 = .ok (.invokevirtual 79, 3) := by decide +kernel
theorem dX7_addVertex_20 : decode cX7_addVertex 20 = .ok (.aload_n 0, 1) := by decide +kernel
theorem dX7_addVertex_21 : decode cX7_addVertex 21 = .ok (.iconst 0, 1) := by decide +kernel
theorem dX7_addVertex_22 : decode cX7_addVertex 22 = .ok (.aload_n 0, 1) := by decide +kernel
theorem dX7_addVertex_23 : decode cX7_addVertex 23 = .ok (.invokevirtual 76, 3) := by decide +kernel
theorem dX7_addVertex_26 : decode cX7_addVertex 26 = .ok (.iconst 1, 1) := by decide +kernel
theorem dX7_addVertex_27 : decode cX7_addVertex 27 = .ok (.iadd, 1) := by decide +kernel
theorem dX7_addVertex_28 : decode cX7_addVertex 28 = .ok (.invokevirtual 79, 3) := by decide +kernel
theorem dX7_addVertex_31 : decode cX7_addVertex 31 = .ok (.return_, 1) := by decide +kernel
theorem dX7_addEdge_0 : decode cX7_addEdge 0 = .ok (.aload_n 0, 1) := by decide +kernel
theorem dX7_addEdge_1 : decode cX7_addEdge 1 = .ok (.invokevirtual 83, 3) := by decide +kernel
theorem dX7_addEdge_4 : decode cX7_addEdge 4 = .ok (.bipush 6, 2) := by decide +kernel
theorem dX7_addEdge_6 : decode cX7_addEdge 6 = .ok (.if_icmp .ge 60, 3) := by decide +kernel
theorem dX7_addEdge_9 : decode cX7_addEdge 9 = .ok (.bipush 9, 2) := by decide +kernel
theorem dX7_addEdge_11 : decode cX7_addEdge 11 = .ok (.iconst 4, 1) := by decide +kernel
theorem dX7_addEdge_12 : decode cX7_addEdge 12 = .ok (.aload_n 0, 1) := by decide +kernel
theorem dX7_addEdge_13 : decode cX7_addEdge 13 = .ok (.invokevirtual 83, 3) := by decide +kernel
theorem dX7_addEdge_16 : decode cX7_addEdge 16 = .ok (.imul, 1) := by decide +kernel
theorem dX7_addEdge_17 : decode cX7_addEdge 17 = .ok (.iadd, 1) := by decide +kernel
theorem dX7_addEdge_18 : decode cX7_addEdge 18 = .ok (.istore 5, 2) := by decide +kernel
theorem dX7_addEdge_20 : decode cX7_addEdge 20 = .ok (.aload_n 0, 1) := by decide +kernel
theorem dX7_addEdge_21 : decode cX7_addEdge 21 = .ok (.iload 5, 2) := by decide +kernel
theorem dX7_addEdge_23 : decode cX7_addEdge 23 = .ok (.iload_n 1, 1) := by decide +kernel
theorem dX7_addEdge_24 : decode cX7_addEdge 24 = .ok (.invokevirtual 79, 3) := by decide +kernel
theorem dX7_addEdge_27 : decode cX7_addEdge 27 = .ok (.aload_n 0, 1) := by decide +kernel
theorem dX7_addEdge_28 : decode cX7_addEdge 28 = .ok (.iload 5, 2) := by decide +kernel
theorem dX7_addEdge_30 : decode cX7_addEdge 30 = .ok (.iconst 1, 1) := by decide +kernel
theorem dX7_addEdge_31 : decode cX7_addEdge 31 = .ok (.iadd, 1) := by decide +kernel
theorem dX7_addEdge_32 : decode cX7_addEdge 32 = .ok (.iload_n 2, 1) := by decide +kernel
theorem dX7_addEdge_33 : decode cX7_addEdge 33 = .ok (.invokevirtual 79, 3) := by decide +kernel
theorem dX7_addEdge_36 : decode cX7_addEdge 36 = .ok (.aload_n 0, 1) := by decide +kernel
theorem dX7_addEdge_37 : decode cX7_addEdge 37 = .ok (.iload 5, 2) := by decide +kernel
theorem dX7_addEdge_39 : decode cX7_addEdge 39 = .ok (.iconst 2, 1) := by decide +kernel
theorem dX7_addEdge_40 : decode cX7_addEdge 40 = .ok (.iadd, 1) := by decide +kernel
theorem dX7_addEdge_41 : decode cX7_addEdge 41 = .ok (.iload_n 3, 1) := by decide +kernel
theorem dX7_addEdge_42 : decode cX7_addEdge 42 = .ok (.invokevirtual 79, 3) := by decide +kernel
theorem dX7_addEdge_45 : decode cX7_addEdge 45 = .ok (.aload_n 0, 1) := by decide +kernel
theorem dX7_addEdge_46 : decode cX7_addEdge 46 = .ok (.iload 5, 2) := by decide +kernel
theorem dX7_addEdge_48 : decode cX7_addEdge 48 = .ok (.iconst 3, 1) := by decide +kernel
theorem dX7_addEdge_49 : decode cX7_addEdge 49 = .ok (.iadd, 1) := by decide +kernel
theorem dX7_addEdge_50 : decode cX7_addEdge 50 = .ok (.iload 4, 2) := by decide +kernel
theorem dX7_addEdge_52 : decode cX7_addEdge 52 = .ok (.invokevirtual 79, 3) := by decide +kernel
theorem dX7_addEdge_55 : decode cX7_addEdge 55 = .ok (.aload_n 0, 1) := by decide +kernel
theorem dX7_addEdge_56 : decode cX7_addEdge 56 = .ok (.iconst 1, 1) := by decide +kernel
theorem dX7_addEdge_57 : decode cX7_addEdge 57 = .ok (.aload_n 0, 1) := by decide +kernel
theorem dX7_addEdge_58 : decode cX7_addEdge 58 = .ok (.invokevirtual 83, 3) := by decide +kernel
theorem dX7_addEdge_61 : decode cX7_addEdge 61 = .ok (.iconst 1, 1) := by decide +kernel
theorem dX7_addEdge_62 : decode cX7_addEdge 62 = .ok (.iadd, 1) := by decide +kernel
theorem dX7_addEdge_63 : decode cX7_addEdge 63 = .ok (.invokevirtual 79, 3) := by decide +kernel
theorem dX7_addEdge_66 : decode cX7_addEdge 66 = .ok (.return_, 1) := by decide +kernel
theorem dX7_addWord_0 : decode cX7_addWord 0 = .ok (.aload_n 0, 1) := by decide +kernel
theorem dX7_addWord_1 : decode cX7_addWord 1 = .ok (.invokevirtual 86, 3) := by decide +kernel
theorem dX7_addWord_4 : decode cX7_addWord 4 = .ok (.istore_n 2, 1) := by decide +kernel
theorem dX7_addWord_5 : decode cX7_addWord 5 = .ok (.iload_n 2, 1) := by decide +kernel
theorem dX7_addWord_6 : decode cX7_addWord 6 = .ok (.bipush 10, 2) := by decide +kernel
theorem dX7_addWord_8 : decode cX7_addWord 8 = .ok (.if_icmp .lt 5, 3) := by decide +kernel
theorem dX7_addWord_11 : decode cX7_addWord 11 = .ok (.iconst (-1), 1) := by decide +kernel
theorem dX7_addWord_12 : decode cX7_addWord 12 = .ok (.ireturn, 1) := by decide +kernel
theorem dX7_addWord_13 : decode cX7_addWord 13 = .ok (.aload_n 0, 1) := by decide +kernel
theorem dX7_addWord_14 : decode cX7_addWord 14 = .ok (.iconst 2, 1) := by decide +kernel
theorem dX7_addWord_15 : decode cX7_addWord 15 = .ok (.iload_n 2, 1) := by decide +kernel
theorem dX7_addWord_16 : decode cX7_addWord 16 = .ok (.iconst 1, 1) := by decide +kernel
theorem dX7_addWord_17 : decode cX7_addWord 17 = .ok (.iadd, 1) := by decide +kernel
theorem dX7_addWord_18 : decode cX7_addWord 18 = .ok (.invokevirtual 79, 3) := by decide +kernel
theorem dX7_addWord_21 : decode cX7_addWord 21 = .ok (.aload_n 0, 1) := by decide +kernel
theorem dX7_addWord_22 : decode cX7_addWord 22 = .ok (.iload_n 2, 1) := by decide +kernel
theorem dX7_addWord_23 : decode cX7_addWord 23 = .ok (.aload_n 1, 1) := by decide +kernel
theorem dX7_addWord_24 : decode cX7_addWord 24 = .ok (.invokevirtual 89, 3) := by decide +kernel
theorem dX7_addWord_27 : decode cX7_addWord 27 = .ok (.iload_n 2, 1) := by decide +kernel
theorem dX7_addWord_28 : decode cX7_addWord 28 = .ok (.ireturn, 1) := by decide +kernel
theorem dX7_writeWord_0 : decode cX7_writeWord 0 = .ok (.aload_n 0, 1) := by decide +kernel
theorem dX7_writeWord_1 : decode cX7_writeWord 1 = .ok (.iload_n 1, 1) := by decide +kernel
theorem dX7_writeWord_2 : decode cX7_writeWord 2 = .ok (.invokevirtual 93, 3) := by decide +kernel
theorem dX7_writeWord_5 : decode cX7_writeWord 5 = .ok (.ifCond .eq 12, 3) := by decide +kernel
theorem dX7_writeWord_8 : decode cX7_writeWord 8 = .ok (.aload_n 2, 1) := by decide +kernel
theorem dX7_writeWord_9 : decode cX7_writeWord 9 = .ok (.invokevirtual 57, 3) := by decide +kernel
theorem dX7_writeWord_12 : decode cX7_writeWord 12 = .ok (.bipush 24, 2) := by decide +kernel
theorem dX7_writeWord_14 : decode cX7_writeWord 14 = .ok (.if_icmp .le 4, 3) := by decide +kernel
theorem dX7_writeWord_17 : decode cX7_writeWord 17 = .ok (.return_, 1) := by decide +kernel
theorem dX7_writeWord_18 : decode cX7_writeWord 18 = .ok (.bipush 33, 2) := by decide +kernel
theorem dX7_writeWord_20 : decode cX7_writeWord 20 = .ok (.bipush 51, 2) := by decide +kernel
theorem dX7_writeWord_22 : decode cX7_writeWord 22 = .ok (.iload_n 1, 1) := by decide +kernel
theorem dX7_writeWord_23 : decode cX7_writeWord 23 = .ok (.imul, 1) := by decide +kernel
theorem dX7_writeWord_24 : decode cX7_writeWord 24 = .ok (.iadd, 1) := by decide +kernel
theorem dX7_writeWord_25 : decode cX7_writeWord 25 = .ok (.istore_n 3, 1) := by decide +kernel
theorem dX7_writeWord_26 : decode cX7_writeWord 26 = .ok (.aload_n 0, 1) := by decide +kernel
theorem dX7_writeWord_27 : decode cX7_writeWord 27 = .ok (.iload_n 3, 1) := by decide +kernel
theorem dX7_writeWord_28 : decode cX7_writeWord 28 = .ok (.aload_n 2, 1) := by decide +kernel
theorem dX7_writeWord_29 : decode cX7_writeWord 29 = .ok (.invokevirtual 63, 3) := by decide +kernel
theorem dX7_writeWord_32 : decode cX7_writeWord 32 = .ok (.invokevirtual 79, 3) := by decide +kernel
theorem dX7_writeWord_35 : decode cX7_writeWord 35 = .ok (.aload_n 0, 1) := by decide +kernel
theorem dX7_writeWord_36 : decode cX7_writeWord 36 = .ok (.iload_n 3, 1) := by decide +kernel
theorem dX7_writeWord_37 : decode cX7_writeWord 37 = .ok (.iconst 1, 1) := by decide +kernel
theorem dX7_writeWord_38 : decode cX7_writeWord 38 = .ok (.iadd, 1) := by decide +kernel
theorem dX7_writeWord_39 : decode cX7_writeWord 39 = .ok (.aload_n 2, 1) := by decide +kernel
theorem dX7_writeWord_40 : decode cX7_writeWord 40 = .ok (.invokevirtual 57, 3) := by decide +kernel
theorem dX7_writeWord_43 : decode cX7_writeWord 43 = .ok (.invokevirtual 79, 3) := by decide +kernel
theorem dX7_writeWord_46 : decode cX7_writeWord 46 = .ok (.aload_n 0, 1) := by decide +kernel
theorem dX7_writeWord_47 : decode cX7_writeWord 47 = .ok (.iload_n 3, 1) := by decide +kernel
theorem dX7_writeWord_48 : decode cX7_writeWord 48 = .ok (.iconst 2, 1) := by decide +kernel
theorem dX7_writeWord_49 : decode cX7_writeWord 49 = .ok (.iadd, 1) := by decide +kernel
theorem dX7_writeWord_50 : decode cX7_writeWord 50 = .ok (.aload_n 2, 1) := by decide +kernel
theorem dX7_writeWord_51 : decode cX7_writeWord 51 = .ok (.iconst 0, 1) := by decide +kernel
theorem dX7_writeWord_52 : decode cX7_writeWord 52 = .ok (.invokevirtual 96, 3) := by decide +kernel
theorem dX7_writeWord_55 : decode cX7_writeWord 55 = .ok (.invokevirtual 79, 3) := by decide +kernel
theorem dX7_writeWord_58 : decode cX7_writeWord 58 = .ok (.iconst 0, 1) := by decide +kernel
theorem dX7_writeWord_59 : decode cX7_writeWord 59 = .ok (.istore 4, 2) := by decide +kernel
theorem dX7_writeWord_61 : decode cX7_writeWord 61 = .ok (.iload 4, 2) := by decide +kernel
theorem dX7_writeWord_63 : decode cX7_writeWord 63 = .ok (.aload_n 2, 1) := by decide +kernel
theorem dX7_writeWord_64 : decode cX7_writeWord 64 = .ok (.invokevirtual 57, 3) := by decide +kernel
theorem dX7_writeWord_67 : decode cX7_writeWord 67 = .ok (.if_icmp .ge 47, 3) := by decide +kernel
theorem dX7_writeWord_70 : decode cX7_writeWord 70 = .ok (.aload_n 0, 1) := by decide +kernel
theorem dX7_writeWord_71 : decode cX7_writeWord 71 = .ok (.iload_n 3, 1) := by decide +kernel
theorem dX7_writeWord_72 : decode cX7_writeWord 72 = .ok (.iconst 3, 1) := by decide +kernel
theorem dX7_writeWord_73 : decode cX7_writeWord 73 = .ok (.iadd, 1) := by decide +kernel
theorem dX7_writeWord_74 : decode cX7_writeWord 74 = .ok (.iconst 2, 1) := by decide +kernel
theorem dX7_writeWord_75 : decode cX7_writeWord 75 = .ok (.iload 4, 2) := by decide +kernel
theorem dX7_writeWord_77 : decode cX7_writeWord 77 = .ok (.imul, 1) := by decide +kernel
theorem dX7_writeWord_78 : decode cX7_writeWord 78 = .ok (.iadd, 1) := by decide +kernel
theorem dX7_writeWord_79 : decode cX7_writeWord 79 = .ok (.aload_n 2, 1) := by decide +kernel
theorem dX7_writeWord_80 : decode cX7_writeWord 80 = .ok (.iload 4, 2) := by decide +kernel
theorem dX7_writeWord_82 : decode cX7_writeWord 82 = .ok (.invokevirtual 99, 3) := by decide +kernel
theorem dX7_writeWord_85 : decode cX7_writeWord 85 = .ok (.invokevirtual 79, 3) := by decide +kernel
theorem dX7_writeWord_88 : decode cX7_writeWord 88 = .ok (.aload_n 0, 1) := by decide +kernel
theorem dX7_writeWord_89 : decode cX7_writeWord 89 = .ok (.iload_n 3, 1) := by decide +kernel
theorem dX7_writeWord_90 : decode cX7_writeWord 90 = .ok (.iconst 4, 1) := by decide +kernel
theorem dX7_writeWord_91 : decode cX7_writeWord 91 = .ok (.iadd, 1) := by decide +kernel
theorem dX7_writeWord_92 : decode cX7_writeWord 92 = .ok (.iconst 2, 1) := by decide +kernel
theorem dX7_writeWord_93 : decode cX7_writeWord 93 = .ok (.iload 4, 2) := by decide +kernel
theorem dX7_writeWord_95 : decode cX7_writeWord 95 = .ok (.imul, 1) := by decide +kernel
theorem dX7_writeWord_96 : decode cX7_writeWord 96 = .ok (.iadd, 1) := by decide +kernel
theorem dX7_writeWord_97 : decode cX7_writeWord 97 = .ok (.aload_n 2, 1) := by decide +kernel
theorem dX7_writeWord_98 : decode cX7_writeWord 98 = .ok (.iload 4, 2) := by decide +kernel
theorem dX7_writeWord_100 : decode cX7_writeWord 100 = .ok (.iconst 1, 1) := by decide +kernel
theorem dX7_writeWord_101 : decode cX7_writeWord 101 = .ok (.iadd, 1) := by decide +kernel
theorem dX7_writeWord_102 : decode cX7_writeWord 102 = .ok (.invokevirtual 96, 3) := by decide +kernel
theorem dX7_writeWord_105 : decode cX7_writeWord 105 = .ok (.invokevirtual 79, 3) := by decide +kernel
theorem dX7_writeWord_108 : decode cX7_writeWord 108 = .ok (.iinc 4 1, 3) := by decide +kernel
theorem dX7_writeWord_111 : decode cX7_writeWord 111 = .ok (.goto (-50), 3) := by decide +kernel
theorem dX7_writeWord_114 : decode cX7_writeWord 114 = .ok (.return_, 1) := by decide +kernel
theorem dX7_readWord_0 : decode cX7_readWord 0 = .ok (.aload_n 0, 1) := by decide +kernel
theorem dX7_readWord_1 : decode cX7_readWord 1 = .ok (.iload_n 1, 1) := by decide +kernel
theorem dX7_readWord_2 : decode cX7_readWord 2 = .ok (.invokevirtual 93, 3) := by decide +kernel
theorem dX7_readWord_5 : decode cX7_readWord 5 = .ok (.ifCond .ne 5, 3) := by decide +kernel
theorem dX7_readWord_8 : decode cX7_readWord 8 = .ok (.iconst 0, 1) := by decide +kernel
theorem dX7_readWord_9 : decode cX7_readWord 9 = .ok (.ireturn, 1) := by decide +kernel
theorem dX7_readWord_10 : decode cX7_readWord 10 = .ok (.bipush 33, 2) := by decide +kernel
theorem dX7_readWord_12 : decode cX7_readWord 12 = .ok (.bipush 51, 2) := by decide +kernel
theorem dX7_readWord_14 : decode cX7_readWord 14 = .ok (.iload_n 1, 1) := by decide +kernel
theorem dX7_readWord_15 : decode cX7_readWord 15 = .ok (.imul, 1) := by decide +kernel
theorem dX7_readWord_16 : decode cX7_readWord 16 = .ok (.iadd, 1) := by decide +kernel
theorem dX7_readWord_17 : decode cX7_readWord 17 = .ok (.istore_n 3, 1) := by decide +kernel
theorem dX7_readWord_18 : decode cX7_readWord 18 = .ok (.aload_n 0, 1) := by decide +kernel
theorem dX7_readWord_19 : decode cX7_readWord 19 = .ok (.iload_n 3, 1) := by decide +kernel
theorem dX7_readWord_20 : decode cX7_readWord 20 = .ok (.iconst 1, 1) := by decide +kernel
theorem dX7_readWord_21 : decode cX7_readWord 21 = .ok (.iadd, 1) := by decide +kernel
theorem dX7_readWord_22 : decode cX7_readWord 22 = .ok (.invokevirtual 102, 3) := by decide +kernel
theorem dX7_readWord_25 : decode cX7_readWord 25 = .ok (.istore 4, 2) := by decide +kernel
theorem dX7_readWord_27 : decode cX7_readWord 27 = .ok (.aload_n 2, 1) := by decide +kernel
theorem dX7_readWord_28 : decode cX7_readWord 28 = .ok (.aload_n 0, 1) := by decide +kernel
theorem dX7_readWord_29 : decode cX7_readWord 29 = .ok (.iload_n 3, 1) := by decide +kernel
theorem dX7_readWord_30 : decode cX7_readWord 30 = .ok (.invokevirtual 102, 3) := by decide +kernel
theorem dX7_readWord_33 : decode cX7_readWord 33 = .ok (.aload_n 0, 1) := by decide +kernel
theorem dX7_readWord_34 : decode cX7_readWord 34 = .ok (.iload_n 3, 1) := by decide +kernel
theorem dX7_readWord_35 : decode cX7_readWord 35 = .ok (.iconst 2, 1) := by decide +kernel
theorem dX7_readWord_36 : decode cX7_readWord 36 = .ok (.iadd, 1) := by decide +kernel
theorem dX7_readWord_37 : decode cX7_readWord 37 = .ok (.invokevirtual 102, 3) := by decide +kernel
theorem dX7_readWord_40 : decode cX7_readWord 40 = .ok (.invokevirtual 105, 3) := by decide +kernel
theorem dX7_readWord_43 : decode cX7_readWord 43 = .ok (.iconst 0, 1) := by decide +kernel
theorem dX7_readWord_44 : decode cX7_readWord 44 = .ok (.istore 5, 2) := by decide +kernel
theorem dX7_readWord_46 : decode cX7_readWord 46 = .ok (.iload 5, 2) := by decide +kernel
theorem dX7_readWord_48 : decode cX7_readWord 48 = .ok (.iload 4, 2) := by decide +kernel
theorem dX7_readWord_50 : decode cX7_readWord 50 = .ok (.if_icmp .ge 37, 3) := by decide +kernel
theorem dX7_readWord_53 : decode cX7_readWord 53 = .ok (.aload_n 2, 1) := by decide +kernel
theorem dX7_readWord_54 : decode cX7_readWord 54 = .ok (.aload_n 0, 1) := by decide +kernel
theorem dX7_readWord_55 : decode cX7_readWord 55 = .ok (.iload_n 3, 1) := by decide +kernel
theorem dX7_readWord_56 : decode cX7_readWord 56 = .ok (.iconst 3, 1) := by decide +kernel
theorem dX7_readWord_57 : decode cX7_readWord 57 = .ok (.iadd, 1) := by decide +kernel
theorem dX7_readWord_58 : decode cX7_readWord 58 = .ok (.iconst 2, 1) := by decide +kernel
theorem dX7_readWord_59 : decode cX7_readWord 59 = .ok (.iload 5, 2) := by decide +kernel
theorem dX7_readWord_61 : decode cX7_readWord 61 = .ok (.imul, 1) := by decide +kernel
theorem dX7_readWord_62 : decode cX7_readWord 62 = .ok (.iadd, 1) := by decide +kernel
theorem dX7_readWord_63 : decode cX7_readWord 63 = .ok (.invokevirtual 102, 3) := by decide +kernel
theorem dX7_readWord_66 : decode cX7_readWord 66 = .ok (.aload_n 0, 1) := by decide +kernel
theorem dX7_readWord_67 : decode cX7_readWord 67 = .ok (.iload_n 3, 1) := by decide +kernel
theorem dX7_readWord_68 : decode cX7_readWord 68 = .ok (.iconst 4, 1) := by decide +kernel
theorem dX7_readWord_69 : decode cX7_readWord 69 = .ok (.iadd, 1) := by decide +kernel
theorem dX7_readWord_70 : decode cX7_readWord 70 = .ok (.iconst 2, 1) := by decide +kernel
theorem dX7_readWord_71 : decode cX7_readWord 71 = .ok (.iload 5, 2) := by decide +kernel
theorem dX7_readWord_73 : decode cX7_readWord 73 = .ok (.imul, 1) := by decide +kernel
theorem dX7_readWord_74 : decode cX7_readWord 74 = .ok (.iadd, 1) := by decide +kernel
theorem dX7_readWord_75 : decode cX7_readWord 75 = .ok (.invokevirtual 102, 3) := by decide +kernel
theorem dX7_readWord_78 : decode cX7_readWord 78 = .ok (.invokevirtual 108, 3) := by decide +kernel
theorem dX7_readWord_81 : decode cX7_readWord 81 = .ok (.iinc 5 1, 3) := by decide +kernel
theorem dX7_readWord_84 : decode cX7_readWord 84 = .ok (.goto (-38), 3) := by decide +kernel
theorem dX7_readWord_87 : decode cX7_readWord 87 = .ok (.iconst 1, 1) := by decide +kernel
theorem dX7_readWord_88 : decode cX7_readWord 88 = .ok (.ireturn, 1) := by decide +kernel
theorem dX7_removeWord_0 : decode cX7_removeWord 0 = .ok (.aload_n 0, 1) := by decide +kernel
theorem dX7_removeWord_1 : decode cX7_removeWord 1 = .ok (.iload_n 1, 1) := by decide +kernel
theorem dX7_removeWord_2 : decode cX7_removeWord 2 = .ok (.invokevirtual 93, 3) := by decide +kernel
theorem dX7_removeWord_5 : decode cX7_removeWord 5 = .ok (.ifCond .ne 4, 3) := by decide +kernel
theorem dX7_removeWord_8 : decode cX7_removeWord 8 = .ok (.return_, 1) := by decide +kernel
theorem dX7_removeWord_9 : decode cX7_removeWord 9 = .ok (.bipush 33, 2) := by decide +kernel
theorem dX7_removeWord_11 : decode cX7_removeWord 11 = .ok (.bipush 51, 2) := by decide +kernel
theorem dX7_removeWord_13 : decode cX7_removeWord 13 = .ok (.aload_n 0, 1) := by decide +kernel
theorem dX7_removeWord_14 : decode cX7_removeWord 14 = .ok (.invokevirtual 86, 3) := by decide +kernel
theorem dX7_removeWord_17 : decode cX7_removeWord 17 = .ok (.iconst 1, 1) := by decide +kernel
theorem dX7_removeWord_18 : decode cX7_removeWord 18 = .ok (.isub, 1) := by decide +kernel
theorem dX7_removeWord_19 : decode cX7_removeWord 19 = .ok (.imul, 1) := by decide +kernel
theorem dX7_removeWord_20 : decode cX7_removeWord 20 = .ok (.iadd, 1) := by decide +kernel
theorem dX7_removeWord_21 : decode cX7_removeWord 21 = .ok (.istore_n 2, 1) := by decide +kernel
theorem dX7_removeWord_22 : decode cX7_removeWord 22 = .ok (.bipush 33, 2) := by decide +kernel
theorem dX7_removeWord_24 : decode cX7_removeWord 24 = .ok (.bipush 51, 2) := by decide +kernel
theorem dX7_removeWord_26 : decode cX7_removeWord 26 = .ok (.iload_n 1, 1) := by decide +kernel
theorem dX7_removeWord_27 : decode cX7_removeWord 27 = .ok (.imul, 1) := by decide +kernel
theorem dX7_removeWord_28 : decode cX7_removeWord 28 = .ok (.iadd, 1) := by decide +kernel
theorem dX7_removeWord_29 : decode cX7_removeWord 29 = .ok (.istore_n 3, 1) := by decide +kernel
theorem dX7_removeWord_30 : decode cX7_removeWord 30 = .ok (.iload_n 3, 1) := by decide +kernel
theorem dX7_removeWord_31 : decode cX7_removeWord 31 = .ok (.iload_n 2, 1) := by decide +kernel
theorem dX7_removeWord_32 : decode cX7_removeWord 32 = .ok (.if_icmp .ge 22, 3) := by decide +kernel
theorem dX7_removeWord_35 : decode cX7_removeWord 35 = .ok (.aload_n 0, 1) := by decide +kernel
theorem dX7_removeWord_36 : decode cX7_removeWord 36 = .ok (.iload_n 3, 1) := by decide +kernel
theorem dX7_removeWord_37 : decode cX7_removeWord 37 = .ok (.aload_n 0, 1) := by decide +kernel
theorem dX7_removeWord_38 : decode cX7_removeWord 38 = .ok (.iload_n 3, 1) := by decide +kernel
theorem dX7_removeWord_39 : decode cX7_removeWord 39 = .ok (.bipush 51, 2) := by decide +kernel
theorem dX7_removeWord_41 : decode cX7_removeWord 41 = .ok (.iadd, 1) := by decide +kernel
theorem dX7_removeWord_42 : decode cX7_removeWord 42 = .ok (.invokevirtual 102, 3) := by decide +kernel
theorem dX7_removeWord_45 : decode cX7_removeWord 45 = .ok (.invokevirtual 79, 3) := by decide +kernel
theorem dX7_removeWord_48 : decode cX7_removeWord 48 = .ok (.iinc 3 1, 3) := by decide +kernel
theorem dX7_removeWord_51 : decode cX7_removeWord 51 = .ok (.goto (-21), 3) := by decide +kernel
theorem dX7_removeWord_54 : decode cX7_removeWord 54 = .ok (.aload_n 0, 1) := by decide +kernel
theorem dX7_removeWord_55 : decode cX7_removeWord 55 = .ok (.iconst 2, 1) := by decide +kernel
theorem dX7_removeWord_56 : decode cX7_removeWord 56 = .ok (.aload_n 0, 1) := by decide +kernel
theorem dX7_removeWord_57 : decode cX7_removeWord 57 = .ok (.invokevirtual 86, 3) := by decide +kernel
theorem dX7_removeWord_60 : decode cX7_removeWord 60 = .ok (.iconst 1, 1) := by decide +kernel
theorem dX7_removeWord_61 : decode cX7_removeWord 61 = .ok (.isub, 1) := by decide +kernel
theorem dX7_removeWord_62 : decode cX7_removeWord 62 = .ok (.invokevirtual 79, 3) := by decide +kernel
theorem dX7_removeWord_65 : decode cX7_removeWord 65 = .ok (.return_, 1) := by decide +kernel
theorem dX8_size_0 : decode cX8_size 0 = .ok (.aload_n 0, 1) := by decide +kernel
theorem dX8_size_1 : decode cX8_size 1 = .ok (.getfield 15, 3) := by decide +kernel
theorem dX8_size_4 : decode cX8_size 4 = .ok (.ireturn, 1) := by decide +kernel
theorem dX8_byteAt_0 : decode cX8_byteAt 0 = .ok (.iload_n 1, 1) := by decide +kernel
theorem dX8_byteAt_1 : decode cX8_byteAt 1 = .ok (.ifCond .lt 20, 3) := by decide +kernel
theorem dX8_byteAt_4 : decode cX8_byteAt 4 = .ok (.iload_n 1, 1) := by decide +kernel
theorem dX8_byteAt_5 : decode cX8_byteAt 5 = .ok (.aload_n 0, 1) := by decide +kernel
theorem dX8_byteAt_6 : decode cX8_byteAt 6 = .ok (.getfield 15, 3) := by decide +kernel
theorem dX8_byteAt_9 : decode cX8_byteAt 9 = .ok (.if_icmp .ge 12, 3) := by decide +kernel
theorem dX8_byteAt_12 : decode cX8_byteAt 12 = .ok (.iload_n 1, 1) := by decide +kernel
theorem dX8_byteAt_13 : decode cX8_byteAt 13 = .ok (.aload_n 0, 1) := by decide +kernel
theorem dX8_byteAt_14 : decode cX8_byteAt 14 = .ok (.getfield 9, 3) := by decide +kernel
theorem dX8_byteAt_17 : decode cX8_byteAt 17 = .ok (.arraylength, 1) := by decide +kernel
theorem dX8_byteAt_18 : decode cX8_byteAt 18 = .ok (.if_icmp .lt 7, 3) := by decide +kernel
theorem dX8_byteAt_21 : decode cX8_byteAt 21 = .ok (.iconst (-1), 1) := by decide +kernel
theorem dX8_byteAt_22 : decode cX8_byteAt 22 = .ok (.goto 9, 3) := by decide +kernel
theorem dX8_byteAt_25 : decode cX8_byteAt 25 = .ok (.aload_n 0, 1) := by decide +kernel
theorem dX8_byteAt_26 : decode cX8_byteAt 26 = .ok (.getfield 9, 3) := by decide +kernel
theorem dX8_byteAt_29 : decode cX8_byteAt 29 = .ok (.iload_n 1, 1) := by decide +kernel
theorem dX8_byteAt_30 : decode cX8_byteAt 30 = .ok (.baload, 1) := by decide +kernel
theorem dX8_byteAt_31 : decode cX8_byteAt 31 = .ok (.ireturn, 1) := by decide +kernel
theorem dX8_tellWord_0 : decode cX8_tellWord 0 = .ok (.aload_n 0, 1) := by decide +kernel
theorem dX8_tellWord_1 : decode cX8_tellWord 1 = .ok (.iconst 0, 1) := by decide +kernel
theorem dX8_tellWord_2 : decode cX8_tellWord 2 = .ok (.putfield 15, 3) := by decide +kernel
theorem dX8_tellWord_5 : decode cX8_tellWord 5 = .ok (.aload_n 0, 1) := by decide +kernel
theorem dX8_tellWord_6 : decode cX8_tellWord 6 = .ok (.bipush 119, 2) := by decide +kernel
theorem dX8_tellWord_8 : decode cX8_tellWord 8 = .ok (.invokevirtual 19, 3) := by decide +kernel
theorem dX8_tellWord_11 : decode cX8_tellWord 11 = .ok (.aload_n 0, 1) := by decide +kernel
theorem dX8_tellWord_12 : decode cX8_tellWord 12 = .ok (.bipush 111, 2) := by decide +kernel
theorem dX8_tellWord_14 : decode cX8_tellWord 14 = .ok (.invokevirtual 19, 3) := by decide +kernel
theorem dX8_tellWord_17 : decode cX8_tellWord 17 = .ok (.aload_n 0, 1) := by decide +kernel
theorem dX8_tellWord_18 : decode cX8_tellWord 18 = .ok (.bipush 114, 2) := by decide +kernel
theorem dX8_tellWord_20 : decode cX8_tellWord 20 = .ok (.invokevirtual 19, 3) := by decide +kernel
theorem dX8_tellWord_23 : decode cX8_tellWord 23 = .ok (.aload_n 0, 1) := by decide +kernel
theorem dX8_tellWord_24 : decode cX8_tellWord 24 = .ok (.bipush 100, 2) := by decide +kernel
theorem dX8_tellWord_26 : decode cX8_tellWord 26 = .ok (.invokevirtual 19, 3) := by decide +kernel
theorem dX8_tellWord_29 : decode cX8_tellWord 29 = .ok (.aload_n 0, 1) := by decide +kernel
theorem dX8_tellWord_30 : decode cX8_tellWord 30 = .ok (.aload_n 1, 1) := by decide +kernel
theorem dX8_tellWord_31 : decode cX8_tellWord 31 = .ok (.invokevirtual 23, 3) := by decide +kernel
theorem dX8_tellWord_34 : decode cX8_tellWord 34 = .ok (.invokevirtual 29, 3) := by decide +kernel
theorem dX8_tellWord_37 : decode cX8_tellWord 37 = .ok (.aload_n 0, 1) := by decide +kernel
theorem dX8_tellWord_38 : decode cX8_tellWord 38 = .ok (.aload_n 1, 1) := by decide +kernel
theorem dX8_tellWord_39 : decode cX8_tellWord 39 = .ok (.iconst 0, 1) := by decide +kernel
theorem dX8_tellWord_40 : decode cX8_tellWord 40 = .ok (.invokevirtual 33, 3) := by decide +kernel
theorem dX8_tellWord_43 : decode cX8_tellWord 43 = .ok (.invokevirtual 29, 3) := by decide +kernel
theorem dX8_tellWord_46 : decode cX8_tellWord 46 = .ok (.iconst 0, 1) := by decide +kernel
theorem dX8_tellWord_47 : decode cX8_tellWord 47 = .ok (.istore_n 2, 1) := by decide +kernel
theorem dX8_tellWord_48 : decode cX8_tellWord 48 = .ok (.iload_n 2, 1) := by decide +kernel
theorem dX8_tellWord_49 : decode cX8_tellWord 49 = .ok (.aload_n 1, 1) := by decide +kernel
theorem dX8_tellWord_50 : decode cX8_tellWord 50 = .ok (.invokevirtual 37, 3) := by decide +kernel
theorem dX8_tellWord_53 : decode cX8_tellWord 53 = .ok (.if_icmp .ge 59, 3) := by decide +kernel
theorem dX8_tellWord_56 : decode cX8_tellWord 56 = .ok (.aload_n 0, 1) := by decide +kernel
theorem dX8_tellWord_57 : decode cX8_tellWord 57 = .ok (.bipush 32, 2) := by decide +kernel
theorem dX8_tellWord_59 : decode cX8_tellWord 59 = .ok (.invokevirtual 19, 3) := by decide +kernel
theorem dX8_tellWord_62 : decode cX8_tellWord 62 = .ok (.aload_n 0, 1) := by decide +kernel
theorem dX8_tellWord_63 : decode cX8_tellWord 63 = .ok (.aload_n 1, 1) := by decide +kernel
theorem dX8_tellWord_64 : decode cX8_tellWord 64 = .ok (.iload_n 2, 1) := by decide +kernel
theorem dX8_tellWord_65 : decode cX8_tellWord 65 = .ok (.invokevirtual 40, 3) := by decide +kernel
theorem dX8_tellWord_68 : decode cX8_tellWord 68 = .ok (.invokestatic 43, 3) := by decide +kernel
theorem dX8_tellWord_71 : decode cX8_tellWord 71 = .ok (.ifCond .eq 8, 3) := by decide +kernel
theorem dX8_tellWord_74 : decode cX8_tellWord 74 = .ok (.bipush 60, 2) := by decide +kernel
theorem dX8_tellWord_76 : decode cX8_tellWord 76 = .ok (.goto 5, 3) := by decide +kernel
theorem dX8_tellWord_79 : decode cX8_tellWord 79 = .ok (.bipush 62, 2) := by decide +kernel
theorem dX8_tellWord_81 : decode cX8_tellWord 81 = .ok (.invokevirtual 19, 3) := by decide +kernel
theorem dX8_tellWord_84 : decode cX8_tellWord 84 = .ok (.aload_n 0, 1) := by decide +kernel
theorem dX8_tellWord_85 : decode cX8_tellWord 85 = .ok (.aload_n 1, 1) := by decide +kernel
theorem dX8_tellWord_86 : decode cX8_tellWord 86 = .ok (.iload_n 2, 1) := by decide +kernel
theorem dX8_tellWord_87 : decode cX8_tellWord 87 = .ok (.invokevirtual 40, 3) := by decide +kernel
theorem dX8_tellWord_90 : decode cX8_tellWord 90 = .ok (.iconst 1, 1) := by decide +kernel
theorem dX8_tellWord_91 : decode cX8_tellWord 91 = .ok (.ishr, 1) := by decide +kernel
theorem dX8_tellWord_92 : decode cX8_tellWord 92 = .ok (.invokevirtual 29, 3) := by decide +kernel
theorem dX8_tellWord_95 : decode cX8_tellWord 95 = .ok (.aload_n 0, 1) := by decide +kernel
theorem dX8_tellWord_96 : decode cX8_tellWord 96 = .ok (.aload_n 1, 1) := by decide +kernel
theorem dX8_tellWord_97 : decode cX8_tellWord 97 = .ok (.iload_n 2, 1) := by decide +kernel
theorem dX8_tellWord_98 : decode cX8_tellWord 98 = .ok (.iconst 1, 1) := by decide +kernel
theorem dX8_tellWord_99 : decode cX8_tellWord 99 = .ok (.iadd, 1) := by decide +kernel
theorem dX8_tellWord_100 : decode cX8_tellWord 100 = .ok (.invokevirtual 33, 3) := by decide +kernel
theorem dX8_tellWord_103 : decode cX8_tellWord 103 = .ok (.invokevirtual 29, 3) := by decide +kernel
theorem dX8_tellWord_106 : decode cX8_tellWord 106 = .ok (.iinc 2 1, 3) := by decide +kernel
theorem dX8_tellWord_109 : decode cX8_tellWord 109 = .ok (.goto (-61), 3) := by decide +kernel
theorem dX8_tellWord_112 : decode cX8_tellWord 112 = .ok (.aload_n 0, 1) := by decide +kernel
theorem dX8_tellWord_113 : decode cX8_tellWord 113 = .ok (.bipush 59, 2) := by decide +kernel
theorem dX8_tellWord_115 : decode cX8_tellWord 115 = .ok (.invokevirtual 19, 3) := by decide +kernel
theorem dX8_tellWord_118 : decode cX8_tellWord 118 = .ok (.aload_n 0, 1) := by decide +kernel
theorem dX8_tellWord_119 : decode cX8_tellWord 119 = .ok (.getfield 15, 3) := by decide +kernel
theorem dX8_tellWord_122 : decode cX8_tellWord 122 = .ok (.ireturn, 1) := by decide +kernel
theorem dX8_put_0 : decode cX8_put 0 = .ok (.aload_n 0, 1) := by decide +kernel
theorem dX8_put_1 : decode cX8_put 1 = .ok (.getfield 15, 3) := by decide +kernel
theorem dX8_put_4 : decode cX8_put 4 = .ok (.ifCond .lt 36, 3) := by decide +kernel
theorem dX8_put_7 : decode cX8_put 7 = .ok (.aload_n 0, 1) := by decide +kernel
theorem dX8_put_8 : decode cX8_put 8 = .ok (.getfield 15, 3) := by decide +kernel
theorem dX8_put_11 : decode cX8_put 11 = .ok (.aload_n 0, 1) := by decide +kernel
theorem dX8_put_12 : decode cX8_put 12 = .ok (.getfield 9, 3) := by decide +kernel
theorem dX8_put_15 : decode cX8_put 15 = .ok (.arraylength, 1) := by decide +kernel
theorem dX8_put_16 : decode cX8_put 16 = .ok (.if_icmp .ge 24, 3) := by decide +kernel
theorem dX8_put_19 : decode cX8_put 19 = .ok (.aload_n 0, 1) := by decide +kernel
theorem dX8_put_20 : decode cX8_put 20 = .ok (.getfield 9, 3) := by decide +kernel
theorem dX8_put_23 : decode cX8_put 23 = .ok (.aload_n 0, 1) := by decide +kernel
theorem dX8_put_24 : decode cX8_put 24 = .ok (.getfield 15, 3) := by decide +kernel
theorem dX8_put_27 : decode cX8_put 27 = .ok (.iload_n 1, 1) := by decide +kernel
theorem dX8_put_28 : decode cX8_put 28 = .ok (.i2b, 1) := by decide +kernel
theorem dX8_put_29 : decode cX8_put 29 = .ok (.bastore, 1) := by decide +kernel
theorem dX8_put_30 : decode cX8_put 30 = .ok (.aload_n 0, 1) := by decide +kernel
theorem dX8_put_31 : decode cX8_put 31 = .ok (.dup, 1) := by decide +kernel
theorem dX8_put_32 : decode cX8_put 32 = .ok (.getfield 15, 3) := by decide +kernel
theorem dX8_put_35 : decode cX8_put 35 = .ok (.iconst 1, 1) := by decide +kernel
theorem dX8_put_36 : decode cX8_put 36 = .ok (.iadd, 1) := by decide +kernel
theorem dX8_put_37 : decode cX8_put 37 = .ok (.putfield 15, 3) := by decide +kernel
theorem dX8_put_40 : decode cX8_put 40 = .ok (.return_, 1) := by decide +kernel
theorem dX8_putNumber_0 : decode cX8_putNumber 0 = .ok (.aload_n 0, 1) := by decide +kernel
theorem dX8_putNumber_1 : decode cX8_putNumber 1 = .ok (.bipush 32, 2) := by decide +kernel
theorem dX8_putNumber_3 : decode cX8_putNumber 3 = .ok (.invokevirtual 19, 3) := by decide +kernel
theorem dX8_putNumber_6 : decode cX8_putNumber 6 = .ok (.iload_n 1, 1) := by decide +kernel
theorem dX8_putNumber_7 : decode cX8_putNumber 7 = .ok (.bipush 10, 2) := by decide +kernel
theorem dX8_putNumber_9 : decode cX8_putNumber 9 = .ok (.if_icmp .lt 22, 3) := by decide +kernel
theorem dX8_putNumber_12 : decode cX8_putNumber 12 = .ok (.aload_n 0, 1) := by decide +kernel
theorem dX8_putNumber_13 : decode cX8_putNumber 13 = .ok (.bipush 48, 2) := by decide +kernel
theorem dX8_putNumber_15 : decode cX8_putNumber 15 = .ok (.iload_n 1, 1) := by decide +kernel
theorem dX8_putNumber_16 : decode cX8_putNumber 16 = .ok (.bipush 10, 2) := by decide +kernel
theorem dX8_putNumber_18 : decode cX8_putNumber 18 = .ok (.invokestatic 47, 3) := by decide +kernel
theorem dX8_putNumber_21 : decode cX8_putNumber 21 = .ok (.bipush 10, 2) := by decide +kernel
theorem dX8_putNumber_23 : decode cX8_putNumber 23 = .ok (.invokestatic 51, 3) := by decide +kernel
theorem dX8_putNumber_26 : decode cX8_putNumber 26 = .ok (.iadd, 1) := by decide +kernel
theorem dX8_putNumber_27 : decode cX8_putNumber 27 = .ok (.i2c, 1) := by decide +kernel
theorem dX8_putNumber_28 : decode cX8_putNumber 28 = .ok (.invokevirtual 19, 3) := by decide +kernel
theorem dX8_putNumber_31 : decode cX8_putNumber 31 = .ok (.aload_n 0, 1) := by decide +kernel
theorem dX8_putNumber_32 : decode cX8_putNumber 32 = .ok (.bipush 48, 2) := by decide +kernel
theorem dX8_putNumber_34 : decode cX8_putNumber 34 = .ok (.iload_n 1, 1) := by decide +kernel
theorem dX8_putNumber_35 : decode cX8_putNumber 35 = .ok (.bipush 10, 2) := by decide +kernel
theorem dX8_putNumber_37 : decode cX8_putNumber 37 = .ok (.invokestatic 51, 3) := by decide +kernel
theorem dX8_putNumber_40 : decode cX8_putNumber 40 = .ok (.iadd, 1) := by decide +kernel
theorem dX8_putNumber_41 : decode cX8_putNumber 41 = .ok (.i2c, 1) := by decide +kernel
theorem dX8_putNumber_42 : decode cX8_putNumber 42 = .ok (.invokevirtual 19, 3) := by decide +kernel
theorem dX8_putNumber_45 : decode cX8_putNumber 45 = .ok (.return_, 1) := by decide +kernel
theorem dX9_kindAt_0 : decode cX9_kindAt 0 = .ok (.iload_n 1, 1) := by decide +kernel
theorem dX9_kindAt_1 : decode cX9_kindAt 1 = .ok (.ifCond .lt 20, 3) := by decide +kernel
theorem dX9_kindAt_4 : decode cX9_kindAt 4 = .ok (.iload_n 1, 1) := by decide +kernel
theorem dX9_kindAt_5 : decode cX9_kindAt 5 = .ok (.aload_n 0, 1) := by decide +kernel
theorem dX9_kindAt_6 : decode cX9_kindAt 6 = .ok (.getfield 21, 3) := by decide +kernel
theorem dX9_kindAt_9 : decode cX9_kindAt 9 = .ok (.if_icmp .ge 12, 3) := by decide +kernel
theorem dX9_kindAt_12 : decode cX9_kindAt 12 = .ok (.iload_n 1, 1) := by decide +kernel
theorem dX9_kindAt_13 : decode cX9_kindAt 13 = .ok (.aload_n 0, 1) := by decide +kernel
theorem dX9_kindAt_14 : decode cX9_kindAt 14 = .ok (.getfield 9, 3) := by decide +kernel
theorem dX9_kindAt_17 : decode cX9_kindAt 17 = .ok (.arraylength, 1) := by decide +kernel
theorem dX9_kindAt_18 : decode cX9_kindAt 18 = .ok (.if_icmp .lt 7, 3) := by decide +kernel
theorem dX9_kindAt_21 : decode cX9_kindAt 21 = .ok (.iconst 0, 1) := by decide +kernel
theorem dX9_kindAt_22 : decode cX9_kindAt 22 = .ok (.goto 9, 3) := by decide +kernel
theorem dX9_kindAt_25 : decode cX9_kindAt 25 = .ok (.aload_n 0, 1) := by decide +kernel
theorem dX9_kindAt_26 : decode cX9_kindAt 26 = .ok (.getfield 9, 3) := by decide +kernel
theorem dX9_kindAt_29 : decode cX9_kindAt 29 = .ok (.iload_n 1, 1) := by decide +kernel
theorem dX9_kindAt_30 : decode cX9_kindAt 30 = .ok (.iaload, 1) := by decide +kernel
theorem dX9_kindAt_31 : decode cX9_kindAt 31 = .ok (.ireturn, 1) := by decide +kernel
theorem dX9_placeAt_0 : decode cX9_placeAt 0 = .ok (.iload_n 1, 1) := by decide +kernel
theorem dX9_placeAt_1 : decode cX9_placeAt 1 = .ok (.ifCond .lt 20, 3) := by decide +kernel
theorem dX9_placeAt_4 : decode cX9_placeAt 4 = .ok (.iload_n 1, 1) := by decide +kernel
theorem dX9_placeAt_5 : decode cX9_placeAt 5 = .ok (.aload_n 0, 1) := by decide +kernel
theorem dX9_placeAt_6 : decode cX9_placeAt 6 = .ok (.getfield 21, 3) := by decide +kernel
theorem dX9_placeAt_9 : decode cX9_placeAt 9 = .ok (.if_icmp .ge 12, 3) := by decide +kernel
theorem dX9_placeAt_12 : decode cX9_placeAt 12 = .ok (.iload_n 1, 1) := by decide +kernel
theorem dX9_placeAt_13 : decode cX9_placeAt 13 = .ok (.aload_n 0, 1) := by decide +kernel
theorem dX9_placeAt_14 : decode cX9_placeAt 14 = .ok (.getfield 15, 3) := by decide +kernel
theorem dX9_placeAt_17 : decode cX9_placeAt 17 = .ok (.arraylength, 1) := by decide +kernel
theorem dX9_placeAt_18 : decode cX9_placeAt 18 = .ok (.if_icmp .lt 10, 3) := by decide +kernel
theorem dX9_placeAt_21 : decode cX9_placeAt 21 = .ok (.aload_n 0, 1) := by decide +kernel
theorem dX9_placeAt_22 : decode cX9_placeAt 22 = .ok (.getfield 29, 3) := by decide +kernel
theorem dX9_placeAt_25 : decode cX9_placeAt 25 = .ok (.goto 9, 3) := by decide +kernel
theorem dX9_placeAt_28 : decode cX9_placeAt 28 = .ok (.aload_n 0, 1) := by decide +kernel
theorem dX9_placeAt_29 : decode cX9_placeAt 29 = .ok (.getfield 15, 3) := by decide +kernel
theorem dX9_placeAt_32 : decode cX9_placeAt 32 = .ok (.iload_n 1, 1) := by decide +kernel
theorem dX9_placeAt_33 : decode cX9_placeAt 33 = .ok (.iaload, 1) := by decide +kernel
theorem dX9_placeAt_34 : decode cX9_placeAt 34 = .ok (.ireturn, 1) := by decide +kernel
theorem dX9_valueAt_0 : decode cX9_valueAt 0 = .ok (.iload_n 1, 1) := by decide +kernel
theorem dX9_valueAt_1 : decode cX9_valueAt 1 = .ok (.ifCond .lt 20, 3) := by decide +kernel
theorem dX9_valueAt_4 : decode cX9_valueAt 4 = .ok (.iload_n 1, 1) := by decide +kernel
theorem dX9_valueAt_5 : decode cX9_valueAt 5 = .ok (.aload_n 0, 1) := by decide +kernel
theorem dX9_valueAt_6 : decode cX9_valueAt 6 = .ok (.getfield 21, 3) := by decide +kernel
theorem dX9_valueAt_9 : decode cX9_valueAt 9 = .ok (.if_icmp .ge 12, 3) := by decide +kernel
theorem dX9_valueAt_12 : decode cX9_valueAt 12 = .ok (.iload_n 1, 1) := by decide +kernel
theorem dX9_valueAt_13 : decode cX9_valueAt 13 = .ok (.aload_n 0, 1) := by decide +kernel
theorem dX9_valueAt_14 : decode cX9_valueAt 14 = .ok (.getfield 18, 3) := by decide +kernel
theorem dX9_valueAt_17 : decode cX9_valueAt 17 = .ok (.arraylength, 1) := by decide +kernel
theorem dX9_valueAt_18 : decode cX9_valueAt 18 = .ok (.if_icmp .lt 7, 3) := by decide +kernel
theorem dX9_valueAt_21 : decode cX9_valueAt 21 = .ok (.iconst 0, 1) := by decide +kernel
theorem dX9_valueAt_22 : decode cX9_valueAt 22 = .ok (.goto 9, 3) := by decide +kernel
theorem dX9_valueAt_25 : decode cX9_valueAt 25 = .ok (.aload_n 0, 1) := by decide +kernel
theorem dX9_valueAt_26 : decode cX9_valueAt 26 = .ok (.getfield 18, 3) := by decide +kernel
theorem dX9_valueAt_29 : decode cX9_valueAt 29 = .ok (.iload_n 1, 1) := by decide +kernel
theorem dX9_valueAt_30 : decode cX9_valueAt 30 = .ok (.iaload, 1) := by decide +kernel
theorem dX9_valueAt_31 : decode cX9_valueAt 31 = .ok (.ireturn, 1) := by decide +kernel
theorem dX9_byteAt_0 : decode cX9_byteAt 0 = .ok (.iload_n 1, 1) := by decide +kernel
theorem dX9_byteAt_1 : decode cX9_byteAt 1 = .ok (.ifCond .lt 20, 3) := by decide +kernel
theorem dX9_byteAt_4 : decode cX9_byteAt 4 = .ok (.iload_n 1, 1) := by decide +kernel
theorem dX9_byteAt_5 : decode cX9_byteAt 5 = .ok (.aload_n 0, 1) := by decide +kernel
theorem dX9_byteAt_6 : decode cX9_byteAt 6 = .ok (.getfield 29, 3) := by decide +kernel
theorem dX9_byteAt_9 : decode cX9_byteAt 9 = .ok (.if_icmp .ge 12, 3) := by decide +kernel
theorem dX9_byteAt_12 : decode cX9_byteAt 12 = .ok (.iload_n 1, 1) := by decide +kernel
theorem dX9_byteAt_13 : decode cX9_byteAt 13 = .ok (.aload_n 0, 1) := by decide +kernel
theorem dX9_byteAt_14 : decode cX9_byteAt 14 = .ok (.getfield 25, 3) := by decide +kernel
theorem dX9_byteAt_17 : decode cX9_byteAt 17 = .ok (.arraylength, 1) := by decide +kernel
theorem dX9_byteAt_18 : decode cX9_byteAt 18 = .ok (.if_icmp .lt 7, 3) := by decide +kernel
theorem dX9_byteAt_21 : decode cX9_byteAt 21 = .ok (.iconst (-1), 1) := by decide +kernel
theorem dX9_byteAt_22 : decode cX9_byteAt 22 = .ok (.goto 9, 3) := by decide +kernel
theorem dX9_byteAt_25 : decode cX9_byteAt 25 = .ok (.aload_n 0, 1) := by decide +kernel
theorem dX9_byteAt_26 : decode cX9_byteAt 26 = .ok (.getfield 25, 3) := by decide +kernel
theorem dX9_byteAt_29 : decode cX9_byteAt 29 = .ok (.iload_n 1, 1) := by decide +kernel
theorem dX9_byteAt_30 : decode cX9_byteAt 30 = .ok (.baload, 1) := by decide +kernel
theorem dX9_byteAt_31 : decode cX9_byteAt 31 = .ok (.ireturn, 1) := by decide +kernel
theorem dX9_isLetter_0 : decode cX9_isLetter 0 = .ok (.iload_n 0, 1) := by decide +kernel
theorem dX9_isLetter_1 : decode cX9_isLetter 1 = .ok (.bipush 97, 2) := by decide +kernel
theorem dX9_isLetter_3 : decode cX9_isLetter 3 = .ok (.if_icmp .lt 13, 3) := by decide +kernel
theorem dX9_isLetter_6 : decode cX9_isLetter 6 = .ok (.iload_n 0, 1) := by decide +kernel
theorem dX9_isLetter_7 : decode cX9_isLetter 7 = .ok (.bipush 122, 2) := by decide +kernel
theorem dX9_isLetter_9 : decode cX9_isLetter 9 = .ok (.if_icmp .gt 7, 3) := by decide +kernel
theorem dX9_isLetter_12 : decode cX9_isLetter 12 = .ok (.iconst 1, 1) := by decide +kernel
theorem dX9_isLetter_13 : decode cX9_isLetter 13 = .ok (.goto 4, 3) := by decide +kernel
theorem dX9_isLetter_16 : decode cX9_isLetter 16 = .ok (.iconst 0, 1) := by decide +kernel
theorem dX9_isLetter_17 : decode cX9_isLetter 17 = .ok (.ireturn, 1) := by decide +kernel
theorem dX9_isDigit_0 : decode cX9_isDigit 0 = .ok (.iload_n 0, 1) := by decide +kernel
theorem dX9_isDigit_1 : decode cX9_isDigit 1 = .ok (.bipush 48, 2) := by decide +kernel
theorem dX9_isDigit_3 : decode cX9_isDigit 3 = .ok (.if_icmp .lt 13, 3) := by decide +kernel
theorem dX9_isDigit_6 : decode cX9_isDigit 6 = .ok (.iload_n 0, 1) := by decide +kernel
theorem dX9_isDigit_7 : decode cX9_isDigit 7 = .ok (.bipush 57, 2) := by decide +kernel
theorem dX9_isDigit_9 : decode cX9_isDigit 9 = .ok (.if_icmp .gt 7, 3) := by decide +kernel
theorem dX9_isDigit_12 : decode cX9_isDigit 12 = .ok (.iconst 1, 1) := by decide +kernel
theorem dX9_isDigit_13 : decode cX9_isDigit 13 = .ok (.goto 4, 3) := by decide +kernel
theorem dX9_isDigit_16 : decode cX9_isDigit 16 = .ok (.iconst 0, 1) := by decide +kernel
theorem dX9_isDigit_17 : decode cX9_isDigit 17 = .ok (.ireturn, 1) := by decide +kernel
theorem dX9_endOfToken_0 : decode cX9_endOfToken 0 = .ok (.iload_n 1, 1) := by decide +kernel
theorem dX9_endOfToken_1 : decode cX9_endOfToken 1 = .ok (.iconst 1, 1) := by decide +kernel
theorem dX9_endOfToken_2 : decode cX9_endOfToken 2 = .ok (.iadd, 1) := by decide +kernel
theorem dX9_endOfToken_3 : decode cX9_endOfToken 3 = .ok (.istore_n 2, 1) := by decide +kernel
theorem dX9_endOfToken_4 : decode cX9_endOfToken 4 = .ok (.aload_n 0, 1) := by decide +kernel
theorem dX9_endOfToken_5 : decode cX9_endOfToken 5 = .ok (.iload_n 1, 1) := by decide +kernel
theorem dX9_endOfToken_6 : decode cX9_endOfToken 6 = .ok (.invokevirtual 38, 3) := by decide +kernel
theorem dX9_endOfToken_9 : decode cX9_endOfToken 9 = .ok (.invokestatic 52, 3) := by decide +kernel
theorem dX9_endOfToken_12 : decode cX9_endOfToken 12 = .ok (.ifCond .eq 28, 3) := by decide +kernel
theorem dX9_endOfToken_15 : decode cX9_endOfToken 15 = .ok (.iload_n 2, 1) := by decide +kernel
theorem dX9_endOfToken_16 : decode cX9_endOfToken 16 = .ok (.aload_n 0, 1) := by decide +kernel
theorem dX9_endOfToken_17 : decode cX9_endOfToken 17 = .ok (.getfield 29, 3) := by decide +kernel
theorem dX9_endOfToken_20 : decode cX9_endOfToken 20 = .ok (.if_icmp .ge 56, 3) := by decide +kernel
theorem dX9_endOfToken_23 : decode cX9_endOfToken 23 = .ok (.aload_n 0, 1) := by decide +kernel
theorem dX9_endOfToken_24 : decode cX9_endOfToken 24 = .ok (.iload_n 2, 1) := by decide +kernel
theorem dX9_endOfToken_25 : decode cX9_endOfToken 25 = .ok (.invokevirtual 38, 3) := by decide +kernel
theorem dX9_endOfToken_28 : decode cX9_endOfToken 28 = .ok (.invokestatic 52, 3) := by decide +kernel
theorem dX9_endOfToken_31 : decode cX9_endOfToken 31 = .ok (.ifCond .eq 45, 3) := by decide +kernel
theorem dX9_endOfToken_34 : decode cX9_endOfToken 34 = .ok (.iinc 2 1, 3) := by decide +kernel
theorem dX9_endOfToken_37 : decode cX9_endOfToken 37 = .ok (.goto (-22), 3) := by decide +kernel
theorem dX9_endOfToken_40 : decode cX9_endOfToken 40 = .ok (.aload_n 0, 1) := by decide +kernel
theorem dX9_endOfToken_41 : decode cX9_endOfToken 41 = .ok (.iload_n 1, 1) := by decide +kernel
theorem dX9_endOfToken_42 : decode cX9_endOfToken 42 = .ok (.invokevirtual 38, 3) := by decide +kernel
theorem dX9_endOfToken_45 : decode cX9_endOfToken 45 = .ok (.invokestatic 56, 3) := by decide +kernel
theorem dX9_endOfToken_48 : decode cX9_endOfToken 48 = .ok (.ifCond .eq 28, 3) := by decide +kernel
theorem dX9_endOfToken_51 : decode cX9_endOfToken 51 = .ok (.iload_n 2, 1) := by decide +kernel
theorem dX9_endOfToken_52 : decode cX9_endOfToken 52 = .ok (.aload_n 0, 1) := by decide +kernel
theorem dX9_endOfToken_53 : decode cX9_endOfToken 53 = .ok (.getfield 29, 3) := by decide +kernel
theorem dX9_endOfToken_56 : decode cX9_endOfToken 56 = .ok (.if_icmp .ge 20, 3) := by decide +kernel
theorem dX9_endOfToken_59 : decode cX9_endOfToken 59 = .ok (.aload_n 0, 1) := by decide +kernel
theorem dX9_endOfToken_60 : decode cX9_endOfToken 60 = .ok (.iload_n 2, 1) := by decide +kernel
theorem dX9_endOfToken_61 : decode cX9_endOfToken 61 = .ok (.invokevirtual 38, 3) := by decide +kernel
theorem dX9_endOfToken_64 : decode cX9_endOfToken 64 = .ok (.invokestatic 56, 3) := by decide +kernel
theorem dX9_endOfToken_67 : decode cX9_endOfToken 67 = .ok (.ifCond .eq 9, 3) := by decide +kernel
theorem dX9_endOfToken_70 : decode cX9_endOfToken 70 = .ok (.iinc 2 1, 3) := by decide +kernel
theorem dX9_endOfToken_73 : decode cX9_endOfToken 73 = .ok (.goto (-22), 3) := by decide +kernel
theorem dX9_endOfToken_76 : decode cX9_endOfToken 76 = .ok (.iload_n 2, 1) := by decide +kernel
theorem dX9_endOfToken_77 : decode cX9_endOfToken 77 = .ok (.ireturn, 1) := by decide +kernel
theorem dX9_signOf_0 : decode cX9_signOf 0 = .ok (.iload_n 0, 1) := by decide +kernel
theorem dX9_signOf_1 : decode cX9_signOf 1 = .ok (.tableswitch 40 59 62 #[37, 34, 40, 31], 31) := by decide +kernel
theorem dX9_signOf_32 : decode cX9_signOf 32 = .ok (.bipush 7, 2) := by decide +kernel
theorem dX9_signOf_34 : decode cX9_signOf 34 = .ok (.ireturn, 1) := by decide +kernel
theorem dX9_signOf_35 : decode cX9_signOf 35 = .ok (.bipush 8, 2) := by decide +kernel
theorem dX9_signOf_37 : decode cX9_signOf 37 = .ok (.ireturn, 1) := by decide +kernel
theorem dX9_signOf_38 : decode cX9_signOf 38 = .ok (.bipush 9, 2) := by decide +kernel
theorem dX9_signOf_40 : decode cX9_signOf 40 = .ok (.ireturn, 1) := by decide +kernel
theorem dX9_signOf_41 : decode cX9_signOf 41 = .ok (.iconst 1, 1) := by decide +kernel
theorem dX9_signOf_42 : decode cX9_signOf 42 = .ok (.ireturn, 1) := by decide +kernel
theorem dX9_numberIn_0 : decode cX9_numberIn 0 = .ok (.iconst 0, 1) := by decide +kernel
theorem dX9_numberIn_1 : decode cX9_numberIn 1 = .ok (.istore_n 3, 1) := by decide +kernel
theorem dX9_numberIn_2 : decode cX9_numberIn 2 = .ok (.iload_n 1, 1) := by decide +kernel
theorem dX9_numberIn_3 : decode cX9_numberIn 3 = .ok (.istore 4, 2) := by decide +kernel
theorem dX9_numberIn_5 : decode cX9_numberIn 5 = .ok (.iload 4, 2) := by decide +kernel
theorem dX9_numberIn_7 : decode cX9_numberIn 7 = .ok (.iload_n 2, 1) := by decide +kernel
theorem dX9_numberIn_8 : decode cX9_numberIn 8 = .ok (.if_icmp .ge 24, 3) := by decide +kernel
theorem dX9_numberIn_11 : decode cX9_numberIn 11 = .ok (.bipush 10, 2) := by decide +kernel
theorem dX9_numberIn_13 : decode cX9_numberIn 13 = .ok (.iload_n 3, 1) := by decide +kernel
theorem dX9_numberIn_14 : decode cX9_numberIn 14 = .ok (.imul, 1) := by decide +kernel
theorem dX9_numberIn_15 : decode cX9_numberIn 15 = .ok (.aload_n 0, 1) := by decide +kernel
theorem dX9_numberIn_16 : decode cX9_numberIn 16 = .ok (.iload 4, 2) := by decide +kernel
theorem dX9_numberIn_18 : decode cX9_numberIn 18 = .ok (.invokevirtual 38, 3) := by decide +kernel
theorem dX9_numberIn_21 : decode cX9_numberIn 21 = .ok (.iadd, 1) := by decide +kernel
theorem dX9_numberIn_22 : decode cX9_numberIn 22 = .ok (.bipush 48, 2) := by decide +kernel
theorem dX9_numberIn_24 : decode cX9_numberIn 24 = .ok (.isub, 1) := by decide +kernel
theorem dX9_numberIn_25 : decode cX9_numberIn 25 = .ok (.istore_n 3, 1) := by decide +kernel
theorem dX9_numberIn_26 : decode cX9_numberIn 26 = .ok (.iinc 4 1, 3) := by decide +kernel
theorem dX9_numberIn_29 : decode cX9_numberIn 29 = .ok (.goto (-24), 3) := by decide +kernel
theorem dX9_numberIn_32 : decode cX9_numberIn 32 = .ok (.iload_n 3, 1) := by decide +kernel
theorem dX9_numberIn_33 : decode cX9_numberIn 33 = .ok (.ireturn, 1) := by decide +kernel
theorem dX10_start_0 : decode cX10_start 0 = .ok (.aload_n 0, 1) := by decide +kernel
theorem dX10_start_1 : decode cX10_start 1 = .ok (.iload_n 1, 1) := by decide +kernel
theorem dX10_start_2 : decode cX10_start 2 = .ok (.putfield 18, 3) := by decide +kernel
theorem dX10_start_5 : decode cX10_start 5 = .ok (.aload_n 0, 1) := by decide +kernel
theorem dX10_start_6 : decode cX10_start 6 = .ok (.iconst 0, 1) := by decide +kernel
theorem dX10_start_7 : decode cX10_start 7 = .ok (.putfield 22, 3) := by decide +kernel
theorem dX10_start_10 : decode cX10_start 10 = .ok (.aload_n 0, 1) := by decide +kernel
theorem dX10_start_11 : decode cX10_start 11 = .ok (.getfield 9, 3) := by decide +kernel
theorem dX10_start_14 : decode cX10_start 14 = .ok (.iconst 0, 1) := by decide +kernel
theorem dX10_start_15 : decode cX10_start 15 = .ok (.iload_n 2, 1) := by decide +kernel
theorem dX10_start_16 : decode cX10_start 16 = .ok (.iastore, 1) := by decide +kernel
theorem dX10_start_17 : decode cX10_start 17 = .ok (.return_, 1) := by decide +kernel
theorem dX10_begin_0 : decode cX10_begin 0 = .ok (.aload_n 0, 1) := by decide +kernel
theorem dX10_begin_1 : decode cX10_begin 1 = .ok (.getfield 18, 3) := by decide +kernel
theorem dX10_begin_4 : decode cX10_begin 4 = .ok (.ireturn, 1) := by decide +kernel
theorem dX10_size_0 : decode cX10_size 0 = .ok (.aload_n 0, 1) := by decide +kernel
theorem dX10_size_1 : decode cX10_size 1 = .ok (.getfield 22, 3) := by decide +kernel
theorem dX10_size_4 : decode cX10_size 4 = .ok (.ireturn, 1) := by decide +kernel
theorem dX10_numberAt_0 : decode cX10_numberAt 0 = .ok (.iload_n 1, 1) := by decide +kernel
theorem dX10_numberAt_1 : decode cX10_numberAt 1 = .ok (.ifCond .lt 20, 3) := by decide +kernel
theorem dX10_numberAt_4 : decode cX10_numberAt 4 = .ok (.iload_n 1, 1) := by decide +kernel
theorem dX10_numberAt_5 : decode cX10_numberAt 5 = .ok (.aload_n 0, 1) := by decide +kernel
theorem dX10_numberAt_6 : decode cX10_numberAt 6 = .ok (.getfield 22, 3) := by decide +kernel
theorem dX10_numberAt_9 : decode cX10_numberAt 9 = .ok (.if_icmp .gt 12, 3) := by decide +kernel
theorem dX10_numberAt_12 : decode cX10_numberAt 12 = .ok (.iload_n 1, 1) := by decide +kernel
theorem dX10_numberAt_13 : decode cX10_numberAt 13 = .ok (.aload_n 0, 1) := by decide +kernel
theorem dX10_numberAt_14 : decode cX10_numberAt 14 = .ok (.getfield 9, 3) := by decide +kernel
theorem dX10_numberAt_17 : decode cX10_numberAt 17 = .ok (.arraylength, 1) := by decide +kernel
theorem dX10_numberAt_18 : decode cX10_numberAt 18 = .ok (.if_icmp .lt 7, 3) := by decide +kernel
theorem dX10_numberAt_21 : decode cX10_numberAt 21 = .ok (.iconst 0, 1) := by decide +kernel
theorem dX10_numberAt_22 : decode cX10_numberAt 22 = .ok (.goto 9, 3) := by decide +kernel
theorem dX10_numberAt_25 : decode cX10_numberAt 25 = .ok (.aload_n 0, 1) := by decide +kernel
theorem dX10_numberAt_26 : decode cX10_numberAt 26 = .ok (.getfield 9, 3) := by decide +kernel
theorem dX10_numberAt_29 : decode cX10_numberAt 29 = .ok (.iload_n 1, 1) := by decide +kernel
theorem dX10_numberAt_30 : decode cX10_numberAt 30 = .ok (.iaload, 1) := by decide +kernel
theorem dX10_numberAt_31 : decode cX10_numberAt 31 = .ok (.ireturn, 1) := by decide +kernel
theorem dX10_stepAt_0 : decode cX10_stepAt 0 = .ok (.iload_n 1, 1) := by decide +kernel
theorem dX10_stepAt_1 : decode cX10_stepAt 1 = .ok (.ifCond .lt 20, 3) := by decide +kernel
theorem dX10_stepAt_4 : decode cX10_stepAt 4 = .ok (.iload_n 1, 1) := by decide +kernel
theorem dX10_stepAt_5 : decode cX10_stepAt 5 = .ok (.aload_n 0, 1) := by decide +kernel
theorem dX10_stepAt_6 : decode cX10_stepAt 6 = .ok (.getfield 22, 3) := by decide +kernel
theorem dX10_stepAt_9 : decode cX10_stepAt 9 = .ok (.if_icmp .ge 12, 3) := by decide +kernel
theorem dX10_stepAt_12 : decode cX10_stepAt 12 = .ok (.iload_n 1, 1) := by decide +kernel
theorem dX10_stepAt_13 : decode cX10_stepAt 13 = .ok (.aload_n 0, 1) := by decide +kernel
theorem dX10_stepAt_14 : decode cX10_stepAt 14 = .ok (.getfield 15, 3) := by decide +kernel
theorem dX10_stepAt_17 : decode cX10_stepAt 17 = .ok (.arraylength, 1) := by decide +kernel
theorem dX10_stepAt_18 : decode cX10_stepAt 18 = .ok (.if_icmp .lt 8, 3) := by decide +kernel
theorem dX10_stepAt_21 : decode cX10_stepAt 21 = .ok (.bipush 12, 2) := by decide +kernel
theorem dX10_stepAt_23 : decode cX10_stepAt 23 = .ok (.goto 9, 3) := by decide +kernel
theorem dX10_stepAt_26 : decode cX10_stepAt 26 = .ok (.aload_n 0, 1) := by decide +kernel
theorem dX10_stepAt_27 : decode cX10_stepAt 27 = .ok (.getfield 15, 3) := by decide +kernel
theorem dX10_stepAt_30 : decode cX10_stepAt 30 = .ok (.iload_n 1, 1) := by decide +kernel
theorem dX10_stepAt_31 : decode cX10_stepAt 31 = .ok (.iaload, 1) := by decide +kernel
theorem dX10_stepAt_32 : decode cX10_stepAt 32 = .ok (.ireturn, 1) := by decide +kernel
theorem dX10_lastNumber_0 : decode cX10_lastNumber 0 = .ok (.aload_n 0, 1) := by decide +kernel
theorem dX10_lastNumber_1 : decode cX10_lastNumber 1 = .ok (.getfield 22, 3) := by decide +kernel
theorem dX10_lastNumber_4 : decode cX10_lastNumber 4 = .ok (.ifCond .lt 15, 3) := by decide +kernel
theorem dX10_lastNumber_7 : decode cX10_lastNumber 7 = .ok (.aload_n 0, 1) := by decide +kernel
theorem dX10_lastNumber_8 : decode cX10_lastNumber 8 = .ok (.getfield 22, 3) := by decide +kernel
theorem dX10_lastNumber_11 : decode cX10_lastNumber 11 = .ok (.aload_n 0, 1) := by decide +kernel
theorem dX10_lastNumber_12 : decode cX10_lastNumber 12 = .ok (.getfield 9, 3) := by decide +kernel
theorem dX10_lastNumber_15 : decode cX10_lastNumber 15 = .ok (.arraylength, 1) := by decide +kernel
theorem dX10_lastNumber_16 : decode cX10_lastNumber 16 = .ok (.if_icmp .lt 7, 3) := by decide +kernel
theorem dX10_lastNumber_23 : decode cX10_lastNumber 23 = .ok (.aload_n 0, 1) := by decide +kernel
theorem dX10_lastNumber_24 : decode cX10_lastNumber 24 = .ok (.getfield 9, 3) := by decide +kernel
theorem dX10_lastNumber_27 : decode cX10_lastNumber 27 = .ok (.aload_n 0, 1) := by decide +kernel
theorem dX10_lastNumber_28 : decode cX10_lastNumber 28 = .ok (.getfield 22, 3) := by decide +kernel
theorem dX10_lastNumber_31 : decode cX10_lastNumber 31 = .ok (.iaload, 1) := by decide +kernel
theorem dX10_lastNumber_32 : decode cX10_lastNumber 32 = .ok (.ireturn, 1) := by decide +kernel
theorem dX10_lastStep_0 : decode cX10_lastStep 0 = .ok (.aload_n 0, 1) := by decide +kernel
theorem dX10_lastStep_1 : decode cX10_lastStep 1 = .ok (.getfield 22, 3) := by decide +kernel
theorem dX10_lastStep_4 : decode cX10_lastStep 4 = .ok (.iconst 1, 1) := by decide +kernel
theorem dX10_lastStep_5 : decode cX10_lastStep 5 = .ok (.if_icmp .lt 15, 3) := by decide +kernel
theorem dX10_lastStep_8 : decode cX10_lastStep 8 = .ok (.aload_n 0, 1) := by decide +kernel
theorem dX10_lastStep_9 : decode cX10_lastStep 9 = .ok (.getfield 22, 3) := by decide +kernel
theorem dX10_lastStep_12 : decode cX10_lastStep 12 = .ok (.aload_n 0, 1) := by decide +kernel
theorem dX10_lastStep_13 : decode cX10_lastStep 13 = .ok (.getfield 15, 3) := by decide +kernel
theorem dX10_lastStep_16 : decode cX10_lastStep 16 = .ok (.arraylength, 1) := by decide +kernel
theorem dX10_lastStep_17 : decode cX10_lastStep 17 = .ok (.if_icmp .le 8, 3) := by decide +kernel
theorem dX10_lastStep_20 : decode cX10_lastStep 20 = .ok (.bipush 12, 2) := by decide +kernel
theorem dX10_lastStep_22 : decode cX10_lastStep 22 = .ok (.goto 14, 3) := by decide +kernel
theorem dX10_lastStep_25 : decode cX10_lastStep 25 = .ok (.aload_n 0, 1) := by decide +kernel
theorem dX10_lastStep_26 : decode cX10_lastStep 26 = .ok (.getfield 15, 3) := by decide +kernel
theorem dX10_lastStep_29 : decode cX10_lastStep 29 = .ok (.aload_n 0, 1) := by decide +kernel
theorem dX10_lastStep_30 : decode cX10_lastStep 30 = .ok (.getfield 22, 3) := by decide +kernel
theorem dX10_lastStep_33 : decode cX10_lastStep 33 = .ok (.iconst 1, 1) := by decide +kernel
theorem dX10_lastStep_34 : decode cX10_lastStep 34 = .ok (.isub, 1) := by decide +kernel
theorem dX10_lastStep_35 : decode cX10_lastStep 35 = .ok (.iaload, 1) := by decide +kernel
theorem dX10_lastStep_36 : decode cX10_lastStep 36 = .ok (.ireturn, 1) := by decide +kernel
theorem dX10_putNumber_0 : decode cX10_putNumber 0 = .ok (.iload_n 1, 1) := by decide +kernel
theorem dX10_putNumber_1 : decode cX10_putNumber 1 = .ok (.ifCond .lt 27, 3) := by decide +kernel
theorem dX10_putNumber_4 : decode cX10_putNumber 4 = .ok (.iload_n 1, 1) := by decide +kernel
theorem dX10_putNumber_5 : decode cX10_putNumber 5 = .ok (.aload_n 0, 1) := by decide +kernel
theorem dX10_putNumber_6 : decode cX10_putNumber 6 = .ok (.getfield 22, 3) := by decide +kernel
theorem dX10_putNumber_9 : decode cX10_putNumber 9 = .ok (.if_icmp .gt 19, 3) := by decide +kernel
theorem dX10_putNumber_12 : decode cX10_putNumber 12 = .ok (.iload_n 1, 1) := by decide +kernel
theorem dX10_putNumber_13 : decode cX10_putNumber 13 = .ok (.aload_n 0, 1) := by decide +kernel
theorem dX10_putNumber_14 : decode cX10_putNumber 14 = .ok (.getfield 9, 3) := by decide +kernel
theorem dX10_putNumber_17 : decode cX10_putNumber 17 = .ok (.arraylength, 1) := by decide +kernel
theorem dX10_putNumber_18 : decode cX10_putNumber 18 = .ok (.if_icmp .ge 10, 3) := by decide +kernel
theorem dX10_putNumber_21 : decode cX10_putNumber 21 = .ok (.aload_n 0, 1) := by decide +kernel
theorem dX10_putNumber_22 : decode cX10_putNumber 22 = .ok (.getfield 9, 3) := by decide +kernel
theorem dX10_putNumber_25 : decode cX10_putNumber 25 = .ok (.iload_n 1, 1) := by decide +kernel
theorem dX10_putNumber_26 : decode cX10_putNumber 26 = .ok (.iload_n 2, 1) := by decide +kernel
theorem dX10_putNumber_27 : decode cX10_putNumber 27 = .ok (.iastore, 1) := by decide +kernel
theorem dX10_putNumber_28 : decode cX10_putNumber 28 = .ok (.return_, 1) := by decide +kernel
theorem dX10_addLast_0 : decode cX10_addLast 0 = .ok (.aload_n 0, 1) := by decide +kernel
theorem dX10_addLast_1 : decode cX10_addLast 1 = .ok (.aload_n 0, 1) := by decide +kernel
theorem dX10_addLast_2 : decode cX10_addLast 2 = .ok (.getfield 22, 3) := by decide +kernel
theorem dX10_addLast_5 : decode cX10_addLast 5 = .ok (.aload_n 0, 1) := by decide +kernel
theorem dX10_addLast_6 : decode cX10_addLast 6 = .ok (.invokevirtual 25, 3) := by decide +kernel
theorem dX10_addLast_9 : decode cX10_addLast 9 = .ok (.iload_n 1, 1) := by decide +kernel
theorem dX10_addLast_10 : decode cX10_addLast 10 = .ok (.iadd, 1) := by decide +kernel
theorem dX10_addLast_11 : decode cX10_addLast 11 = .ok (.iload_n 2, 1) := by decide +kernel
theorem dX10_addLast_12 : decode cX10_addLast 12 = .ok (.invokestatic 29, 3) := by decide +kernel
theorem dX10_addLast_15 : decode cX10_addLast 15 = .ok (.invokevirtual 33, 3) := by decide +kernel
theorem dX10_addLast_18 : decode cX10_addLast 18 = .ok (.return_, 1) := by decide +kernel
theorem dX10_push_0 : decode cX10_push 0 = .ok (.aload_n 0, 1) := by decide +kernel
theorem dX10_push_1 : decode cX10_push 1 = .ok (.getfield 22, 3) := by decide +kernel
theorem dX10_push_4 : decode cX10_push 4 = .ok (.ifCond .lt 59, 3) := by decide +kernel
theorem dX10_push_7 : decode cX10_push 7 = .ok (.aload_n 0, 1) := by decide +kernel
theorem dX10_push_8 : decode cX10_push 8 = .ok (.getfield 22, 3) := by decide +kernel
theorem dX10_push_11 : decode cX10_push 11 = .ok (.aload_n 0, 1) := by decide +kernel
theorem dX10_push_12 : decode cX10_push 12 = .ok (.getfield 15, 3) := by decide +kernel
theorem dX10_push_15 : decode cX10_push 15 = .ok (.arraylength, 1) := by decide +kernel
theorem dX10_push_16 : decode cX10_push 16 = .ok (.if_icmp .ge 47, 3) := by decide +kernel
theorem dX10_push_19 : decode cX10_push 19 = .ok (.aload_n 0, 1) := by decide +kernel
theorem dX10_push_20 : decode cX10_push 20 = .ok (.getfield 22, 3) := by decide +kernel
theorem dX10_push_23 : decode cX10_push 23 = .ok (.iconst 1, 1) := by decide +kernel
theorem dX10_push_24 : decode cX10_push 24 = .ok (.iadd, 1) := by decide +kernel
theorem dX10_push_25 : decode cX10_push 25 = .ok (.aload_n 0, 1) := by decide +kernel
theorem dX10_push_26 : decode cX10_push 26 = .ok (.getfield 9, 3) := by decide +kernel
theorem dX10_push_29 : decode cX10_push 29 = .ok (.arraylength, 1) := by decide +kernel
theorem dX10_push_30 : decode cX10_push 30 = .ok (.if_icmp .ge 33, 3) := by decide +kernel
theorem dX10_push_33 : decode cX10_push 33 = .ok (.aload_n 0, 1) := by decide +kernel
theorem dX10_push_34 : decode cX10_push 34 = .ok (.getfield 15, 3) := by decide +kernel
theorem dX10_push_37 : decode cX10_push 37 = .ok (.aload_n 0, 1) := by decide +kernel
theorem dX10_push_38 : decode cX10_push 38 = .ok (.getfield 22, 3) := by decide +kernel
theorem dX10_push_41 : decode cX10_push 41 = .ok (.iload_n 1, 1) := by decide +kernel
theorem dX10_push_42 : decode cX10_push 42 = .ok (.iastore, 1) := by decide +kernel
theorem dX10_push_43 : decode cX10_push 43 = .ok (.aload_n 0, 1) := by decide +kernel
theorem dX10_push_44 : decode cX10_push 44 = .ok (.dup, 1) := by decide +kernel
theorem dX10_push_45 : decode cX10_push 45 = .ok (.getfield 22, 3) := by decide +kernel
theorem dX10_push_48 : decode cX10_push 48 = .ok (.iconst 1, 1) := by decide +kernel
theorem dX10_push_49 : decode cX10_push 49 = .ok (.iadd, 1) := by decide +kernel
theorem dX10_push_50 : decode cX10_push 50 = .ok (.putfield 22, 3) := by decide +kernel
theorem dX10_push_53 : decode cX10_push 53 = .ok (.aload_n 0, 1) := by decide +kernel
theorem dX10_push_54 : decode cX10_push 54 = .ok (.getfield 9, 3) := by decide +kernel
theorem dX10_push_57 : decode cX10_push 57 = .ok (.aload_n 0, 1) := by decide +kernel
theorem dX10_push_58 : decode cX10_push 58 = .ok (.getfield 22, 3) := by decide +kernel
theorem dX10_push_61 : decode cX10_push 61 = .ok (.iload_n 2, 1) := by decide +kernel
theorem dX10_push_62 : decode cX10_push 62 = .ok (.iastore, 1) := by decide +kernel
theorem dX10_push_63 : decode cX10_push 63 = .ok (.return_, 1) := by decide +kernel
theorem dX10_pop_0 : decode cX10_pop 0 = .ok (.aload_n 0, 1) := by decide +kernel
theorem dX10_pop_1 : decode cX10_pop 1 = .ok (.getfield 22, 3) := by decide +kernel
theorem dX10_pop_4 : decode cX10_pop 4 = .ok (.ifCond .le 13, 3) := by decide +kernel
theorem dX10_pop_7 : decode cX10_pop 7 = .ok (.aload_n 0, 1) := by decide +kernel
theorem dX10_pop_8 : decode cX10_pop 8 = .ok (.dup, 1) := by decide +kernel
theorem dX10_pop_9 : decode cX10_pop 9 = .ok (.getfield 22, 3) := by decide +kernel
theorem dX10_pop_12 : decode cX10_pop 12 = .ok (.iconst 1, 1) := by decide +kernel
theorem dX10_pop_13 : decode cX10_pop 13 = .ok (.isub, 1) := by decide +kernel
theorem dX10_pop_14 : decode cX10_pop 14 = .ok (.putfield 22, 3) := by decide +kernel
theorem dX10_pop_17 : decode cX10_pop 17 = .ok (.return_, 1) := by decide +kernel
theorem dX10_sameSteps_0 : decode cX10_sameSteps 0 = .ok (.aload_n 0, 1) := by decide +kernel
theorem dX10_sameSteps_1 : decode cX10_sameSteps 1 = .ok (.getfield 18, 3) := by decide +kernel
theorem dX10_sameSteps_4 : decode cX10_sameSteps 4 = .ok (.aload_n 1, 1) := by decide +kernel
theorem dX10_sameSteps_5 : decode cX10_sameSteps 5 = .ok (.getfield 18, 3) := by decide +kernel
theorem dX10_sameSteps_8 : decode cX10_sameSteps 8 = .ok (.if_icmp .ne 14, 3) := by decide +kernel
theorem dX10_sameSteps_11 : decode cX10_sameSteps 11 = .ok (.aload_n 0, 1) := by decide +kernel
theorem dX10_sameSteps_12 : decode cX10_sameSteps 12 = .ok (.getfield 22, 3) := by decide +kernel
theorem dX10_sameSteps_15 : decode cX10_sameSteps 15 = .ok (.aload_n 1, 1) := by decide +kernel
theorem dX10_sameSteps_16 : decode cX10_sameSteps 16 = .ok (.getfield 22, 3) := by decide +kernel
theorem dX10_sameSteps_19 : decode cX10_sameSteps 19 = .ok (.if_icmp .eq 5, 3) := by decide +kernel
theorem dX10_sameSteps_22 : decode cX10_sameSteps 22 = .ok (.iconst 0, 1) := by decide +kernel
theorem dX10_sameSteps_23 : decode cX10_sameSteps 23 = .ok (.ireturn, 1) := by decide +kernel
theorem dX10_sameSteps_24 : decode cX10_sameSteps 24 = .ok (.iconst 0, 1) := by decide +kernel
theorem dX10_sameSteps_25 : decode cX10_sameSteps 25 = .ok (.istore_n 2, 1) := by decide +kernel
theorem dX10_sameSteps_26 : decode cX10_sameSteps 26 = .ok (.iload_n 2, 1) := by decide +kernel
theorem dX10_sameSteps_27 : decode cX10_sameSteps 27 = .ok (.aload_n 0, 1) := by decide +kernel
theorem dX10_sameSteps_28 : decode cX10_sameSteps 28 = .ok (.getfield 22, 3) := by decide +kernel
theorem dX10_sameSteps_31 : decode cX10_sameSteps 31 = .ok (.if_icmp .ge 24, 3) := by decide +kernel
theorem dX10_sameSteps_34 : decode cX10_sameSteps 34 = .ok (.aload_n 0, 1) := by decide +kernel
theorem dX10_sameSteps_35 : decode cX10_sameSteps 35 = .ok (.iload_n 2, 1) := by decide +kernel
theorem dX10_sameSteps_36 : decode cX10_sameSteps 36 = .ok (.invokevirtual 37, 3) := by decide +kernel
theorem dX10_sameSteps_39 : decode cX10_sameSteps 39 = .ok (.aload_n 1, 1) := by decide +kernel
theorem dX10_sameSteps_40 : decode cX10_sameSteps 40 = .ok (.iload_n 2, 1) := by decide +kernel
theorem dX10_sameSteps_41 : decode cX10_sameSteps 41 = .ok (.invokevirtual 37, 3) := by decide +kernel
theorem dX10_sameSteps_44 : decode cX10_sameSteps 44 = .ok (.if_icmp .eq 5, 3) := by decide +kernel
theorem dX10_sameSteps_47 : decode cX10_sameSteps 47 = .ok (.iconst 0, 1) := by decide +kernel
theorem dX10_sameSteps_48 : decode cX10_sameSteps 48 = .ok (.ireturn, 1) := by decide +kernel
theorem dX10_sameSteps_49 : decode cX10_sameSteps 49 = .ok (.iinc 2 1, 3) := by decide +kernel
theorem dX10_sameSteps_52 : decode cX10_sameSteps 52 = .ok (.goto (-26), 3) := by decide +kernel
theorem dX10_sameSteps_55 : decode cX10_sameSteps 55 = .ok (.iconst 1, 1) := by decide +kernel
theorem dX10_sameSteps_56 : decode cX10_sameSteps 56 = .ok (.ireturn, 1) := by decide +kernel
theorem dX10_sameAs_0 : decode cX10_sameAs 0 = .ok (.aload_n 0, 1) := by decide +kernel
theorem dX10_sameAs_1 : decode cX10_sameAs 1 = .ok (.aload_n 1, 1) := by decide +kernel
theorem dX10_sameAs_2 : decode cX10_sameAs 2 = .ok (.invokevirtual 41, 3) := by decide +kernel
theorem dX10_sameAs_5 : decode cX10_sameAs 5 = .ok (.ifCond .ne 5, 3) := by decide +kernel
theorem dX10_sameAs_8 : decode cX10_sameAs 8 = .ok (.iconst 0, 1) := by decide +kernel
theorem dX10_sameAs_9 : decode cX10_sameAs 9 = .ok (.ireturn, 1) := by decide +kernel
theorem dX10_sameAs_10 : decode cX10_sameAs 10 = .ok (.iconst 0, 1) := by decide +kernel
theorem dX10_sameAs_11 : decode cX10_sameAs 11 = .ok (.istore_n 2, 1) := by decide +kernel
theorem dX10_sameAs_12 : decode cX10_sameAs 12 = .ok (.iload_n 2, 1) := by decide +kernel
theorem dX10_sameAs_13 : decode cX10_sameAs 13 = .ok (.aload_n 0, 1) := by decide +kernel
theorem dX10_sameAs_14 : decode cX10_sameAs 14 = .ok (.getfield 22, 3) := by decide +kernel
theorem dX10_sameAs_17 : decode cX10_sameAs 17 = .ok (.if_icmp .gt 24, 3) := by decide +kernel
theorem dX10_sameAs_20 : decode cX10_sameAs 20 = .ok (.aload_n 0, 1) := by decide +kernel
theorem dX10_sameAs_21 : decode cX10_sameAs 21 = .ok (.iload_n 2, 1) := by decide +kernel
theorem dX10_sameAs_22 : decode cX10_sameAs 22 = .ok (.invokevirtual 45, 3) := by decide +kernel
theorem dX10_sameAs_25 : decode cX10_sameAs 25 = .ok (.aload_n 1, 1) := by decide +kernel
theorem dX10_sameAs_26 : decode cX10_sameAs 26 = .ok (.iload_n 2, 1) := by decide +kernel
theorem dX10_sameAs_27 : decode cX10_sameAs 27 = .ok (.invokevirtual 45, 3) := by decide +kernel
theorem dX10_sameAs_30 : decode cX10_sameAs 30 = .ok (.if_icmp .eq 5, 3) := by decide +kernel
theorem dX10_sameAs_33 : decode cX10_sameAs 33 = .ok (.iconst 0, 1) := by decide +kernel
theorem dX10_sameAs_34 : decode cX10_sameAs 34 = .ok (.ireturn, 1) := by decide +kernel
theorem dX10_sameAs_35 : decode cX10_sameAs 35 = .ok (.iinc 2 1, 3) := by decide +kernel
theorem dX10_sameAs_38 : decode cX10_sameAs 38 = .ok (.goto (-26), 3) := by decide +kernel
theorem dX10_sameAs_41 : decode cX10_sameAs 41 = .ok (.iconst 1, 1) := by decide +kernel
theorem dX10_sameAs_42 : decode cX10_sameAs 42 = .ok (.ireturn, 1) := by decide +kernel
theorem dX11_status_0 : decode cX11_status 0 = .ok (.aload_n 0, 1) := by decide +kernel
theorem dX11_status_1 : decode cX11_status 1 = .ok (.getfield 35, 3) := by decide +kernel
theorem dX11_status_4 : decode cX11_status 4 = .ok (.ireturn, 1) := by decide +kernel
theorem dX11_feed_0 : decode cX11_feed 0 = .ok (.aload_n 0, 1) := by decide +kernel
theorem dX11_feed_1 : decode cX11_feed 1 = .ok (.getfield 42, 3) := by decide +kernel
theorem dX11_feed_4 : decode cX11_feed 4 = .ok (.bipush 20, 2) := by decide +kernel
theorem dX11_feed_6 : decode cX11_feed 6 = .ok (.iadd, 1) := by decide +kernel
theorem dX11_feed_7 : decode cX11_feed 7 = .ok (.sipush 700, 3) := by decide +kernel
theorem dX11_feed_10 : decode cX11_feed 10 = .ok (.if_icmp .le 5, 3) := by decide +kernel
theorem dX11_feed_13 : decode cX11_feed 13 = .ok (.iconst (-1), 1) := by decide +kernel
theorem dX11_feed_14 : decode cX11_feed 14 = .ok (.ireturn, 1) := by decide +kernel
theorem dX11_many_0 : decode cX11_many 0 = .ok (.iload_n 1, 1) := by decide +kernel
theorem dX11_many_1 : decode cX11_many 1 = .ok (.tableswitch 148 0 6 #[43, 55, 67, 79, 91, 100, 132], 43) := by decide +kernel
theorem dX11_many_44 : decode cX11_many 44 = .ok (.aload_n 0, 1) := by decide +kernel
theorem dX11_many_45 : decode cX11_many 45 = .ok (.aload_n 0, 1) := by decide +kernel
theorem dX11_many_46 : decode cX11_many 46 = .ok (.getfield 12, 3) := by decide +kernel
theorem dX11_many_49 : decode cX11_many 49 = .ok (.invokevirtual 139, 3) := by decide +kernel
theorem dX11_many_52 : decode cX11_many 52 = .ok (.invokevirtual 133, 3) := by decide +kernel
theorem dX11_many_55 : decode cX11_many 55 = .ok (.ireturn, 1) := by decide +kernel
theorem dX11_many_56 : decode cX11_many 56 = .ok (.aload_n 0, 1) := by decide +kernel
theorem dX11_many_57 : decode cX11_many 57 = .ok (.aload_n 0, 1) := by decide +kernel
theorem dX11_many_58 : decode cX11_many 58 = .ok (.getfield 12, 3) := by decide +kernel
theorem dX11_many_61 : decode cX11_many 61 = .ok (.invokevirtual 142, 3) := by decide +kernel
theorem dX11_many_64 : decode cX11_many 64 = .ok (.invokevirtual 133, 3) := by decide +kernel
theorem dX11_many_67 : decode cX11_many 67 = .ok (.ireturn, 1) := by decide +kernel
theorem dX11_many_68 : decode cX11_many 68 = .ok (.aload_n 0, 1) := by decide +kernel
theorem dX11_many_69 : decode cX11_many 69 = .ok (.aload_n 0, 1) := by decide +kernel
theorem dX11_many_70 : decode cX11_many 70 = .ok (.getfield 12, 3) := by decide +kernel
theorem dX11_many_73 : decode cX11_many 73 = .ok (.invokevirtual 129, 3) := by decide +kernel
theorem dX11_many_76 : decode cX11_many 76 = .ok (.invokevirtual 133, 3) := by decide +kernel
theorem dX11_many_79 : decode cX11_many 79 = .ok (.ireturn, 1) := by decide +kernel
theorem dX11_many_80 : decode cX11_many 80 = .ok (.aload_n 0, 1) := by decide +kernel
theorem dX11_many_81 : decode cX11_many 81 = .ok (.aload_n 0, 1) := by decide +kernel
theorem dX11_many_82 : decode cX11_many 82 = .ok (.getfield 19, 3) := by decide +kernel
theorem dX11_many_85 : decode cX11_many 85 = .ok (.invokevirtual 145, 3) := by decide +kernel
theorem dX11_many_88 : decode cX11_many 88 = .ok (.invokevirtual 133, 3) := by decide +kernel
theorem dX11_many_91 : decode cX11_many 91 = .ok (.ireturn, 1) := by decide +kernel
theorem dX11_many_92 : decode cX11_many 92 = .ok (.aload_n 0, 1) := by decide +kernel
theorem dX11_many_93 : decode cX11_many 93 = .ok (.aload_n 0, 1) := by decide +kernel
theorem dX11_many_94 : decode cX11_many 94 = .ok (.getfield 31, 3) := by decide +kernel
theorem dX11_many_97 : decode cX11_many 97 = .ok (.invokevirtual 133, 3) := by decide +kernel
theorem dX11_many_100 : decode cX11_many 100 = .ok (.ireturn, 1) := by decide +kernel
theorem dX11_many_101 : decode cX11_many 101 = .ok (.aload_n 0, 1) := by decide +kernel
theorem dX11_many_102 : decode cX11_many 102 = .ok (.aload_n 0, 1) := by decide +kernel
theorem dX11_many_103 : decode cX11_many 103 = .ok (.getfield 12, 3) := by decide +kernel
theorem dX11_many_106 : decode cX11_many 106 = .ok (.invokevirtual 142, 3) := by decide +kernel
theorem dX11_many_109 : decode cX11_many 109 = .ok (.aload_n 0, 1) := by decide +kernel
theorem dX11_many_110 : decode cX11_many 110 = .ok (.getfield 12, 3) := by decide +kernel
theorem dX11_many_113 : decode cX11_many 113 = .ok (.invokevirtual 139, 3) := by decide +kernel
theorem dX11_many_116 : decode cX11_many 116 = .ok (.isub, 1) := by decide +kernel
theorem dX11_many_117 : decode cX11_many 117 = .ok (.aload_n 0, 1) := by decide +kernel
theorem dX11_many_118 : decode cX11_many 118 = .ok (.getfield 95, 3) := by decide +kernel
theorem dX11_many_121 : decode cX11_many 121 = .ok (.aload_n 0, 1) := by decide +kernel
theorem dX11_many_122 : decode cX11_many 122 = .ok (.getfield 12, 3) := by decide +kernel
theorem dX11_many_125 : decode cX11_many 125 = .ok (.invokevirtual 148, 3) := by decide +kernel
theorem dX11_many_128 : decode cX11_many 128 = .ok (.iadd, 1) := by decide +kernel
theorem dX11_many_129 : decode cX11_many 129 = .ok (.invokevirtual 133, 3) := by decide +kernel
theorem dX11_many_132 : decode cX11_many 132 = .ok (.ireturn, 1) := by decide +kernel
theorem dX11_many_133 : decode cX11_many 133 = .ok (.aload_n 0, 1) := by decide +kernel
theorem dX11_many_134 : decode cX11_many 134 = .ok (.aload_n 0, 1) := by decide +kernel
theorem dX11_many_135 : decode cX11_many 135 = .ok (.getfield 95, 3) := by decide +kernel
theorem dX11_many_138 : decode cX11_many 138 = .ok (.aload_n 0, 1) := by decide +kernel
theorem dX11_many_139 : decode cX11_many 139 = .ok (.getfield 12, 3) := by decide +kernel
theorem dX11_many_142 : decode cX11_many 142 = .ok (.invokevirtual 148, 3) := by decide +kernel
theorem dX11_many_145 : decode cX11_many 145 = .ok (.invokevirtual 133, 3) := by decide +kernel
theorem dX11_many_148 : decode cX11_many 148 = .ok (.ireturn, 1) := by decide +kernel
theorem dX11_many_149 : decode cX11_many 149 = .ok (.aload_n 0, 1) := by decide +kernel
theorem dX11_many_150 : decode cX11_many 150 = .ok (.iconst 1, 1) := by decide +kernel
theorem dX11_many_151 : decode cX11_many 151 = .ok (.invokevirtual 110, 3) := by decide +kernel
theorem dX11_many_154 : decode cX11_many 154 = .ok (.ireturn, 1) := by decide +kernel
theorem dX11_order_0 : decode cX11_order 0 = .ok (.aload_n 0, 1) := by decide +kernel
theorem dX11_order_1 : decode cX11_order 1 = .ok (.getfield 12, 3) := by decide +kernel
theorem dX11_order_4 : decode cX11_order 4 = .ok (.iload_n 1, 1) := by decide +kernel
theorem dX11_order_5 : decode cX11_order 5 = .ok (.invokevirtual 152, 3) := by decide +kernel
theorem dX11_order_8 : decode cX11_order 8 = .ok (.ifCond .eq 18, 3) := by decide +kernel
theorem dX11_order_11 : decode cX11_order 11 = .ok (.aload_n 0, 1) := by decide +kernel
theorem dX11_order_12 : decode cX11_order 12 = .ok (.aload_n 0, 1) := by decide +kernel
theorem dX11_order_13 : decode cX11_order 13 = .ok (.getfield 12, 3) := by decide +kernel
theorem dX11_order_16 : decode cX11_order 16 = .ok (.iload_n 1, 1) := by decide +kernel
theorem dX11_order_17 : decode cX11_order 17 = .ok (.invokevirtual 156, 3) := by decide +kernel
theorem dX11_order_20 : decode cX11_order 20 = .ok (.invokevirtual 133, 3) := by decide +kernel
theorem dX11_order_23 : decode cX11_order 23 = .ok (.goto 8, 3) := by decide +kernel
theorem dX11_order_26 : decode cX11_order 26 = .ok (.aload_n 0, 1) := by decide +kernel
theorem dX11_order_27 : decode cX11_order 27 = .ok (.iconst 2, 1) := by decide +kernel
theorem dX11_order_28 : decode cX11_order 28 = .ok (.invokevirtual 110, 3) := by decide +kernel
theorem dX11_order_31 : decode cX11_order 31 = .ok (.ireturn, 1) := by decide +kernel
theorem dX11_edge_0 : decode cX11_edge 0 = .ok (.iload_n 2, 1) := by decide +kernel
theorem dX11_edge_1 : decode cX11_edge 1 = .ok (.ifCond .lt 8, 3) := by decide +kernel
theorem dX11_edge_4 : decode cX11_edge 4 = .ok (.iload_n 2, 1) := by decide +kernel
theorem dX11_edge_5 : decode cX11_edge 5 = .ok (.iconst 4, 1) := by decide +kernel
theorem dX11_edge_6 : decode cX11_edge 6 = .ok (.if_icmp .le 9, 3) := by decide +kernel
theorem dX11_edge_9 : decode cX11_edge 9 = .ok (.aload_n 0, 1) := by decide +kernel
theorem dX11_edge_10 : decode cX11_edge 10 = .ok (.iconst 1, 1) := by decide +kernel
theorem dX11_edge_11 : decode cX11_edge 11 = .ok (.invokevirtual 110, 3) := by decide +kernel
theorem dX11_edge_14 : decode cX11_edge 14 = .ok (.ireturn, 1) := by decide +kernel
theorem dX11_edge_15 : decode cX11_edge 15 = .ok (.aload_n 0, 1) := by decide +kernel
theorem dX11_edge_16 : decode cX11_edge 16 = .ok (.getfield 12, 3) := by decide +kernel
theorem dX11_edge_19 : decode cX11_edge 19 = .ok (.iload_n 1, 1) := by decide +kernel
theorem dX11_edge_20 : decode cX11_edge 20 = .ok (.invokevirtual 159, 3) := by decide +kernel
theorem dX11_edge_23 : decode cX11_edge 23 = .ok (.ifCond .ne 9, 3) := by decide +kernel
theorem dX11_edge_26 : decode cX11_edge 26 = .ok (.aload_n 0, 1) := by decide +kernel
theorem dX11_edge_27 : decode cX11_edge 27 = .ok (.iconst 2, 1) := by decide +kernel
theorem dX11_edge_28 : decode cX11_edge 28 = .ok (.invokevirtual 110, 3) := by decide +kernel
theorem dX11_edge_31 : decode cX11_edge 31 = .ok (.ireturn, 1) := by decide +kernel
theorem dX11_edge_32 : decode cX11_edge 32 = .ok (.aload_n 0, 1) := by decide +kernel
theorem dX11_edge_33 : decode cX11_edge 33 = .ok (.iload_n 2, 1) := by decide +kernel
theorem dX11_edge_34 : decode cX11_edge 34 = .ok (.iconst 4, 1) := by decide +kernel
theorem dX11_edge_35 : decode cX11_edge 35 = .ok (.if_icmp .ne 14, 3) := by decide +kernel
theorem dX11_edge_38 : decode cX11_edge 38 = .ok (.aload_n 0, 1) := by decide +kernel
theorem dX11_edge_39 : decode cX11_edge 39 = .ok (.getfield 12, 3) := by decide +kernel
theorem dX11_edge_42 : decode cX11_edge 42 = .ok (.iload_n 1, 1) := by decide +kernel
theorem dX11_edge_43 : decode cX11_edge 43 = .ok (.invokevirtual 162, 3) := by decide +kernel
theorem dX11_edge_46 : decode cX11_edge 46 = .ok (.goto 12, 3) := by decide +kernel
theorem dX11_edge_49 : decode cX11_edge 49 = .ok (.aload_n 0, 1) := by decide +kernel
theorem dX11_edge_50 : decode cX11_edge 50 = .ok (.getfield 12, 3) := by decide +kernel
theorem dX11_edge_53 : decode cX11_edge 53 = .ok (.iload_n 1, 1) := by decide +kernel
theorem dX11_edge_54 : decode cX11_edge 54 = .ok (.iload_n 2, 1) := by decide +kernel
theorem dX11_edge_55 : decode cX11_edge 55 = .ok (.invokevirtual 165, 3) := by decide +kernel
theorem dX11_edge_58 : decode cX11_edge 58 = .ok (.invokevirtual 133, 3) := by decide +kernel
theorem dX11_edge_61 : decode cX11_edge 61 = .ok (.ireturn, 1) := by decide +kernel
theorem dX11_word_0 : decode cX11_word 0 = .ok (.iload_n 2, 1) := by decide +kernel
theorem dX11_word_1 : decode cX11_word 1 = .ok (.ifCond .lt 8, 3) := by decide +kernel
theorem dX11_word_4 : decode cX11_word 4 = .ok (.iload_n 2, 1) := by decide +kernel
theorem dX11_word_5 : decode cX11_word 5 = .ok (.iconst 4, 1) := by decide +kernel
theorem dX11_word_6 : decode cX11_word 6 = .ok (.if_icmp .le 9, 3) := by decide +kernel
theorem dX11_word_9 : decode cX11_word 9 = .ok (.aload_n 0, 1) := by decide +kernel
theorem dX11_word_10 : decode cX11_word 10 = .ok (.iconst 1, 1) := by decide +kernel
theorem dX11_word_11 : decode cX11_word 11 = .ok (.invokevirtual 110, 3) := by decide +kernel
theorem dX11_word_14 : decode cX11_word 14 = .ok (.ireturn, 1) := by decide +kernel
theorem dX11_word_15 : decode cX11_word 15 = .ok (.aload_n 0, 1) := by decide +kernel
theorem dX11_word_16 : decode cX11_word 16 = .ok (.getfield 12, 3) := by decide +kernel
theorem dX11_word_19 : decode cX11_word 19 = .ok (.iload_n 1, 1) := by decide +kernel
theorem dX11_word_20 : decode cX11_word 20 = .ok (.aload_n 0, 1) := by decide +kernel
theorem dX11_word_21 : decode cX11_word 21 = .ok (.getfield 62, 3) := by decide +kernel
theorem dX11_word_24 : decode cX11_word 24 = .ok (.invokevirtual 169, 3) := by decide +kernel
theorem dX11_word_27 : decode cX11_word 27 = .ok (.ifCond .ne 9, 3) := by decide +kernel
theorem dX11_word_30 : decode cX11_word 30 = .ok (.aload_n 0, 1) := by decide +kernel
theorem dX11_word_31 : decode cX11_word 31 = .ok (.iconst 2, 1) := by decide +kernel
theorem dX11_word_32 : decode cX11_word 32 = .ok (.invokevirtual 110, 3) := by decide +kernel
theorem dX11_word_35 : decode cX11_word 35 = .ok (.ireturn, 1) := by decide +kernel
theorem dX11_word_36 : decode cX11_word 36 = .ok (.iload_n 2, 1) := by decide +kernel
theorem dX11_word_37 : decode cX11_word 37 = .ok (.ifCond .ne 15, 3) := by decide +kernel
theorem dX11_word_40 : decode cX11_word 40 = .ok (.aload_n 0, 1) := by decide +kernel
theorem dX11_word_41 : decode cX11_word 41 = .ok (.aload_n 0, 1) := by decide +kernel
theorem dX11_word_42 : decode cX11_word 42 = .ok (.getfield 62, 3) := by decide +kernel
theorem dX11_word_45 : decode cX11_word 45 = .ok (.invokevirtual 173, 3) := by decide +kernel
theorem dX11_word_48 : decode cX11_word 48 = .ok (.invokevirtual 133, 3) := by decide +kernel
theorem dX11_word_51 : decode cX11_word 51 = .ok (.ireturn, 1) := by decide +kernel
theorem dX11_word_52 : decode cX11_word 52 = .ok (.iload_n 2, 1) := by decide +kernel
theorem dX11_word_53 : decode cX11_word 53 = .ok (.iconst 1, 1) := by decide +kernel
theorem dX11_word_54 : decode cX11_word 54 = .ok (.if_icmp .ne 19, 3) := by decide +kernel
theorem dX11_word_57 : decode cX11_word 57 = .ok (.aload_n 0, 1) := by decide +kernel
theorem dX11_word_58 : decode cX11_word 58 = .ok (.aload_n 0, 1) := by decide +kernel
theorem dX11_word_59 : decode cX11_word 59 = .ok (.getfield 12, 3) := by decide +kernel
theorem dX11_word_62 : decode cX11_word 62 = .ok (.aload_n 0, 1) := by decide +kernel
theorem dX11_word_63 : decode cX11_word 63 = .ok (.getfield 62, 3) := by decide +kernel
theorem dX11_word_66 : decode cX11_word 66 = .ok (.invokevirtual 176, 3) := by decide +kernel
theorem dX11_word_69 : decode cX11_word 69 = .ok (.invokevirtual 133, 3) := by decide +kernel
theorem dX11_word_72 : decode cX11_word 72 = .ok (.ireturn, 1) := by decide +kernel
theorem dX11_word_73 : decode cX11_word 73 = .ok (.iload_n 2, 1) := by decide +kernel
theorem dX11_word_74 : decode cX11_word 74 = .ok (.iconst 2, 1) := by decide +kernel
theorem dX11_word_75 : decode cX11_word 75 = .ok (.if_icmp .ne 15, 3) := by decide +kernel
theorem dX11_word_78 : decode cX11_word 78 = .ok (.aload_n 0, 1) := by decide +kernel
theorem dX11_word_79 : decode cX11_word 79 = .ok (.aload_n 0, 1) := by decide +kernel
theorem dX11_word_80 : decode cX11_word 80 = .ok (.getfield 62, 3) := by decide +kernel
theorem dX11_word_83 : decode cX11_word 83 = .ok (.invokevirtual 180, 3) := by decide +kernel
theorem dX11_word_86 : decode cX11_word 86 = .ok (.invokevirtual 133, 3) := by decide +kernel
theorem dX11_word_89 : decode cX11_word 89 = .ok (.ireturn, 1) := by decide +kernel
theorem dX11_word_90 : decode cX11_word 90 = .ok (.aload_n 0, 1) := by decide +kernel
theorem dX11_word_91 : decode cX11_word 91 = .ok (.getfield 12, 3) := by decide +kernel
theorem dX11_word_94 : decode cX11_word 94 = .ok (.aload_n 0, 1) := by decide +kernel
theorem dX11_word_95 : decode cX11_word 95 = .ok (.getfield 62, 3) := by decide +kernel
theorem dX11_word_98 : decode cX11_word 98 = .ok (.aload_n 0, 1) := by decide +kernel
theorem dX11_word_99 : decode cX11_word 99 = .ok (.getfield 69, 3) := by decide +kernel
theorem dX11_word_102 : decode cX11_word 102 = .ok (.invokestatic 181, 3) := by decide +kernel
theorem dX11_word_105 : decode cX11_word 105 = .ok (.istore_n 3, 1) := by decide +kernel
theorem dX11_word_106 : decode cX11_word 106 = .ok (.aload_n 0, 1) := by decide +kernel
theorem dX11_word_107 : decode cX11_word 107 = .ok (.iload_n 2, 1) := by decide +kernel
theorem dX11_word_108 : decode cX11_word 108 = .ok (.iconst 4, 1) := by decide +kernel
theorem dX11_word_109 : decode cX11_word 109 = .ok (.if_icmp .ne 7, 3) := by decide +kernel
theorem dX11_word_112 : decode cX11_word 112 = .ok (.iload_n 3, 1) := by decide +kernel
theorem dX11_word_113 : decode cX11_word 113 = .ok (.goto 17, 3) := by decide +kernel
theorem dX11_word_116 : decode cX11_word 116 = .ok (.aload_n 0, 1) := by decide +kernel
theorem dX11_word_117 : decode cX11_word 117 = .ok (.getfield 69, 3) := by decide +kernel
theorem dX11_word_120 : decode cX11_word 120 = .ok (.aload_n 0, 1) := by decide +kernel
theorem dX11_word_121 : decode cX11_word 121 = .ok (.getfield 62, 3) := by decide +kernel
theorem dX11_word_124 : decode cX11_word 124 = .ok (.invokevirtual 187, 3) := by decide +kernel
theorem dX11_word_127 : decode cX11_word 127 = .ok (.invokestatic 191, 3) := by decide +kernel
theorem dX11_word_130 : decode cX11_word 130 = .ok (.invokevirtual 133, 3) := by decide +kernel
theorem dX11_word_133 : decode cX11_word 133 = .ok (.ireturn, 1) := by decide +kernel
theorem dX11_number_0 : decode cX11_number 0 = .ok (.iload_n 2, 1) := by decide +kernel
theorem dX11_number_1 : decode cX11_number 1 = .ok (.ifCond .ge 9, 3) := by decide +kernel
theorem dX11_number_4 : decode cX11_number 4 = .ok (.aload_n 0, 1) := by decide +kernel
theorem dX11_number_5 : decode cX11_number 5 = .ok (.iconst 1, 1) := by decide +kernel
theorem dX11_number_6 : decode cX11_number 6 = .ok (.invokevirtual 110, 3) := by decide +kernel
theorem dX11_number_9 : decode cX11_number 9 = .ok (.ireturn, 1) := by decide +kernel
theorem dX11_number_10 : decode cX11_number 10 = .ok (.aload_n 0, 1) := by decide +kernel
theorem dX11_number_11 : decode cX11_number 11 = .ok (.getfield 12, 3) := by decide +kernel
theorem dX11_number_14 : decode cX11_number 14 = .ok (.iload_n 1, 1) := by decide +kernel
theorem dX11_number_15 : decode cX11_number 15 = .ok (.aload_n 0, 1) := by decide +kernel
theorem dX11_number_16 : decode cX11_number 16 = .ok (.getfield 62, 3) := by decide +kernel
theorem dX11_number_19 : decode cX11_number 19 = .ok (.invokevirtual 169, 3) := by decide +kernel
theorem dX11_number_22 : decode cX11_number 22 = .ok (.ifCond .ne 9, 3) := by decide +kernel
theorem dX11_number_25 : decode cX11_number 25 = .ok (.aload_n 0, 1) := by decide +kernel
theorem dX11_number_26 : decode cX11_number 26 = .ok (.iconst 2, 1) := by decide +kernel
theorem dX11_number_27 : decode cX11_number 27 = .ok (.invokevirtual 110, 3) := by decide +kernel
theorem dX11_number_30 : decode cX11_number 30 = .ok (.ireturn, 1) := by decide +kernel
theorem dX11_number_31 : decode cX11_number 31 = .ok (.iload_n 2, 1) := by decide +kernel
theorem dX11_number_32 : decode cX11_number 32 = .ok (.aload_n 0, 1) := by decide +kernel
theorem dX11_number_33 : decode cX11_number 33 = .ok (.getfield 62, 3) := by decide +kernel
theorem dX11_number_36 : decode cX11_number 36 = .ok (.invokevirtual 180, 3) := by decide +kernel
theorem dX11_number_39 : decode cX11_number 39 = .ok (.if_icmp .le 11, 3) := by decide +kernel
theorem dX11_number_42 : decode cX11_number 42 = .ok (.aload_n 0, 1) := by decide +kernel
theorem dX11_number_43 : decode cX11_number 43 = .ok (.iconst 5, 1) := by decide +kernel
theorem dX11_number_44 : decode cX11_number 44 = .ok (.invokevirtual 110, 3) := by decide +kernel
theorem dX11_number_47 : decode cX11_number 47 = .ok (.goto 15, 3) := by decide +kernel
theorem dX11_number_50 : decode cX11_number 50 = .ok (.aload_n 0, 1) := by decide +kernel
theorem dX11_number_51 : decode cX11_number 51 = .ok (.aload_n 0, 1) := by decide +kernel
theorem dX11_number_52 : decode cX11_number 52 = .ok (.getfield 62, 3) := by decide +kernel
theorem dX11_number_55 : decode cX11_number 55 = .ok (.iload_n 2, 1) := by decide +kernel
theorem dX11_number_56 : decode cX11_number 56 = .ok (.invokevirtual 195, 3) := by decide +kernel
theorem dX11_number_59 : decode cX11_number 59 = .ok (.invokevirtual 133, 3) := by decide +kernel
theorem dX11_number_62 : decode cX11_number 62 = .ok (.ireturn, 1) := by decide +kernel
theorem dX11_step_0 : decode cX11_step 0 = .ok (.iload_n 2, 1) := by decide +kernel
theorem dX11_step_1 : decode cX11_step 1 = .ok (.ifCond .ge 9, 3) := by decide +kernel
theorem dX11_step_4 : decode cX11_step 4 = .ok (.aload_n 0, 1) := by decide +kernel
theorem dX11_step_5 : decode cX11_step 5 = .ok (.iconst 1, 1) := by decide +kernel
theorem dX11_step_6 : decode cX11_step 6 = .ok (.invokevirtual 110, 3) := by decide +kernel
theorem dX11_step_9 : decode cX11_step 9 = .ok (.ireturn, 1) := by decide +kernel
theorem dX11_step_10 : decode cX11_step 10 = .ok (.aload_n 0, 1) := by decide +kernel
theorem dX11_step_11 : decode cX11_step 11 = .ok (.getfield 12, 3) := by decide +kernel
theorem dX11_step_14 : decode cX11_step 14 = .ok (.iload_n 1, 1) := by decide +kernel
theorem dX11_step_15 : decode cX11_step 15 = .ok (.aload_n 0, 1) := by decide +kernel
theorem dX11_step_16 : decode cX11_step 16 = .ok (.getfield 62, 3) := by decide +kernel
theorem dX11_step_19 : decode cX11_step 19 = .ok (.invokevirtual 169, 3) := by decide +kernel
theorem dX11_step_22 : decode cX11_step 22 = .ok (.ifCond .ne 9, 3) := by decide +kernel
theorem dX11_step_25 : decode cX11_step 25 = .ok (.aload_n 0, 1) := by decide +kernel
theorem dX11_step_26 : decode cX11_step 26 = .ok (.iconst 2, 1) := by decide +kernel
theorem dX11_step_27 : decode cX11_step 27 = .ok (.invokevirtual 110, 3) := by decide +kernel
theorem dX11_step_30 : decode cX11_step 30 = .ok (.ireturn, 1) := by decide +kernel
theorem dX11_step_31 : decode cX11_step 31 = .ok (.iload_n 2, 1) := by decide +kernel
theorem dX11_step_32 : decode cX11_step 32 = .ok (.aload_n 0, 1) := by decide +kernel
theorem dX11_step_33 : decode cX11_step 33 = .ok (.getfield 62, 3) := by decide +kernel
theorem dX11_step_36 : decode cX11_step 36 = .ok (.invokevirtual 180, 3) := by decide +kernel
theorem dX11_step_39 : decode cX11_step 39 = .ok (.if_icmp .lt 11, 3) := by decide +kernel
theorem dX11_step_42 : decode cX11_step 42 = .ok (.aload_n 0, 1) := by decide +kernel
theorem dX11_step_43 : decode cX11_step 43 = .ok (.iconst 5, 1) := by decide +kernel
theorem dX11_step_44 : decode cX11_step 44 = .ok (.invokevirtual 110, 3) := by decide +kernel
theorem dX11_step_47 : decode cX11_step 47 = .ok (.goto 15, 3) := by decide +kernel
theorem dX11_step_50 : decode cX11_step 50 = .ok (.aload_n 0, 1) := by decide +kernel
theorem dX11_step_51 : decode cX11_step 51 = .ok (.aload_n 0, 1) := by decide +kernel
theorem dX11_step_52 : decode cX11_step 52 = .ok (.getfield 62, 3) := by decide +kernel
theorem dX11_step_55 : decode cX11_step 55 = .ok (.iload_n 2, 1) := by decide +kernel
theorem dX11_step_56 : decode cX11_step 56 = .ok (.invokevirtual 198, 3) := by decide +kernel
theorem dX11_step_59 : decode cX11_step 59 = .ok (.invokevirtual 133, 3) := by decide +kernel
theorem dX11_step_62 : decode cX11_step 62 = .ok (.ireturn, 1) := by decide +kernel
theorem dX11_take_0 : decode cX11_take 0 = .ok (.iload_n 2, 1) := by decide +kernel
theorem dX11_take_1 : decode cX11_take 1 = .ok (.ifCond .ge 9, 3) := by decide +kernel
theorem dX11_take_4 : decode cX11_take 4 = .ok (.aload_n 0, 1) := by decide +kernel
theorem dX11_take_5 : decode cX11_take 5 = .ok (.iconst 1, 1) := by decide +kernel
theorem dX11_take_6 : decode cX11_take 6 = .ok (.invokevirtual 110, 3) := by decide +kernel
theorem dX11_take_9 : decode cX11_take 9 = .ok (.ireturn, 1) := by decide +kernel
theorem dX11_take_10 : decode cX11_take 10 = .ok (.aload_n 0, 1) := by decide +kernel
theorem dX11_take_11 : decode cX11_take 11 = .ok (.getfield 12, 3) := by decide +kernel
theorem dX11_take_14 : decode cX11_take 14 = .ok (.iload_n 1, 1) := by decide +kernel
theorem dX11_take_15 : decode cX11_take 15 = .ok (.invokevirtual 152, 3) := by decide +kernel
theorem dX11_take_18 : decode cX11_take 18 = .ok (.ifCond .ne 9, 3) := by decide +kernel
theorem dX11_take_21 : decode cX11_take 21 = .ok (.aload_n 0, 1) := by decide +kernel
theorem dX11_take_22 : decode cX11_take 22 = .ok (.iconst 2, 1) := by decide +kernel
theorem dX11_take_23 : decode cX11_take 23 = .ok (.invokevirtual 110, 3) := by decide +kernel
theorem dX11_take_26 : decode cX11_take 26 = .ok (.ireturn, 1) := by decide +kernel
theorem dX11_take_27 : decode cX11_take 27 = .ok (.aload_n 0, 1) := by decide +kernel
theorem dX11_take_28 : decode cX11_take 28 = .ok (.getfield 12, 3) := by decide +kernel
theorem dX11_take_31 : decode cX11_take 31 = .ok (.invokevirtual 201, 3) := by decide +kernel
theorem dX11_take_34 : decode cX11_take 34 = .ok (.ifCond .eq 9, 3) := by decide +kernel
theorem dX11_take_37 : decode cX11_take 37 = .ok (.aload_n 0, 1) := by decide +kernel
theorem dX11_take_38 : decode cX11_take 38 = .ok (.iconst 3, 1) := by decide +kernel
theorem dX11_take_39 : decode cX11_take 39 = .ok (.invokevirtual 110, 3) := by decide +kernel
theorem dX11_take_42 : decode cX11_take 42 = .ok (.ireturn, 1) := by decide +kernel
theorem dX11_take_43 : decode cX11_take 43 = .ok (.aload_n 0, 1) := by decide +kernel
theorem dX11_take_44 : decode cX11_take 44 = .ok (.getfield 69, 3) := by decide +kernel
theorem dX11_take_47 : decode cX11_take 47 = .ok (.iload_n 1, 1) := by decide +kernel
theorem dX11_take_48 : decode cX11_take 48 = .ok (.iload_n 2, 1) := by decide +kernel
theorem dX11_take_49 : decode cX11_take 49 = .ok (.aload_n 0, 1) := by decide +kernel
theorem dX11_take_50 : decode cX11_take 50 = .ok (.getfield 12, 3) := by decide +kernel
theorem dX11_take_53 : decode cX11_take 53 = .ok (.iload_n 1, 1) := by decide +kernel
theorem dX11_take_54 : decode cX11_take 54 = .ok (.invokevirtual 156, 3) := by decide +kernel
theorem dX11_take_57 : decode cX11_take 57 = .ok (.invokestatic 205, 3) := by decide +kernel
theorem dX11_take_60 : decode cX11_take 60 = .ok (.invokevirtual 208, 3) := by decide +kernel
theorem dX11_take_63 : decode cX11_take 63 = .ok (.aload_n 0, 1) := by decide +kernel
theorem dX11_take_64 : decode cX11_take 64 = .ok (.aload_n 0, 1) := by decide +kernel
theorem dX11_take_65 : decode cX11_take 65 = .ok (.getfield 69, 3) := by decide +kernel
theorem dX11_take_68 : decode cX11_take 68 = .ok (.invokevirtual 212, 3) := by decide +kernel
theorem dX11_take_71 : decode cX11_take 71 = .ok (.ireturn, 1) := by decide +kernel
theorem dX11_form_0 : decode cX11_form 0 = .ok (.aload_n 0, 1) := by decide +kernel
theorem dX11_form_1 : decode cX11_form 1 = .ok (.getfield 12, 3) := by decide +kernel
theorem dX11_form_4 : decode cX11_form 4 = .ok (.iload_n 1, 1) := by decide +kernel
theorem dX11_form_5 : decode cX11_form 5 = .ok (.aload_n 0, 1) := by decide +kernel
theorem dX11_form_6 : decode cX11_form 6 = .ok (.getfield 62, 3) := by decide +kernel
theorem dX11_form_9 : decode cX11_form 9 = .ok (.invokevirtual 169, 3) := by decide +kernel
theorem dX11_form_12 : decode cX11_form 12 = .ok (.ifCond .ne 9, 3) := by decide +kernel
theorem dX11_form_15 : decode cX11_form 15 = .ok (.aload_n 0, 1) := by decide +kernel
theorem dX11_form_16 : decode cX11_form 16 = .ok (.iconst 2, 1) := by decide +kernel
theorem dX11_form_17 : decode cX11_form 17 = .ok (.invokevirtual 110, 3) := by decide +kernel
theorem dX11_form_20 : decode cX11_form 20 = .ok (.ireturn, 1) := by decide +kernel
theorem dX11_form_21 : decode cX11_form 21 = .ok (.aload_n 0, 1) := by decide +kernel
theorem dX11_form_22 : decode cX11_form 22 = .ok (.getfield 12, 3) := by decide +kernel
theorem dX11_form_25 : decode cX11_form 25 = .ok (.aload_n 0, 1) := by decide +kernel
theorem dX11_form_26 : decode cX11_form 26 = .ok (.getfield 62, 3) := by decide +kernel
theorem dX11_form_29 : decode cX11_form 29 = .ok (.aload_n 0, 1) := by decide +kernel
theorem dX11_form_30 : decode cX11_form 30 = .ok (.getfield 69, 3) := by decide +kernel
theorem dX11_form_33 : decode cX11_form 33 = .ok (.invokestatic 181, 3) := by decide +kernel
theorem dX11_form_36 : decode cX11_form 36 = .ok (.pop, 1) := by decide +kernel
theorem dX11_form_37 : decode cX11_form 37 = .ok (.aload_n 0, 1) := by decide +kernel
theorem dX11_form_38 : decode cX11_form 38 = .ok (.getfield 19, 3) := by decide +kernel
theorem dX11_form_41 : decode cX11_form 41 = .ok (.aload_n 0, 1) := by decide +kernel
theorem dX11_form_42 : decode cX11_form 42 = .ok (.getfield 12, 3) := by decide +kernel
theorem dX11_form_45 : decode cX11_form 45 = .ok (.invokevirtual 118, 3) := by decide +kernel
theorem dX11_form_48 : decode cX11_form 48 = .ok (.aload_n 0, 1) := by decide +kernel
theorem dX11_form_49 : decode cX11_form 49 = .ok (.getfield 12, 3) := by decide +kernel
theorem dX11_form_52 : decode cX11_form 52 = .ok (.iload_n 1, 1) := by decide +kernel
theorem dX11_form_53 : decode cX11_form 53 = .ok (.aload_n 0, 1) := by decide +kernel
theorem dX11_form_54 : decode cX11_form 54 = .ok (.getfield 69, 3) := by decide +kernel
theorem dX11_form_57 : decode cX11_form 57 = .ok (.invokevirtual 215, 3) := by decide +kernel
theorem dX11_form_60 : decode cX11_form 60 = .ok (.aload_n 0, 1) := by decide +kernel
theorem dX11_form_61 : decode cX11_form 61 = .ok (.aload_n 0, 1) := by decide +kernel
theorem dX11_form_62 : decode cX11_form 62 = .ok (.getfield 69, 3) := by decide +kernel
theorem dX11_form_65 : decode cX11_form 65 = .ok (.invokevirtual 180, 3) := by decide +kernel
theorem dX11_form_68 : decode cX11_form 68 = .ok (.invokevirtual 133, 3) := by decide +kernel
theorem dX11_form_71 : decode cX11_form 71 = .ok (.ireturn, 1) := by decide +kernel
theorem dX11_times_0 : decode cX11_times 0 = .ok (.aload_n 0, 1) := by decide +kernel
theorem dX11_times_1 : decode cX11_times 1 = .ok (.iload_n 1, 1) := by decide +kernel
theorem dX11_times_2 : decode cX11_times 2 = .ok (.iload_n 2, 1) := by decide +kernel
theorem dX11_times_3 : decode cX11_times 3 = .ok (.invokevirtual 219, 3) := by decide +kernel
theorem dX11_times_6 : decode cX11_times 6 = .ok (.ifCond .ne 9, 3) := by decide +kernel
theorem dX11_times_9 : decode cX11_times 9 = .ok (.aload_n 0, 1) := by decide +kernel
theorem dX11_times_10 : decode cX11_times 10 = .ok (.iconst 2, 1) := by decide +kernel
theorem dX11_times_11 : decode cX11_times 11 = .ok (.invokevirtual 110, 3) := by decide +kernel
theorem dX11_times_14 : decode cX11_times 14 = .ok (.ireturn, 1) := by decide +kernel
theorem dX11_times_15 : decode cX11_times 15 = .ok (.aload_n 0, 1) := by decide +kernel
theorem dX11_times_16 : decode cX11_times 16 = .ok (.getfield 12, 3) := by decide +kernel
theorem dX11_times_19 : decode cX11_times 19 = .ok (.invokevirtual 201, 3) := by decide +kernel
theorem dX11_times_22 : decode cX11_times 22 = .ok (.ifCond .eq 9, 3) := by decide +kernel
theorem dX11_times_25 : decode cX11_times 25 = .ok (.aload_n 0, 1) := by decide +kernel
theorem dX11_times_26 : decode cX11_times 26 = .ok (.iconst 3, 1) := by decide +kernel
theorem dX11_times_27 : decode cX11_times 27 = .ok (.invokevirtual 110, 3) := by decide +kernel
theorem dX11_times_30 : decode cX11_times 30 = .ok (.ireturn, 1) := by decide +kernel
theorem dX11_times_31 : decode cX11_times 31 = .ok (.aload_n 0, 1) := by decide +kernel
theorem dX11_times_32 : decode cX11_times 32 = .ok (.getfield 12, 3) := by decide +kernel
theorem dX11_times_35 : decode cX11_times 35 = .ok (.aload_n 0, 1) := by decide +kernel
theorem dX11_times_36 : decode cX11_times 36 = .ok (.getfield 62, 3) := by decide +kernel
theorem dX11_times_39 : decode cX11_times 39 = .ok (.invokevirtual 176, 3) := by decide +kernel
theorem dX11_times_42 : decode cX11_times 42 = .ok (.aload_n 0, 1) := by decide +kernel
theorem dX11_times_43 : decode cX11_times 43 = .ok (.getfield 66, 3) := by decide +kernel
theorem dX11_times_46 : decode cX11_times 46 = .ok (.invokevirtual 173, 3) := by decide +kernel
theorem dX11_times_49 : decode cX11_times 49 = .ok (.if_icmp .eq 9, 3) := by decide +kernel
theorem dX11_times_52 : decode cX11_times 52 = .ok (.aload_n 0, 1) := by decide +kernel
theorem dX11_times_53 : decode cX11_times 53 = .ok (.iconst 4, 1) := by decide +kernel
theorem dX11_times_54 : decode cX11_times 54 = .ok (.invokevirtual 110, 3) := by decide +kernel
theorem dX11_times_57 : decode cX11_times 57 = .ok (.ireturn, 1) := by decide +kernel
theorem dX11_times_58 : decode cX11_times 58 = .ok (.aload_n 0, 1) := by decide +kernel
theorem dX11_times_59 : decode cX11_times 59 = .ok (.getfield 12, 3) := by decide +kernel
theorem dX11_times_62 : decode cX11_times 62 = .ok (.aload_n 0, 1) := by decide +kernel
theorem dX11_times_63 : decode cX11_times 63 = .ok (.getfield 62, 3) := by decide +kernel
theorem dX11_times_66 : decode cX11_times 66 = .ok (.aload_n 0, 1) := by decide +kernel
theorem dX11_times_67 : decode cX11_times 67 = .ok (.getfield 66, 3) := by decide +kernel
theorem dX11_times_70 : decode cX11_times 70 = .ok (.aload_n 0, 1) := by decide +kernel
theorem dX11_times_71 : decode cX11_times 71 = .ok (.getfield 69, 3) := by decide +kernel
theorem dX11_times_74 : decode cX11_times 74 = .ok (.invokestatic 223, 3) := by decide +kernel
theorem dX11_times_77 : decode cX11_times 77 = .ok (.aload_n 0, 1) := by decide +kernel
theorem dX11_times_78 : decode cX11_times 78 = .ok (.getfield 69, 3) := by decide +kernel
theorem dX11_times_81 : decode cX11_times 81 = .ok (.invokevirtual 180, 3) := by decide +kernel
theorem dX11_times_84 : decode cX11_times 84 = .ok (.bipush 24, 2) := by decide +kernel
theorem dX11_times_86 : decode cX11_times 86 = .ok (.if_icmp .le 12, 3) := by decide +kernel
theorem dX11_times_89 : decode cX11_times 89 = .ok (.aload_n 0, 1) := by decide +kernel
theorem dX11_times_90 : decode cX11_times 90 = .ok (.bipush 6, 2) := by decide +kernel
theorem dX11_times_92 : decode cX11_times 92 = .ok (.invokevirtual 110, 3) := by decide +kernel
theorem dX11_times_95 : decode cX11_times 95 = .ok (.goto 11, 3) := by decide +kernel
theorem dX11_times_98 : decode cX11_times 98 = .ok (.aload_n 0, 1) := by decide +kernel
theorem dX11_times_99 : decode cX11_times 99 = .ok (.aload_n 0, 1) := by decide +kernel
theorem dX11_times_100 : decode cX11_times 100 = .ok (.getfield 69, 3) := by decide +kernel
theorem dX11_times_103 : decode cX11_times 103 = .ok (.invokevirtual 212, 3) := by decide +kernel
theorem dX11_times_106 : decode cX11_times 106 = .ok (.ireturn, 1) := by decide +kernel
theorem dX11_turned_0 : decode cX11_turned 0 = .ok (.aload_n 0, 1) := by decide +kernel
theorem dX11_turned_1 : decode cX11_turned 1 = .ok (.getfield 12, 3) := by decide +kernel
theorem dX11_turned_4 : decode cX11_turned 4 = .ok (.iload_n 1, 1) := by decide +kernel
theorem dX11_turned_5 : decode cX11_turned 5 = .ok (.aload_n 0, 1) := by decide +kernel
theorem dX11_turned_6 : decode cX11_turned 6 = .ok (.getfield 62, 3) := by decide +kernel
theorem dX11_turned_9 : decode cX11_turned 9 = .ok (.invokevirtual 169, 3) := by decide +kernel
theorem dX11_turned_12 : decode cX11_turned 12 = .ok (.ifCond .ne 9, 3) := by decide +kernel
theorem dX11_turned_15 : decode cX11_turned 15 = .ok (.aload_n 0, 1) := by decide +kernel
theorem dX11_turned_16 : decode cX11_turned 16 = .ok (.iconst 2, 1) := by decide +kernel
theorem dX11_turned_17 : decode cX11_turned 17 = .ok (.invokevirtual 110, 3) := by decide +kernel
theorem dX11_turned_20 : decode cX11_turned 20 = .ok (.ireturn, 1) := by decide +kernel
theorem dX11_turned_21 : decode cX11_turned 21 = .ok (.aload_n 0, 1) := by decide +kernel
theorem dX11_turned_22 : decode cX11_turned 22 = .ok (.getfield 12, 3) := by decide +kernel
theorem dX11_turned_25 : decode cX11_turned 25 = .ok (.invokevirtual 201, 3) := by decide +kernel
theorem dX11_turned_28 : decode cX11_turned 28 = .ok (.ifCond .eq 9, 3) := by decide +kernel
theorem dX11_turned_31 : decode cX11_turned 31 = .ok (.aload_n 0, 1) := by decide +kernel
theorem dX11_turned_32 : decode cX11_turned 32 = .ok (.iconst 3, 1) := by decide +kernel
theorem dX11_turned_33 : decode cX11_turned 33 = .ok (.invokevirtual 110, 3) := by decide +kernel
theorem dX11_turned_36 : decode cX11_turned 36 = .ok (.ireturn, 1) := by decide +kernel
theorem dX11_turned_37 : decode cX11_turned 37 = .ok (.aload_n 0, 1) := by decide +kernel
theorem dX11_turned_38 : decode cX11_turned 38 = .ok (.getfield 12, 3) := by decide +kernel
theorem dX11_turned_41 : decode cX11_turned 41 = .ok (.aload_n 0, 1) := by decide +kernel
theorem dX11_turned_42 : decode cX11_turned 42 = .ok (.getfield 62, 3) := by decide +kernel
theorem dX11_turned_45 : decode cX11_turned 45 = .ok (.aload_n 0, 1) := by decide +kernel
theorem dX11_turned_46 : decode cX11_turned 46 = .ok (.getfield 69, 3) := by decide +kernel
theorem dX11_turned_49 : decode cX11_turned 49 = .ok (.invokestatic 227, 3) := by decide +kernel
theorem dX11_turned_52 : decode cX11_turned 52 = .ok (.aload_n 0, 1) := by decide +kernel
theorem dX11_turned_53 : decode cX11_turned 53 = .ok (.aload_n 0, 1) := by decide +kernel
theorem dX11_turned_54 : decode cX11_turned 54 = .ok (.getfield 69, 3) := by decide +kernel
theorem dX11_turned_57 : decode cX11_turned 57 = .ok (.invokevirtual 212, 3) := by decide +kernel
theorem dX11_turned_60 : decode cX11_turned 60 = .ok (.ireturn, 1) := by decide +kernel
theorem dX11_power_0 : decode cX11_power 0 = .ok (.iload_n 2, 1) := by decide +kernel
theorem dX11_power_1 : decode cX11_power 1 = .ok (.bipush (-9), 2) := by decide +kernel
theorem dX11_power_3 : decode cX11_power 3 = .ok (.if_icmp .lt 9, 3) := by decide +kernel
theorem dX11_power_6 : decode cX11_power 6 = .ok (.iload_n 2, 1) := by decide +kernel
theorem dX11_power_7 : decode cX11_power 7 = .ok (.bipush 9, 2) := by decide +kernel
theorem dX11_power_9 : decode cX11_power 9 = .ok (.if_icmp .le 9, 3) := by decide +kernel
theorem dX11_power_12 : decode cX11_power 12 = .ok (.aload_n 0, 1) := by decide +kernel
theorem dX11_power_13 : decode cX11_power 13 = .ok (.iconst 1, 1) := by decide +kernel
theorem dX11_power_14 : decode cX11_power 14 = .ok (.invokevirtual 110, 3) := by decide +kernel
theorem dX11_power_17 : decode cX11_power 17 = .ok (.ireturn, 1) := by decide +kernel
theorem dX11_power_18 : decode cX11_power 18 = .ok (.aload_n 0, 1) := by decide +kernel
theorem dX11_power_19 : decode cX11_power 19 = .ok (.iload_n 1, 1) := by decide +kernel
theorem dX11_power_20 : decode cX11_power 20 = .ok (.invokevirtual 231, 3) := by decide +kernel
theorem dX11_power_23 : decode cX11_power 23 = .ok (.istore_n 3, 1) := by decide +kernel
theorem dX11_power_24 : decode cX11_power 24 = .ok (.iload_n 3, 1) := by decide +kernel
theorem dX11_power_25 : decode cX11_power 25 = .ok (.ifCond .eq 9, 3) := by decide +kernel
theorem dX11_power_28 : decode cX11_power 28 = .ok (.aload_n 0, 1) := by decide +kernel
theorem dX11_power_29 : decode cX11_power 29 = .ok (.iload_n 3, 1) := by decide +kernel
theorem dX11_power_30 : decode cX11_power 30 = .ok (.invokevirtual 110, 3) := by decide +kernel
theorem dX11_power_33 : decode cX11_power 33 = .ok (.ireturn, 1) := by decide +kernel
theorem dX11_power_34 : decode cX11_power 34 = .ok (.aload_n 0, 1) := by decide +kernel
theorem dX11_power_35 : decode cX11_power 35 = .ok (.getfield 69, 3) := by decide +kernel
theorem dX11_power_38 : decode cX11_power 38 = .ok (.aload_n 0, 1) := by decide +kernel
theorem dX11_power_39 : decode cX11_power 39 = .ok (.getfield 62, 3) := by decide +kernel
theorem dX11_power_42 : decode cX11_power 42 = .ok (.invokevirtual 173, 3) := by decide +kernel
theorem dX11_power_45 : decode cX11_power 45 = .ok (.iconst 0, 1) := by decide +kernel
theorem dX11_power_46 : decode cX11_power 46 = .ok (.invokevirtual 208, 3) := by decide +kernel
theorem dX11_power_49 : decode cX11_power 49 = .ok (.iconst 0, 1) := by decide +kernel
theorem dX11_power_50 : decode cX11_power 50 = .ok (.istore 4, 2) := by decide +kernel
theorem dX11_power_52 : decode cX11_power 52 = .ok (.iload 4, 2) := by decide +kernel
theorem dX11_power_54 : decode cX11_power 54 = .ok (.iload_n 2, 1) := by decide +kernel
theorem dX11_power_55 : decode cX11_power 55 = .ok (.invokestatic 234, 3) := by decide +kernel
theorem dX11_power_58 : decode cX11_power 58 = .ok (.if_icmp .ge 66, 3) := by decide +kernel
theorem dX11_power_61 : decode cX11_power 61 = .ok (.iload_n 2, 1) := by decide +kernel
theorem dX11_power_62 : decode cX11_power 62 = .ok (.ifCond .le 22, 3) := by decide +kernel
theorem dX11_power_65 : decode cX11_power 65 = .ok (.aload_n 0, 1) := by decide +kernel
theorem dX11_power_66 : decode cX11_power 66 = .ok (.getfield 12, 3) := by decide +kernel
theorem dX11_power_69 : decode cX11_power 69 = .ok (.aload_n 0, 1) := by decide +kernel
theorem dX11_power_70 : decode cX11_power 70 = .ok (.getfield 69, 3) := by decide +kernel
theorem dX11_power_73 : decode cX11_power 73 = .ok (.aload_n 0, 1) := by decide +kernel
theorem dX11_power_74 : decode cX11_power 74 = .ok (.getfield 62, 3) := by decide +kernel
theorem dX11_power_77 : decode cX11_power 77 = .ok (.invokestatic 239, 3) := by decide +kernel
theorem dX11_power_80 : decode cX11_power 80 = .ok (.pop, 1) := by decide +kernel
theorem dX11_power_81 : decode cX11_power 81 = .ok (.goto 18, 3) := by decide +kernel
theorem dX11_power_84 : decode cX11_power 84 = .ok (.aload_n 0, 1) := by decide +kernel
theorem dX11_power_85 : decode cX11_power 85 = .ok (.getfield 12, 3) := by decide +kernel
theorem dX11_power_88 : decode cX11_power 88 = .ok (.aload_n 0, 1) := by decide +kernel
theorem dX11_power_89 : decode cX11_power 89 = .ok (.getfield 69, 3) := by decide +kernel
theorem dX11_power_92 : decode cX11_power 92 = .ok (.aload_n 0, 1) := by decide +kernel
theorem dX11_power_93 : decode cX11_power 93 = .ok (.getfield 62, 3) := by decide +kernel
theorem dX11_power_96 : decode cX11_power 96 = .ok (.invokestatic 242, 3) := by decide +kernel
theorem dX11_power_99 : decode cX11_power 99 = .ok (.aload_n 0, 1) := by decide +kernel
theorem dX11_power_100 : decode cX11_power 100 = .ok (.getfield 69, 3) := by decide +kernel
theorem dX11_power_103 : decode cX11_power 103 = .ok (.invokevirtual 180, 3) := by decide +kernel
theorem dX11_power_106 : decode cX11_power 106 = .ok (.bipush 24, 2) := by decide +kernel
theorem dX11_power_108 : decode cX11_power 108 = .ok (.if_icmp .le 10, 3) := by decide +kernel
theorem dX11_power_111 : decode cX11_power 111 = .ok (.aload_n 0, 1) := by decide +kernel
theorem dX11_power_112 : decode cX11_power 112 = .ok (.bipush 6, 2) := by decide +kernel
theorem dX11_power_114 : decode cX11_power 114 = .ok (.invokevirtual 110, 3) := by decide +kernel
theorem dX11_power_117 : decode cX11_power 117 = .ok (.ireturn, 1) := by decide +kernel
theorem dX11_power_118 : decode cX11_power 118 = .ok (.iinc 4 1, 3) := by decide +kernel
theorem dX11_power_121 : decode cX11_power 121 = .ok (.goto (-69), 3) := by decide +kernel
theorem dX11_power_124 : decode cX11_power 124 = .ok (.aload_n 0, 1) := by decide +kernel
theorem dX11_power_125 : decode cX11_power 125 = .ok (.aload_n 0, 1) := by decide +kernel
theorem dX11_power_126 : decode cX11_power 126 = .ok (.getfield 69, 3) := by decide +kernel
theorem dX11_power_129 : decode cX11_power 129 = .ok (.invokevirtual 212, 3) := by decide +kernel
theorem dX11_power_132 : decode cX11_power 132 = .ok (.ireturn, 1) := by decide +kernel
theorem dX11_core_0 : decode cX11_core 0 = .ok (.aload_n 0, 1) := by decide +kernel
theorem dX11_core_1 : decode cX11_core 1 = .ok (.iload_n 1, 1) := by decide +kernel
theorem dX11_core_2 : decode cX11_core 2 = .ok (.invokevirtual 231, 3) := by decide +kernel
theorem dX11_core_5 : decode cX11_core 5 = .ok (.istore_n 2, 1) := by decide +kernel
theorem dX11_core_6 : decode cX11_core 6 = .ok (.iload_n 2, 1) := by decide +kernel
theorem dX11_core_7 : decode cX11_core 7 = .ok (.ifCond .eq 9, 3) := by decide +kernel
theorem dX11_core_10 : decode cX11_core 10 = .ok (.aload_n 0, 1) := by decide +kernel
theorem dX11_core_11 : decode cX11_core 11 = .ok (.iload_n 2, 1) := by decide +kernel
theorem dX11_core_12 : decode cX11_core 12 = .ok (.invokevirtual 110, 3) := by decide +kernel
theorem dX11_core_15 : decode cX11_core 15 = .ok (.ireturn, 1) := by decide +kernel
theorem dX11_core_16 : decode cX11_core 16 = .ok (.aload_n 0, 1) := by decide +kernel
theorem dX11_core_17 : decode cX11_core 17 = .ok (.getfield 12, 3) := by decide +kernel
theorem dX11_core_20 : decode cX11_core 20 = .ok (.aload_n 0, 1) := by decide +kernel
theorem dX11_core_21 : decode cX11_core 21 = .ok (.getfield 62, 3) := by decide +kernel
theorem dX11_core_24 : decode cX11_core 24 = .ok (.aload_n 0, 1) := by decide +kernel
theorem dX11_core_25 : decode cX11_core 25 = .ok (.getfield 69, 3) := by decide +kernel
theorem dX11_core_28 : decode cX11_core 28 = .ok (.aload_n 0, 1) := by decide +kernel
theorem dX11_core_29 : decode cX11_core 29 = .ok (.getfield 75, 3) := by decide +kernel
theorem dX11_core_32 : decode cX11_core 32 = .ok (.invokestatic 245, 3) := by decide +kernel
theorem dX11_core_35 : decode cX11_core 35 = .ok (.aload_n 0, 1) := by decide +kernel
theorem dX11_core_36 : decode cX11_core 36 = .ok (.aload_n 0, 1) := by decide +kernel
theorem dX11_core_37 : decode cX11_core 37 = .ok (.getfield 69, 3) := by decide +kernel
theorem dX11_core_40 : decode cX11_core 40 = .ok (.invokevirtual 212, 3) := by decide +kernel
theorem dX11_core_43 : decode cX11_core 43 = .ok (.ireturn, 1) := by decide +kernel
theorem dX11_spell_0 : decode cX11_spell 0 = .ok (.iload_n 2, 1) := by decide +kernel
theorem dX11_spell_1 : decode cX11_spell 1 = .ok (.ifCond .lt 13, 3) := by decide +kernel
theorem dX11_spell_4 : decode cX11_spell 4 = .ok (.iload_n 2, 1) := by decide +kernel
theorem dX11_spell_5 : decode cX11_spell 5 = .ok (.bipush 12, 2) := by decide +kernel
theorem dX11_spell_7 : decode cX11_spell 7 = .ok (.if_icmp .gt 7, 3) := by decide +kernel
theorem dX11_spell_10 : decode cX11_spell 10 = .ok (.iload_n 3, 1) := by decide +kernel
theorem dX11_spell_11 : decode cX11_spell 11 = .ok (.ifCond .ge 9, 3) := by decide +kernel
theorem dX11_spell_14 : decode cX11_spell 14 = .ok (.aload_n 0, 1) := by decide +kernel
theorem dX11_spell_15 : decode cX11_spell 15 = .ok (.iconst 1, 1) := by decide +kernel
theorem dX11_spell_16 : decode cX11_spell 16 = .ok (.invokevirtual 110, 3) := by decide +kernel
theorem dX11_spell_19 : decode cX11_spell 19 = .ok (.ireturn, 1) := by decide +kernel
theorem dX11_spell_20 : decode cX11_spell 20 = .ok (.aload_n 0, 1) := by decide +kernel
theorem dX11_spell_21 : decode cX11_spell 21 = .ok (.getfield 12, 3) := by decide +kernel
theorem dX11_spell_24 : decode cX11_spell 24 = .ok (.iload_n 1, 1) := by decide +kernel
theorem dX11_spell_25 : decode cX11_spell 25 = .ok (.invokevirtual 152, 3) := by decide +kernel
theorem dX11_spell_28 : decode cX11_spell 28 = .ok (.ifCond .ne 9, 3) := by decide +kernel
theorem dX11_spell_31 : decode cX11_spell 31 = .ok (.aload_n 0, 1) := by decide +kernel
theorem dX11_spell_32 : decode cX11_spell 32 = .ok (.iconst 2, 1) := by decide +kernel
theorem dX11_spell_33 : decode cX11_spell 33 = .ok (.invokevirtual 110, 3) := by decide +kernel
theorem dX11_spell_36 : decode cX11_spell 36 = .ok (.ireturn, 1) := by decide +kernel
theorem dX11_spell_37 : decode cX11_spell 37 = .ok (.aload_n 0, 1) := by decide +kernel
theorem dX11_spell_38 : decode cX11_spell 38 = .ok (.getfield 12, 3) := by decide +kernel
theorem dX11_spell_41 : decode cX11_spell 41 = .ok (.invokevirtual 201, 3) := by decide +kernel
theorem dX11_spell_44 : decode cX11_spell 44 = .ok (.ifCond .eq 9, 3) := by decide +kernel
theorem dX11_spell_47 : decode cX11_spell 47 = .ok (.aload_n 0, 1) := by decide +kernel
theorem dX11_spell_48 : decode cX11_spell 48 = .ok (.iconst 3, 1) := by decide +kernel
theorem dX11_spell_49 : decode cX11_spell 49 = .ok (.invokevirtual 110, 3) := by decide +kernel
theorem dX11_spell_52 : decode cX11_spell 52 = .ok (.ireturn, 1) := by decide +kernel
theorem dX11_spell_53 : decode cX11_spell 53 = .ok (.iload_n 3, 1) := by decide +kernel
theorem dX11_spell_54 : decode cX11_spell 54 = .ok (.i2l, 1) := by decide +kernel
theorem dX11_spell_55 : decode cX11_spell 55 = .ok (.aload_n 0, 1) := by decide +kernel
theorem dX11_spell_56 : decode cX11_spell 56 = .ok (.getfield 102, 3) := by decide +kernel
theorem dX11_spell_59 : decode cX11_spell 59 = .ok (.aload_n 0, 1) := by decide +kernel
theorem dX11_spell_60 : decode cX11_spell 60 = .ok (.getfield 12, 3) := by decide +kernel
theorem dX11_spell_63 : decode cX11_spell 63 = .ok (.iload_n 1, 1) := by decide +kernel
theorem dX11_spell_64 : decode cX11_spell 64 = .ok (.iload_n 2, 1) := by decide +kernel
theorem dX11_spell_65 : decode cX11_spell 65 = .ok (.invokevirtual 248, 3) := by decide +kernel
theorem dX11_spell_68 : decode cX11_spell 68 = .ok (.lcmp, 1) := by decide +kernel
theorem dX11_spell_69 : decode cX11_spell 69 = .ok (.ifCond .lt 9, 3) := by decide +kernel
theorem dX11_spell_72 : decode cX11_spell 72 = .ok (.aload_n 0, 1) := by decide +kernel
theorem dX11_spell_73 : decode cX11_spell 73 = .ok (.iconst 5, 1) := by decide +kernel
theorem dX11_spell_74 : decode cX11_spell 74 = .ok (.invokevirtual 110, 3) := by decide +kernel
theorem dX11_spell_77 : decode cX11_spell 77 = .ok (.ireturn, 1) := by decide +kernel
theorem dX11_spell_78 : decode cX11_spell 78 = .ok (.aload_n 0, 1) := by decide +kernel
theorem dX11_spell_79 : decode cX11_spell 79 = .ok (.getfield 102, 3) := by decide +kernel
theorem dX11_spell_82 : decode cX11_spell 82 = .ok (.aload_n 0, 1) := by decide +kernel
theorem dX11_spell_83 : decode cX11_spell 83 = .ok (.getfield 12, 3) := by decide +kernel
theorem dX11_spell_86 : decode cX11_spell 86 = .ok (.iload_n 1, 1) := by decide +kernel
theorem dX11_spell_87 : decode cX11_spell 87 = .ok (.iload_n 2, 1) := by decide +kernel
theorem dX11_spell_88 : decode cX11_spell 88 = .ok (.iload_n 3, 1) := by decide +kernel
theorem dX11_spell_89 : decode cX11_spell 89 = .ok (.aload_n 0, 1) := by decide +kernel
theorem dX11_spell_90 : decode cX11_spell 90 = .ok (.getfield 69, 3) := by decide +kernel
theorem dX11_spell_93 : decode cX11_spell 93 = .ok (.invokevirtual 252, 3) := by decide +kernel
theorem dX11_spell_96 : decode cX11_spell 96 = .ok (.aload_n 0, 1) := by decide +kernel
theorem dX11_spell_97 : decode cX11_spell 97 = .ok (.aload_n 0, 1) := by decide +kernel
theorem dX11_spell_98 : decode cX11_spell 98 = .ok (.getfield 69, 3) := by decide +kernel
theorem dX11_spell_101 : decode cX11_spell 101 = .ok (.invokevirtual 212, 3) := by decide +kernel
theorem dX11_spell_104 : decode cX11_spell 104 = .ok (.ireturn, 1) := by decide +kernel
theorem dX11_drop_0 : decode cX11_drop 0 = .ok (.aload_n 0, 1) := by decide +kernel
theorem dX11_drop_1 : decode cX11_drop 1 = .ok (.getfield 12, 3) := by decide +kernel
theorem dX11_drop_4 : decode cX11_drop 4 = .ok (.iload_n 1, 1) := by decide +kernel
theorem dX11_drop_5 : decode cX11_drop 5 = .ok (.invokevirtual 256, 3) := by decide +kernel
theorem dX11_drop_8 : decode cX11_drop 8 = .ok (.ifCond .ne 9, 3) := by decide +kernel
theorem dX11_drop_11 : decode cX11_drop 11 = .ok (.aload_n 0, 1) := by decide +kernel
theorem dX11_drop_12 : decode cX11_drop 12 = .ok (.iconst 2, 1) := by decide +kernel
theorem dX11_drop_13 : decode cX11_drop 13 = .ok (.invokevirtual 110, 3) := by decide +kernel
theorem dX11_drop_16 : decode cX11_drop 16 = .ok (.ireturn, 1) := by decide +kernel
theorem dX11_drop_17 : decode cX11_drop 17 = .ok (.aload_n 0, 1) := by decide +kernel
theorem dX11_drop_18 : decode cX11_drop 18 = .ok (.getfield 19, 3) := by decide +kernel
theorem dX11_drop_21 : decode cX11_drop 21 = .ok (.aload_n 0, 1) := by decide +kernel
theorem dX11_drop_22 : decode cX11_drop 22 = .ok (.getfield 12, 3) := by decide +kernel
theorem dX11_drop_25 : decode cX11_drop 25 = .ok (.invokevirtual 118, 3) := by decide +kernel
theorem dX11_drop_28 : decode cX11_drop 28 = .ok (.aload_n 0, 1) := by decide +kernel
theorem dX11_drop_29 : decode cX11_drop 29 = .ok (.getfield 12, 3) := by decide +kernel
theorem dX11_drop_32 : decode cX11_drop 32 = .ok (.iload_n 1, 1) := by decide +kernel
theorem dX11_drop_33 : decode cX11_drop 33 = .ok (.invokevirtual 259, 3) := by decide +kernel
theorem dX11_drop_36 : decode cX11_drop 36 = .ok (.aload_n 0, 1) := by decide +kernel
theorem dX11_drop_37 : decode cX11_drop 37 = .ok (.aload_n 0, 1) := by decide +kernel
theorem dX11_drop_38 : decode cX11_drop 38 = .ok (.getfield 12, 3) := by decide +kernel
theorem dX11_drop_41 : decode cX11_drop 41 = .ok (.invokevirtual 129, 3) := by decide +kernel
theorem dX11_drop_44 : decode cX11_drop 44 = .ok (.invokevirtual 133, 3) := by decide +kernel
theorem dX11_drop_47 : decode cX11_drop 47 = .ok (.ireturn, 1) := by decide +kernel
theorem dX11_undo_0 : decode cX11_undo 0 = .ok (.aload_n 0, 1) := by decide +kernel
theorem dX11_undo_1 : decode cX11_undo 1 = .ok (.getfield 19, 3) := by decide +kernel
theorem dX11_undo_4 : decode cX11_undo 4 = .ok (.aload_n 0, 1) := by decide +kernel
theorem dX11_undo_5 : decode cX11_undo 5 = .ok (.getfield 12, 3) := by decide +kernel
theorem dX11_undo_8 : decode cX11_undo 8 = .ok (.invokevirtual 262, 3) := by decide +kernel
theorem dX11_undo_11 : decode cX11_undo 11 = .ok (.ifCond .ne 9, 3) := by decide +kernel
theorem dX11_undo_14 : decode cX11_undo 14 = .ok (.aload_n 0, 1) := by decide +kernel
theorem dX11_undo_15 : decode cX11_undo 15 = .ok (.iconst 5, 1) := by decide +kernel
theorem dX11_undo_16 : decode cX11_undo 16 = .ok (.invokevirtual 110, 3) := by decide +kernel
theorem dX11_undo_19 : decode cX11_undo 19 = .ok (.ireturn, 1) := by decide +kernel
theorem dX11_undo_20 : decode cX11_undo 20 = .ok (.aload_n 0, 1) := by decide +kernel
theorem dX11_undo_21 : decode cX11_undo 21 = .ok (.aload_n 0, 1) := by decide +kernel
theorem dX11_undo_22 : decode cX11_undo 22 = .ok (.getfield 19, 3) := by decide +kernel
theorem dX11_undo_25 : decode cX11_undo 25 = .ok (.invokevirtual 145, 3) := by decide +kernel
theorem dX11_undo_28 : decode cX11_undo 28 = .ok (.invokevirtual 133, 3) := by decide +kernel
theorem dX11_undo_31 : decode cX11_undo 31 = .ok (.ireturn, 1) := by decide +kernel
theorem dX11_mark_0 : decode cX11_mark 0 = .ok (.aload_n 0, 1) := by decide +kernel
theorem dX11_mark_1 : decode cX11_mark 1 = .ok (.getfield 31, 3) := by decide +kernel
theorem dX11_mark_4 : decode cX11_mark 4 = .ok (.ifCond .lt 11, 3) := by decide +kernel
theorem dX11_mark_7 : decode cX11_mark 7 = .ok (.aload_n 0, 1) := by decide +kernel
theorem dX11_mark_8 : decode cX11_mark 8 = .ok (.getfield 31, 3) := by decide +kernel
theorem dX11_mark_11 : decode cX11_mark 11 = .ok (.iconst 3, 1) := by decide +kernel
theorem dX11_mark_12 : decode cX11_mark 12 = .ok (.if_icmp .lt 9, 3) := by decide +kernel
theorem dX11_mark_15 : decode cX11_mark 15 = .ok (.aload_n 0, 1) := by decide +kernel
theorem dX11_mark_16 : decode cX11_mark 16 = .ok (.iconst 3, 1) := by decide +kernel
theorem dX11_mark_17 : decode cX11_mark 17 = .ok (.invokevirtual 110, 3) := by decide +kernel
theorem dX11_mark_20 : decode cX11_mark 20 = .ok (.ireturn, 1) := by decide +kernel
theorem dX11_mark_21 : decode cX11_mark 21 = .ok (.aload_n 0, 1) := by decide +kernel
theorem dX11_mark_22 : decode cX11_mark 22 = .ok (.getfield 23, 3) := by decide +kernel
theorem dX11_mark_25 : decode cX11_mark 25 = .ok (.aload_n 0, 1) := by decide +kernel
theorem dX11_mark_26 : decode cX11_mark 26 = .ok (.getfield 31, 3) := by decide +kernel
theorem dX11_mark_29 : decode cX11_mark 29 = .ok (.aaload, 1) := by decide +kernel
theorem dX11_mark_30 : decode cX11_mark 30 = .ok (.astore_n 1, 1) := by decide +kernel
theorem dX11_mark_31 : decode cX11_mark 31 = .ok (.aload_n 0, 1) := by decide +kernel
theorem dX11_mark_32 : decode cX11_mark 32 = .ok (.getfield 27, 3) := by decide +kernel
theorem dX11_mark_35 : decode cX11_mark 35 = .ok (.aload_n 0, 1) := by decide +kernel
theorem dX11_mark_36 : decode cX11_mark 36 = .ok (.getfield 31, 3) := by decide +kernel
theorem dX11_mark_39 : decode cX11_mark 39 = .ok (.aaload, 1) := by decide +kernel
theorem dX11_mark_40 : decode cX11_mark 40 = .ok (.astore_n 2, 1) := by decide +kernel
theorem dX11_mark_41 : decode cX11_mark 41 = .ok (.aload_n 1, 1) := by decide +kernel
theorem dX11_mark_42 : decode cX11_mark 42 = .ok (.ifnull 7, 3) := by decide +kernel
theorem dX11_mark_45 : decode cX11_mark 45 = .ok (.aload_n 2, 1) := by decide +kernel
theorem dX11_mark_46 : decode cX11_mark 46 = .ok (.ifnonnull 9, 3) := by decide +kernel
theorem dX11_mark_55 : decode cX11_mark 55 = .ok (.aload_n 1, 1) := by decide +kernel
theorem dX11_mark_56 : decode cX11_mark 56 = .ok (.aload_n 0, 1) := by decide +kernel
theorem dX11_mark_57 : decode cX11_mark 57 = .ok (.getfield 12, 3) := by decide +kernel
theorem dX11_mark_60 : decode cX11_mark 60 = .ok (.invokevirtual 126, 3) := by decide +kernel
theorem dX11_mark_63 : decode cX11_mark 63 = .ok (.aload_n 2, 1) := by decide +kernel
theorem dX11_mark_64 : decode cX11_mark 64 = .ok (.aload_n 0, 1) := by decide +kernel
theorem dX11_mark_65 : decode cX11_mark 65 = .ok (.getfield 19, 3) := by decide +kernel
theorem dX11_mark_68 : decode cX11_mark 68 = .ok (.invokevirtual 266, 3) := by decide +kernel
theorem dX11_mark_71 : decode cX11_mark 71 = .ok (.aload_n 0, 1) := by decide +kernel
theorem dX11_mark_72 : decode cX11_mark 72 = .ok (.dup, 1) := by decide +kernel
theorem dX11_mark_73 : decode cX11_mark 73 = .ok (.getfield 31, 3) := by decide +kernel
theorem dX11_mark_76 : decode cX11_mark 76 = .ok (.iconst 1, 1) := by decide +kernel
theorem dX11_mark_77 : decode cX11_mark 77 = .ok (.iadd, 1) := by decide +kernel
theorem dX11_mark_78 : decode cX11_mark 78 = .ok (.putfield 31, 3) := by decide +kernel
theorem dX11_mark_81 : decode cX11_mark 81 = .ok (.aload_n 0, 1) := by decide +kernel
theorem dX11_mark_82 : decode cX11_mark 82 = .ok (.aload_n 0, 1) := by decide +kernel
theorem dX11_mark_83 : decode cX11_mark 83 = .ok (.getfield 31, 3) := by decide +kernel
theorem dX11_mark_86 : decode cX11_mark 86 = .ok (.invokevirtual 133, 3) := by decide +kernel
theorem dX11_mark_89 : decode cX11_mark 89 = .ok (.ireturn, 1) := by decide +kernel
theorem dX11_back_0 : decode cX11_back 0 = .ok (.aload_n 0, 1) := by decide +kernel
theorem dX11_back_1 : decode cX11_back 1 = .ok (.getfield 31, 3) := by decide +kernel
theorem dX11_back_4 : decode cX11_back 4 = .ok (.iconst 1, 1) := by decide +kernel
theorem dX11_back_5 : decode cX11_back 5 = .ok (.isub, 1) := by decide +kernel
theorem dX11_back_6 : decode cX11_back 6 = .ok (.istore_n 1, 1) := by decide +kernel
theorem dX11_back_7 : decode cX11_back 7 = .ok (.iload_n 1, 1) := by decide +kernel
theorem dX11_back_8 : decode cX11_back 8 = .ok (.ifCond .lt 8, 3) := by decide +kernel
theorem dX11_back_11 : decode cX11_back 11 = .ok (.iload_n 1, 1) := by decide +kernel
theorem dX11_back_12 : decode cX11_back 12 = .ok (.iconst 3, 1) := by decide +kernel
theorem dX11_back_13 : decode cX11_back 13 = .ok (.if_icmp .lt 9, 3) := by decide +kernel
theorem dX11_back_16 : decode cX11_back 16 = .ok (.aload_n 0, 1) := by decide +kernel
theorem dX11_back_17 : decode cX11_back 17 = .ok (.iconst 5, 1) := by decide +kernel
theorem dX11_back_18 : decode cX11_back 18 = .ok (.invokevirtual 110, 3) := by decide +kernel
theorem dX11_back_21 : decode cX11_back 21 = .ok (.ireturn, 1) := by decide +kernel
theorem dX11_back_22 : decode cX11_back 22 = .ok (.aload_n 0, 1) := by decide +kernel
theorem dX11_back_23 : decode cX11_back 23 = .ok (.getfield 23, 3) := by decide +kernel
theorem dX11_back_26 : decode cX11_back 26 = .ok (.iload_n 1, 1) := by decide +kernel
theorem dX11_back_27 : decode cX11_back 27 = .ok (.aaload, 1) := by decide +kernel
theorem dX11_back_28 : decode cX11_back 28 = .ok (.astore_n 2, 1) := by decide +kernel
theorem dX11_back_29 : decode cX11_back 29 = .ok (.aload_n 0, 1) := by decide +kernel
theorem dX11_back_30 : decode cX11_back 30 = .ok (.getfield 27, 3) := by decide +kernel
theorem dX11_back_33 : decode cX11_back 33 = .ok (.iload_n 1, 1) := by decide +kernel
theorem dX11_back_34 : decode cX11_back 34 = .ok (.aaload, 1) := by decide +kernel
theorem dX11_back_35 : decode cX11_back 35 = .ok (.astore_n 3, 1) := by decide +kernel
theorem dX11_back_36 : decode cX11_back 36 = .ok (.aload_n 2, 1) := by decide +kernel
theorem dX11_back_37 : decode cX11_back 37 = .ok (.ifnull 7, 3) := by decide +kernel
theorem dX11_back_40 : decode cX11_back 40 = .ok (.aload_n 3, 1) := by decide +kernel
theorem dX11_back_41 : decode cX11_back 41 = .ok (.ifnonnull 9, 3) := by decide +kernel
theorem dX11_back_50 : decode cX11_back 50 = .ok (.aload_n 0, 1) := by decide +kernel
theorem dX11_back_51 : decode cX11_back 51 = .ok (.getfield 12, 3) := by decide +kernel
theorem dX11_back_54 : decode cX11_back 54 = .ok (.aload_n 2, 1) := by decide +kernel
theorem dX11_back_55 : decode cX11_back 55 = .ok (.invokevirtual 126, 3) := by decide +kernel
theorem dX11_back_58 : decode cX11_back 58 = .ok (.aload_n 0, 1) := by decide +kernel
theorem dX11_back_59 : decode cX11_back 59 = .ok (.getfield 19, 3) := by decide +kernel
theorem dX11_back_62 : decode cX11_back 62 = .ok (.aload_n 3, 1) := by decide +kernel
theorem dX11_back_63 : decode cX11_back 63 = .ok (.invokevirtual 266, 3) := by decide +kernel
theorem dX11_back_66 : decode cX11_back 66 = .ok (.aload_n 0, 1) := by decide +kernel
theorem dX11_back_67 : decode cX11_back 67 = .ok (.iload_n 1, 1) := by decide +kernel
theorem dX11_back_68 : decode cX11_back 68 = .ok (.putfield 31, 3) := by decide +kernel
theorem dX11_back_71 : decode cX11_back 71 = .ok (.aload_n 0, 1) := by decide +kernel
theorem dX11_back_72 : decode cX11_back 72 = .ok (.aload_n 0, 1) := by decide +kernel
theorem dX11_back_73 : decode cX11_back 73 = .ok (.getfield 31, 3) := by decide +kernel
theorem dX11_back_76 : decode cX11_back 76 = .ok (.invokevirtual 133, 3) := by decide +kernel
theorem dX11_back_79 : decode cX11_back 79 = .ok (.ireturn, 1) := by decide +kernel
theorem dX11_alike_0 : decode cX11_alike 0 = .ok (.aload_n 0, 1) := by decide +kernel
theorem dX11_alike_1 : decode cX11_alike 1 = .ok (.iload_n 1, 1) := by decide +kernel
theorem dX11_alike_2 : decode cX11_alike 2 = .ok (.iload_n 2, 1) := by decide +kernel
theorem dX11_alike_3 : decode cX11_alike 3 = .ok (.invokevirtual 219, 3) := by decide +kernel
theorem dX11_alike_6 : decode cX11_alike 6 = .ok (.ifCond .ne 9, 3) := by decide +kernel
theorem dX11_alike_9 : decode cX11_alike 9 = .ok (.aload_n 0, 1) := by decide +kernel
theorem dX11_alike_10 : decode cX11_alike 10 = .ok (.iconst 2, 1) := by decide +kernel
theorem dX11_alike_11 : decode cX11_alike 11 = .ok (.invokevirtual 110, 3) := by decide +kernel
theorem dX11_alike_14 : decode cX11_alike 14 = .ok (.ireturn, 1) := by decide +kernel
theorem dX11_alike_15 : decode cX11_alike 15 = .ok (.aload_n 0, 1) := by decide +kernel
theorem dX11_alike_16 : decode cX11_alike 16 = .ok (.getfield 12, 3) := by decide +kernel
theorem dX11_alike_19 : decode cX11_alike 19 = .ok (.aload_n 0, 1) := by decide +kernel
theorem dX11_alike_20 : decode cX11_alike 20 = .ok (.getfield 62, 3) := by decide +kernel
theorem dX11_alike_23 : decode cX11_alike 23 = .ok (.aload_n 0, 1) := by decide +kernel
theorem dX11_alike_24 : decode cX11_alike 24 = .ok (.getfield 69, 3) := by decide +kernel
theorem dX11_alike_27 : decode cX11_alike 27 = .ok (.invokestatic 181, 3) := by decide +kernel
theorem dX11_alike_30 : decode cX11_alike 30 = .ok (.pop, 1) := by decide +kernel
theorem dX11_alike_31 : decode cX11_alike 31 = .ok (.aload_n 0, 1) := by decide +kernel
theorem dX11_alike_32 : decode cX11_alike 32 = .ok (.aload_n 0, 1) := by decide +kernel
theorem dX11_alike_33 : decode cX11_alike 33 = .ok (.aload_n 0, 1) := by decide +kernel
theorem dX11_alike_34 : decode cX11_alike 34 = .ok (.getfield 66, 3) := by decide +kernel
theorem dX11_alike_37 : decode cX11_alike 37 = .ok (.aload_n 0, 1) := by decide +kernel
theorem dX11_alike_38 : decode cX11_alike 38 = .ok (.getfield 69, 3) := by decide +kernel
theorem dX11_alike_41 : decode cX11_alike 41 = .ok (.invokevirtual 269, 3) := by decide +kernel
theorem dX11_alike_44 : decode cX11_alike 44 = .ok (.invokestatic 191, 3) := by decide +kernel
theorem dX11_alike_47 : decode cX11_alike 47 = .ok (.invokevirtual 133, 3) := by decide +kernel
theorem dX11_alike_50 : decode cX11_alike 50 = .ok (.ireturn, 1) := by decide +kernel
theorem dX11_steps_0 : decode cX11_steps 0 = .ok (.aload_n 0, 1) := by decide +kernel
theorem dX11_steps_1 : decode cX11_steps 1 = .ok (.getfield 12, 3) := by decide +kernel
theorem dX11_steps_4 : decode cX11_steps 4 = .ok (.iload_n 1, 1) := by decide +kernel
theorem dX11_steps_5 : decode cX11_steps 5 = .ok (.aload_n 0, 1) := by decide +kernel
theorem dX11_steps_6 : decode cX11_steps 6 = .ok (.getfield 62, 3) := by decide +kernel
theorem dX11_steps_9 : decode cX11_steps 9 = .ok (.invokevirtual 169, 3) := by decide +kernel
theorem dX11_steps_12 : decode cX11_steps 12 = .ok (.ifCond .ne 9, 3) := by decide +kernel
theorem dX11_steps_15 : decode cX11_steps 15 = .ok (.aload_n 0, 1) := by decide +kernel
theorem dX11_steps_16 : decode cX11_steps 16 = .ok (.iconst 2, 1) := by decide +kernel
theorem dX11_steps_17 : decode cX11_steps 17 = .ok (.invokevirtual 110, 3) := by decide +kernel
theorem dX11_steps_20 : decode cX11_steps 20 = .ok (.ireturn, 1) := by decide +kernel
theorem dX11_steps_21 : decode cX11_steps 21 = .ok (.aload_n 0, 1) := by decide +kernel
theorem dX11_steps_22 : decode cX11_steps 22 = .ok (.getfield 12, 3) := by decide +kernel
theorem dX11_steps_25 : decode cX11_steps 25 = .ok (.aload_n 0, 1) := by decide +kernel
theorem dX11_steps_26 : decode cX11_steps 26 = .ok (.getfield 62, 3) := by decide +kernel
theorem dX11_steps_29 : decode cX11_steps 29 = .ok (.aload_n 0, 1) := by decide +kernel
theorem dX11_steps_30 : decode cX11_steps 30 = .ok (.getfield 69, 3) := by decide +kernel
theorem dX11_steps_33 : decode cX11_steps 33 = .ok (.invokestatic 181, 3) := by decide +kernel
theorem dX11_steps_36 : decode cX11_steps 36 = .ok (.pop, 1) := by decide +kernel
theorem dX11_steps_37 : decode cX11_steps 37 = .ok (.aload_n 0, 1) := by decide +kernel
theorem dX11_steps_38 : decode cX11_steps 38 = .ok (.aload_n 0, 1) := by decide +kernel
theorem dX11_steps_39 : decode cX11_steps 39 = .ok (.getfield 69, 3) := by decide +kernel
theorem dX11_steps_42 : decode cX11_steps 42 = .ok (.invokevirtual 180, 3) := by decide +kernel
theorem dX11_steps_45 : decode cX11_steps 45 = .ok (.invokevirtual 133, 3) := by decide +kernel
theorem dX11_steps_48 : decode cX11_steps 48 = .ok (.ireturn, 1) := by decide +kernel
theorem dX11_length_0 : decode cX11_length 0 = .ok (.aload_n 0, 1) := by decide +kernel
theorem dX11_length_1 : decode cX11_length 1 = .ok (.iload_n 1, 1) := by decide +kernel
theorem dX11_length_2 : decode cX11_length 2 = .ok (.invokevirtual 273, 3) := by decide +kernel
theorem dX11_length_5 : decode cX11_length 5 = .ok (.istore_n 2, 1) := by decide +kernel
theorem dX11_length_6 : decode cX11_length 6 = .ok (.iload_n 2, 1) := by decide +kernel
theorem dX11_length_7 : decode cX11_length 7 = .ok (.ifCond .eq 11, 3) := by decide +kernel
theorem dX11_length_10 : decode cX11_length 10 = .ok (.aload_n 0, 1) := by decide +kernel
theorem dX11_length_11 : decode cX11_length 11 = .ok (.iload_n 2, 1) := by decide +kernel
theorem dX11_length_12 : decode cX11_length 12 = .ok (.invokevirtual 110, 3) := by decide +kernel
theorem dX11_length_15 : decode cX11_length 15 = .ok (.goto 14, 3) := by decide +kernel
theorem dX11_length_18 : decode cX11_length 18 = .ok (.aload_n 0, 1) := by decide +kernel
theorem dX11_length_19 : decode cX11_length 19 = .ok (.aload_n 0, 1) := by decide +kernel
theorem dX11_length_20 : decode cX11_length 20 = .ok (.getfield 69, 3) := by decide +kernel
theorem dX11_length_23 : decode cX11_length 23 = .ok (.invokevirtual 180, 3) := by decide +kernel
theorem dX11_length_26 : decode cX11_length 26 = .ok (.invokevirtual 133, 3) := by decide +kernel
theorem dX11_length_29 : decode cX11_length 29 = .ok (.ireturn, 1) := by decide +kernel
theorem dX11_orderOf_0 : decode cX11_orderOf 0 = .ok (.aload_n 0, 1) := by decide +kernel
theorem dX11_orderOf_1 : decode cX11_orderOf 1 = .ok (.iload_n 1, 1) := by decide +kernel
theorem dX11_orderOf_2 : decode cX11_orderOf 2 = .ok (.invokevirtual 273, 3) := by decide +kernel
theorem dX11_orderOf_5 : decode cX11_orderOf 5 = .ok (.istore_n 2, 1) := by decide +kernel
theorem dX11_orderOf_6 : decode cX11_orderOf 6 = .ok (.iload_n 2, 1) := by decide +kernel
theorem dX11_orderOf_7 : decode cX11_orderOf 7 = .ok (.ifCond .eq 9, 3) := by decide +kernel
theorem dX11_orderOf_10 : decode cX11_orderOf 10 = .ok (.aload_n 0, 1) := by decide +kernel
theorem dX11_orderOf_11 : decode cX11_orderOf 11 = .ok (.iload_n 2, 1) := by decide +kernel
theorem dX11_orderOf_12 : decode cX11_orderOf 12 = .ok (.invokevirtual 110, 3) := by decide +kernel
theorem dX11_orderOf_15 : decode cX11_orderOf 15 = .ok (.ireturn, 1) := by decide +kernel
theorem dX11_orderOf_16 : decode cX11_orderOf 16 = .ok (.aload_n 0, 1) := by decide +kernel
theorem dX11_orderOf_17 : decode cX11_orderOf 17 = .ok (.getfield 69, 3) := by decide +kernel
theorem dX11_orderOf_20 : decode cX11_orderOf 20 = .ok (.invokevirtual 180, 3) := by decide +kernel
theorem dX11_orderOf_23 : decode cX11_orderOf 23 = .ok (.ifCond .le 9, 3) := by decide +kernel
theorem dX11_orderOf_26 : decode cX11_orderOf 26 = .ok (.aload_n 0, 1) := by decide +kernel
theorem dX11_orderOf_27 : decode cX11_orderOf 27 = .ok (.iconst 0, 1) := by decide +kernel
theorem dX11_orderOf_28 : decode cX11_orderOf 28 = .ok (.invokevirtual 133, 3) := by decide +kernel
theorem dX11_orderOf_31 : decode cX11_orderOf 31 = .ok (.ireturn, 1) := by decide +kernel
theorem dX11_orderOf_32 : decode cX11_orderOf 32 = .ok (.aload_n 0, 1) := by decide +kernel
theorem dX11_orderOf_33 : decode cX11_orderOf 33 = .ok (.aload_n 0, 1) := by decide +kernel
theorem dX11_orderOf_34 : decode cX11_orderOf 34 = .ok (.getfield 69, 3) := by decide +kernel
theorem dX11_orderOf_37 : decode cX11_orderOf 37 = .ok (.iconst 0, 1) := by decide +kernel
theorem dX11_orderOf_38 : decode cX11_orderOf 38 = .ok (.invokevirtual 195, 3) := by decide +kernel
theorem dX11_orderOf_41 : decode cX11_orderOf 41 = .ok (.aload_n 0, 1) := by decide +kernel
theorem dX11_orderOf_42 : decode cX11_orderOf 42 = .ok (.getfield 12, 3) := by decide +kernel
theorem dX11_orderOf_45 : decode cX11_orderOf 45 = .ok (.aload_n 0, 1) := by decide +kernel
theorem dX11_orderOf_46 : decode cX11_orderOf 46 = .ok (.getfield 69, 3) := by decide +kernel
theorem dX11_orderOf_49 : decode cX11_orderOf 49 = .ok (.invokevirtual 173, 3) := by decide +kernel
theorem dX11_orderOf_52 : decode cX11_orderOf 52 = .ok (.invokevirtual 156, 3) := by decide +kernel
theorem dX11_orderOf_55 : decode cX11_orderOf 55 = .ok (.invokestatic 276, 3) := by decide +kernel
theorem dX11_orderOf_58 : decode cX11_orderOf 58 = .ok (.invokevirtual 133, 3) := by decide +kernel
theorem dX11_orderOf_61 : decode cX11_orderOf 61 = .ok (.ireturn, 1) := by decide +kernel
theorem dX11_kin_0 : decode cX11_kin 0 = .ok (.aload_n 0, 1) := by decide +kernel
theorem dX11_kin_1 : decode cX11_kin 1 = .ok (.iload_n 1, 1) := by decide +kernel
theorem dX11_kin_2 : decode cX11_kin 2 = .ok (.iload_n 2, 1) := by decide +kernel
theorem dX11_kin_3 : decode cX11_kin 3 = .ok (.invokevirtual 279, 3) := by decide +kernel
theorem dX11_kin_6 : decode cX11_kin 6 = .ok (.istore_n 3, 1) := by decide +kernel
theorem dX11_kin_7 : decode cX11_kin 7 = .ok (.iload_n 3, 1) := by decide +kernel
theorem dX11_kin_8 : decode cX11_kin 8 = .ok (.ifCond .eq 9, 3) := by decide +kernel
theorem dX11_kin_11 : decode cX11_kin 11 = .ok (.aload_n 0, 1) := by decide +kernel
theorem dX11_kin_12 : decode cX11_kin 12 = .ok (.iload_n 3, 1) := by decide +kernel
theorem dX11_kin_13 : decode cX11_kin 13 = .ok (.invokevirtual 110, 3) := by decide +kernel
theorem dX11_kin_16 : decode cX11_kin 16 = .ok (.ireturn, 1) := by decide +kernel
theorem dX11_kin_17 : decode cX11_kin 17 = .ok (.aload_n 0, 1) := by decide +kernel
theorem dX11_kin_18 : decode cX11_kin 18 = .ok (.getfield 81, 3) := by decide +kernel
theorem dX11_kin_21 : decode cX11_kin 21 = .ok (.aload_n 0, 1) := by decide +kernel
theorem dX11_kin_22 : decode cX11_kin 22 = .ok (.getfield 12, 3) := by decide +kernel
theorem dX11_kin_25 : decode cX11_kin 25 = .ok (.aload_n 0, 1) := by decide +kernel
theorem dX11_kin_26 : decode cX11_kin 26 = .ok (.getfield 62, 3) := by decide +kernel
theorem dX11_kin_29 : decode cX11_kin 29 = .ok (.invokevirtual 282, 3) := by decide +kernel
theorem dX11_kin_32 : decode cX11_kin 32 = .ok (.aload_n 0, 1) := by decide +kernel
theorem dX11_kin_33 : decode cX11_kin 33 = .ok (.aload_n 0, 1) := by decide +kernel
theorem dX11_kin_34 : decode cX11_kin 34 = .ok (.getfield 81, 3) := by decide +kernel
theorem dX11_kin_37 : decode cX11_kin 37 = .ok (.aload_n 0, 1) := by decide +kernel
theorem dX11_kin_38 : decode cX11_kin 38 = .ok (.getfield 12, 3) := by decide +kernel
theorem dX11_kin_41 : decode cX11_kin 41 = .ok (.aload_n 0, 1) := by decide +kernel
theorem dX11_kin_42 : decode cX11_kin 42 = .ok (.getfield 66, 3) := by decide +kernel
theorem dX11_kin_45 : decode cX11_kin 45 = .ok (.invokevirtual 285, 3) := by decide +kernel
theorem dX11_kin_48 : decode cX11_kin 48 = .ok (.invokestatic 191, 3) := by decide +kernel
theorem dX11_kin_51 : decode cX11_kin 51 = .ok (.invokevirtual 133, 3) := by decide +kernel
theorem dX11_kin_54 : decode cX11_kin 54 = .ok (.ireturn, 1) := by decide +kernel
theorem dX11_kinBy_0 : decode cX11_kinBy 0 = .ok (.iload_n 3, 1) := by decide +kernel
theorem dX11_kinBy_1 : decode cX11_kinBy 1 = .ok (.ifCond .lt 8, 3) := by decide +kernel
theorem dX11_kinBy_4 : decode cX11_kinBy 4 = .ok (.iload_n 3, 1) := by decide +kernel
theorem dX11_kinBy_5 : decode cX11_kinBy 5 = .ok (.iconst 1, 1) := by decide +kernel
theorem dX11_kinBy_6 : decode cX11_kinBy 6 = .ok (.if_icmp .le 9, 3) := by decide +kernel
theorem dX11_kinBy_9 : decode cX11_kinBy 9 = .ok (.aload_n 0, 1) := by decide +kernel
theorem dX11_kinBy_10 : decode cX11_kinBy 10 = .ok (.iconst 1, 1) := by decide +kernel
theorem dX11_kinBy_11 : decode cX11_kinBy 11 = .ok (.invokevirtual 110, 3) := by decide +kernel
theorem dX11_kinBy_14 : decode cX11_kinBy 14 = .ok (.ireturn, 1) := by decide +kernel
theorem dX11_kinBy_15 : decode cX11_kinBy 15 = .ok (.aload_n 0, 1) := by decide +kernel
theorem dX11_kinBy_16 : decode cX11_kinBy 16 = .ok (.iload_n 1, 1) := by decide +kernel
theorem dX11_kinBy_17 : decode cX11_kinBy 17 = .ok (.iload_n 2, 1) := by decide +kernel
theorem dX11_kinBy_18 : decode cX11_kinBy 18 = .ok (.invokevirtual 279, 3) := by decide +kernel
theorem dX11_kinBy_21 : decode cX11_kinBy 21 = .ok (.istore 4, 2) := by decide +kernel
theorem dX11_kinBy_23 : decode cX11_kinBy 23 = .ok (.iload 4, 2) := by decide +kernel
theorem dX11_kinBy_25 : decode cX11_kinBy 25 = .ok (.ifCond .eq 10, 3) := by decide +kernel
theorem dX11_kinBy_28 : decode cX11_kinBy 28 = .ok (.aload_n 0, 1) := by decide +kernel
theorem dX11_kinBy_29 : decode cX11_kinBy 29 = .ok (.iload 4, 2) := by decide +kernel
theorem dX11_kinBy_31 : decode cX11_kinBy 31 = .ok (.invokevirtual 110, 3) := by decide +kernel
theorem dX11_kinBy_34 : decode cX11_kinBy 34 = .ok (.ireturn, 1) := by decide +kernel
theorem dX11_kinBy_35 : decode cX11_kinBy 35 = .ok (.aload_n 0, 1) := by decide +kernel
theorem dX11_kinBy_36 : decode cX11_kinBy 36 = .ok (.getfield 81, 3) := by decide +kernel
theorem dX11_kinBy_39 : decode cX11_kinBy 39 = .ok (.aload_n 0, 1) := by decide +kernel
theorem dX11_kinBy_40 : decode cX11_kinBy 40 = .ok (.getfield 12, 3) := by decide +kernel
theorem dX11_kinBy_43 : decode cX11_kinBy 43 = .ok (.aload_n 0, 1) := by decide +kernel
theorem dX11_kinBy_44 : decode cX11_kinBy 44 = .ok (.getfield 62, 3) := by decide +kernel
theorem dX11_kinBy_47 : decode cX11_kinBy 47 = .ok (.invokevirtual 282, 3) := by decide +kernel
theorem dX11_kinBy_50 : decode cX11_kinBy 50 = .ok (.aload_n 0, 1) := by decide +kernel
theorem dX11_kinBy_51 : decode cX11_kinBy 51 = .ok (.getfield 81, 3) := by decide +kernel
theorem dX11_kinBy_54 : decode cX11_kinBy 54 = .ok (.aload_n 0, 1) := by decide +kernel
theorem dX11_kinBy_55 : decode cX11_kinBy 55 = .ok (.getfield 12, 3) := by decide +kernel
theorem dX11_kinBy_58 : decode cX11_kinBy 58 = .ok (.aload_n 0, 1) := by decide +kernel
theorem dX11_kinBy_59 : decode cX11_kinBy 59 = .ok (.getfield 66, 3) := by decide +kernel
theorem dX11_kinBy_62 : decode cX11_kinBy 62 = .ok (.invokevirtual 285, 3) := by decide +kernel
theorem dX11_kinBy_65 : decode cX11_kinBy 65 = .ok (.ifCond .ne 9, 3) := by decide +kernel
theorem dX11_kinBy_68 : decode cX11_kinBy 68 = .ok (.aload_n 0, 1) := by decide +kernel
theorem dX11_kinBy_69 : decode cX11_kinBy 69 = .ok (.iconst 5, 1) := by decide +kernel
theorem dX11_kinBy_70 : decode cX11_kinBy 70 = .ok (.invokevirtual 110, 3) := by decide +kernel
theorem dX11_kinBy_73 : decode cX11_kinBy 73 = .ok (.ireturn, 1) := by decide +kernel
theorem dX11_kinBy_74 : decode cX11_kinBy 74 = .ok (.aload_n 0, 1) := by decide +kernel
theorem dX11_kinBy_75 : decode cX11_kinBy 75 = .ok (.iload_n 3, 1) := by decide +kernel
theorem dX11_kinBy_76 : decode cX11_kinBy 76 = .ok (.ifCond .ne 13, 3) := by decide +kernel
theorem dX11_kinBy_79 : decode cX11_kinBy 79 = .ok (.aload_n 0, 1) := by decide +kernel
theorem dX11_kinBy_80 : decode cX11_kinBy 80 = .ok (.getfield 81, 3) := by decide +kernel
theorem dX11_kinBy_83 : decode cX11_kinBy 83 = .ok (.invokevirtual 289, 3) := by decide +kernel
theorem dX11_kinBy_86 : decode cX11_kinBy 86 = .ok (.goto 10, 3) := by decide +kernel
theorem dX11_kinBy_89 : decode cX11_kinBy 89 = .ok (.aload_n 0, 1) := by decide +kernel
theorem dX11_kinBy_90 : decode cX11_kinBy 90 = .ok (.getfield 81, 3) := by decide +kernel
theorem dX11_kinBy_93 : decode cX11_kinBy 93 = .ok (.invokevirtual 292, 3) := by decide +kernel
theorem dX11_kinBy_96 : decode cX11_kinBy 96 = .ok (.invokevirtual 133, 3) := by decide +kernel
theorem dX11_kinBy_99 : decode cX11_kinBy 99 = .ok (.ireturn, 1) := by decide +kernel
theorem dX11_kins_0 : decode cX11_kins 0 = .ok (.aload_n 0, 1) := by decide +kernel
theorem dX11_kins_1 : decode cX11_kins 1 = .ok (.iload_n 1, 1) := by decide +kernel
theorem dX11_kins_2 : decode cX11_kins 2 = .ok (.invokevirtual 295, 3) := by decide +kernel
theorem dX11_kins_5 : decode cX11_kins 5 = .ok (.istore_n 2, 1) := by decide +kernel
theorem dX11_kins_6 : decode cX11_kins 6 = .ok (.iload_n 2, 1) := by decide +kernel
theorem dX11_kins_7 : decode cX11_kins 7 = .ok (.ifCond .eq 9, 3) := by decide +kernel
theorem dX11_kins_10 : decode cX11_kins 10 = .ok (.aload_n 0, 1) := by decide +kernel
theorem dX11_kins_11 : decode cX11_kins 11 = .ok (.iload_n 2, 1) := by decide +kernel
theorem dX11_kins_12 : decode cX11_kins 12 = .ok (.invokevirtual 110, 3) := by decide +kernel
theorem dX11_kins_15 : decode cX11_kins 15 = .ok (.ireturn, 1) := by decide +kernel
theorem dX11_kins_16 : decode cX11_kins 16 = .ok (.aload_n 0, 1) := by decide +kernel
theorem dX11_kins_17 : decode cX11_kins 17 = .ok (.getfield 81, 3) := by decide +kernel
theorem dX11_kins_20 : decode cX11_kins 20 = .ok (.aload_n 0, 1) := by decide +kernel
theorem dX11_kins_21 : decode cX11_kins 21 = .ok (.getfield 12, 3) := by decide +kernel
theorem dX11_kins_24 : decode cX11_kins 24 = .ok (.aload_n 0, 1) := by decide +kernel
theorem dX11_kins_25 : decode cX11_kins 25 = .ok (.getfield 62, 3) := by decide +kernel
theorem dX11_kins_28 : decode cX11_kins 28 = .ok (.invokevirtual 282, 3) := by decide +kernel
theorem dX11_kins_31 : decode cX11_kins 31 = .ok (.iconst 1, 1) := by decide +kernel
theorem dX11_kins_32 : decode cX11_kins 32 = .ok (.iload_n 1, 1) := by decide +kernel
theorem dX11_kins_33 : decode cX11_kins 33 = .ok (.ishl, 1) := by decide +kernel
theorem dX11_kins_34 : decode cX11_kins 34 = .ok (.istore_n 3, 1) := by decide +kernel
theorem dX11_kins_35 : decode cX11_kins 35 = .ok (.iconst 0, 1) := by decide +kernel
theorem dX11_kins_36 : decode cX11_kins 36 = .ok (.istore 4, 2) := by decide +kernel
theorem dX11_kins_38 : decode cX11_kins 38 = .ok (.iload 4, 2) := by decide +kernel
theorem dX11_kins_40 : decode cX11_kins 40 = .ok (.aload_n 0, 1) := by decide +kernel
theorem dX11_kins_41 : decode cX11_kins 41 = .ok (.getfield 12, 3) := by decide +kernel
theorem dX11_kins_44 : decode cX11_kins 44 = .ok (.invokevirtual 129, 3) := by decide +kernel
theorem dX11_kins_47 : decode cX11_kins 47 = .ok (.if_icmp .ge 70, 3) := by decide +kernel
theorem dX11_kins_50 : decode cX11_kins 50 = .ok (.iload 4, 2) := by decide +kernel
theorem dX11_kins_52 : decode cX11_kins 52 = .ok (.iload_n 1, 1) := by decide +kernel
theorem dX11_kins_53 : decode cX11_kins 53 = .ok (.if_icmp .eq 58, 3) := by decide +kernel
theorem dX11_kins_56 : decode cX11_kins 56 = .ok (.aload_n 0, 1) := by decide +kernel
theorem dX11_kins_57 : decode cX11_kins 57 = .ok (.getfield 12, 3) := by decide +kernel
theorem dX11_kins_60 : decode cX11_kins 60 = .ok (.iload 4, 2) := by decide +kernel
theorem dX11_kins_62 : decode cX11_kins 62 = .ok (.aload_n 0, 1) := by decide +kernel
theorem dX11_kins_63 : decode cX11_kins 63 = .ok (.getfield 66, 3) := by decide +kernel
theorem dX11_kins_66 : decode cX11_kins 66 = .ok (.invokevirtual 169, 3) := by decide +kernel
theorem dX11_kins_69 : decode cX11_kins 69 = .ok (.ifCond .eq 42, 3) := by decide +kernel
theorem dX11_kins_72 : decode cX11_kins 72 = .ok (.aload_n 0, 1) := by decide +kernel
theorem dX11_kins_73 : decode cX11_kins 73 = .ok (.getfield 12, 3) := by decide +kernel
theorem dX11_kins_76 : decode cX11_kins 76 = .ok (.aload_n 0, 1) := by decide +kernel
theorem dX11_kins_77 : decode cX11_kins 77 = .ok (.getfield 66, 3) := by decide +kernel
theorem dX11_kins_80 : decode cX11_kins 80 = .ok (.invokevirtual 298, 3) := by decide +kernel
theorem dX11_kins_83 : decode cX11_kins 83 = .ok (.ifCond .eq 28, 3) := by decide +kernel
theorem dX11_kins_86 : decode cX11_kins 86 = .ok (.aload_n 0, 1) := by decide +kernel
theorem dX11_kins_87 : decode cX11_kins 87 = .ok (.getfield 81, 3) := by decide +kernel
theorem dX11_kins_90 : decode cX11_kins 90 = .ok (.aload_n 0, 1) := by decide +kernel
theorem dX11_kins_91 : decode cX11_kins 91 = .ok (.getfield 12, 3) := by decide +kernel
theorem dX11_kins_94 : decode cX11_kins 94 = .ok (.aload_n 0, 1) := by decide +kernel
theorem dX11_kins_95 : decode cX11_kins 95 = .ok (.getfield 66, 3) := by decide +kernel
theorem dX11_kins_98 : decode cX11_kins 98 = .ok (.invokevirtual 285, 3) := by decide +kernel
theorem dX11_kins_101 : decode cX11_kins 101 = .ok (.ifCond .eq 10, 3) := by decide +kernel
theorem dX11_kins_104 : decode cX11_kins 104 = .ok (.iload_n 3, 1) := by decide +kernel
theorem dX11_kins_105 : decode cX11_kins 105 = .ok (.iconst 1, 1) := by decide +kernel
theorem dX11_kins_106 : decode cX11_kins 106 = .ok (.iload 4, 2) := by decide +kernel
theorem dX11_kins_108 : decode cX11_kins 108 = .ok (.ishl, 1) := by decide +kernel
theorem dX11_kins_109 : decode cX11_kins 109 = .ok (.ior, 1) := by decide +kernel
theorem dX11_kins_110 : decode cX11_kins 110 = .ok (.istore_n 3, 1) := by decide +kernel
theorem dX11_kins_111 : decode cX11_kins 111 = .ok (.iinc 4 1, 3) := by decide +kernel
theorem dX11_kins_114 : decode cX11_kins 114 = .ok (.goto (-76), 3) := by decide +kernel
theorem dX11_kins_117 : decode cX11_kins 117 = .ok (.aload_n 0, 1) := by decide +kernel
theorem dX11_kins_118 : decode cX11_kins 118 = .ok (.iload_n 3, 1) := by decide +kernel
theorem dX11_kins_119 : decode cX11_kins 119 = .ok (.invokevirtual 133, 3) := by decide +kernel
theorem dX11_kins_122 : decode cX11_kins 122 = .ok (.ireturn, 1) := by decide +kernel
theorem dX11_net_0 : decode cX11_net 0 = .ok (.aload_n 0, 1) := by decide +kernel
theorem dX11_net_1 : decode cX11_net 1 = .ok (.getfield 12, 3) := by decide +kernel
theorem dX11_net_4 : decode cX11_net 4 = .ok (.iload_n 2, 1) := by decide +kernel
theorem dX11_net_5 : decode cX11_net 5 = .ok (.invokevirtual 159, 3) := by decide +kernel
theorem dX11_net_8 : decode cX11_net 8 = .ok (.ifCond .eq 18, 3) := by decide +kernel
theorem dX11_net_11 : decode cX11_net 11 = .ok (.aload_n 0, 1) := by decide +kernel
theorem dX11_net_12 : decode cX11_net 12 = .ok (.getfield 12, 3) := by decide +kernel
theorem dX11_net_15 : decode cX11_net 15 = .ok (.iload_n 1, 1) := by decide +kernel
theorem dX11_net_16 : decode cX11_net 16 = .ok (.aload_n 0, 1) := by decide +kernel
theorem dX11_net_17 : decode cX11_net 17 = .ok (.getfield 62, 3) := by decide +kernel
theorem dX11_net_20 : decode cX11_net 20 = .ok (.invokevirtual 169, 3) := by decide +kernel
theorem dX11_net_23 : decode cX11_net 23 = .ok (.ifCond .ne 9, 3) := by decide +kernel
theorem dX11_net_26 : decode cX11_net 26 = .ok (.aload_n 0, 1) := by decide +kernel
theorem dX11_net_27 : decode cX11_net 27 = .ok (.iconst 2, 1) := by decide +kernel
theorem dX11_net_28 : decode cX11_net 28 = .ok (.invokevirtual 110, 3) := by decide +kernel
theorem dX11_net_31 : decode cX11_net 31 = .ok (.ireturn, 1) := by decide +kernel
theorem dX11_net_32 : decode cX11_net 32 = .ok (.iconst 0, 1) := by decide +kernel
theorem dX11_net_33 : decode cX11_net 33 = .ok (.istore_n 3, 1) := by decide +kernel
theorem dX11_net_34 : decode cX11_net 34 = .ok (.iconst 0, 1) := by decide +kernel
theorem dX11_net_35 : decode cX11_net 35 = .ok (.istore 4, 2) := by decide +kernel
theorem dX11_net_37 : decode cX11_net 37 = .ok (.iload 4, 2) := by decide +kernel
theorem dX11_net_39 : decode cX11_net 39 = .ok (.aload_n 0, 1) := by decide +kernel
theorem dX11_net_40 : decode cX11_net 40 = .ok (.getfield 62, 3) := by decide +kernel
theorem dX11_net_43 : decode cX11_net 43 = .ok (.invokevirtual 180, 3) := by decide +kernel
theorem dX11_net_46 : decode cX11_net 46 = .ok (.if_icmp .ge 44, 3) := by decide +kernel
theorem dX11_net_49 : decode cX11_net 49 = .ok (.aload_n 0, 1) := by decide +kernel
theorem dX11_net_50 : decode cX11_net 50 = .ok (.getfield 62, 3) := by decide +kernel
theorem dX11_net_53 : decode cX11_net 53 = .ok (.iload 4, 2) := by decide +kernel
theorem dX11_net_55 : decode cX11_net 55 = .ok (.invokevirtual 198, 3) := by decide +kernel
theorem dX11_net_58 : decode cX11_net 58 = .ok (.istore 5, 2) := by decide +kernel
theorem dX11_net_60 : decode cX11_net 60 = .ok (.iload 5, 2) := by decide +kernel
theorem dX11_net_62 : decode cX11_net 62 = .ok (.iconst 1, 1) := by decide +kernel
theorem dX11_net_63 : decode cX11_net 63 = .ok (.ishr, 1) := by decide +kernel
theorem dX11_net_64 : decode cX11_net 64 = .ok (.iload_n 2, 1) := by decide +kernel
theorem dX11_net_65 : decode cX11_net 65 = .ok (.if_icmp .ne 19, 3) := by decide +kernel
theorem dX11_net_68 : decode cX11_net 68 = .ok (.iload_n 3, 1) := by decide +kernel
theorem dX11_net_69 : decode cX11_net 69 = .ok (.iload 5, 2) := by decide +kernel
theorem dX11_net_71 : decode cX11_net 71 = .ok (.invokestatic 301, 3) := by decide +kernel
theorem dX11_net_74 : decode cX11_net 74 = .ok (.ifCond .eq 7, 3) := by decide +kernel
theorem dX11_net_77 : decode cX11_net 77 = .ok (.iconst (-1), 1) := by decide +kernel
theorem dX11_net_78 : decode cX11_net 78 = .ok (.goto 4, 3) := by decide +kernel
theorem dX11_net_81 : decode cX11_net 81 = .ok (.iconst 1, 1) := by decide +kernel
theorem dX11_net_82 : decode cX11_net 82 = .ok (.iadd, 1) := by decide +kernel
theorem dX11_net_83 : decode cX11_net 83 = .ok (.istore_n 3, 1) := by decide +kernel
theorem dX11_net_84 : decode cX11_net 84 = .ok (.iinc 4 1, 3) := by decide +kernel
theorem dX11_net_87 : decode cX11_net 87 = .ok (.goto (-50), 3) := by decide +kernel
theorem dX11_net_90 : decode cX11_net 90 = .ok (.aload_n 0, 1) := by decide +kernel
theorem dX11_net_91 : decode cX11_net 91 = .ok (.iload_n 3, 1) := by decide +kernel
theorem dX11_net_92 : decode cX11_net 92 = .ok (.invokevirtual 133, 3) := by decide +kernel
theorem dX11_net_95 : decode cX11_net 95 = .ok (.ireturn, 1) := by decide +kernel
theorem dX11_central_0 : decode cX11_central 0 = .ok (.aload_n 0, 1) := by decide +kernel
theorem dX11_central_1 : decode cX11_central 1 = .ok (.getfield 12, 3) := by decide +kernel
theorem dX11_central_4 : decode cX11_central 4 = .ok (.iload_n 1, 1) := by decide +kernel
theorem dX11_central_5 : decode cX11_central 5 = .ok (.invokevirtual 152, 3) := by decide +kernel
theorem dX11_central_8 : decode cX11_central 8 = .ok (.istore_n 3, 1) := by decide +kernel
theorem dX11_central_9 : decode cX11_central 9 = .ok (.iload_n 2, 1) := by decide +kernel
theorem dX11_central_10 : decode cX11_central 10 = .ok (.ifCond .lt 19, 3) := by decide +kernel
theorem dX11_central_13 : decode cX11_central 13 = .ok (.iload_n 3, 1) := by decide +kernel
theorem dX11_central_14 : decode cX11_central 14 = .ok (.ifCond .eq 21, 3) := by decide +kernel
theorem dX11_central_17 : decode cX11_central 17 = .ok (.iload_n 2, 1) := by decide +kernel
theorem dX11_central_18 : decode cX11_central 18 = .ok (.aload_n 0, 1) := by decide +kernel
theorem dX11_central_19 : decode cX11_central 19 = .ok (.getfield 12, 3) := by decide +kernel
theorem dX11_central_22 : decode cX11_central 22 = .ok (.iload_n 1, 1) := by decide +kernel
theorem dX11_central_23 : decode cX11_central 23 = .ok (.invokevirtual 156, 3) := by decide +kernel
theorem dX11_central_26 : decode cX11_central 26 = .ok (.if_icmp .lt 9, 3) := by decide +kernel
theorem dX11_central_29 : decode cX11_central 29 = .ok (.aload_n 0, 1) := by decide +kernel
theorem dX11_central_30 : decode cX11_central 30 = .ok (.iconst 1, 1) := by decide +kernel
theorem dX11_central_31 : decode cX11_central 31 = .ok (.invokevirtual 110, 3) := by decide +kernel
theorem dX11_central_34 : decode cX11_central 34 = .ok (.ireturn, 1) := by decide +kernel
theorem dX11_central_35 : decode cX11_central 35 = .ok (.iload_n 3, 1) := by decide +kernel
theorem dX11_central_36 : decode cX11_central 36 = .ok (.ifCond .ne 9, 3) := by decide +kernel
theorem dX11_central_39 : decode cX11_central 39 = .ok (.aload_n 0, 1) := by decide +kernel
theorem dX11_central_40 : decode cX11_central 40 = .ok (.iconst 2, 1) := by decide +kernel
theorem dX11_central_41 : decode cX11_central 41 = .ok (.invokevirtual 110, 3) := by decide +kernel
theorem dX11_central_44 : decode cX11_central 44 = .ok (.ireturn, 1) := by decide +kernel
theorem dX11_central_45 : decode cX11_central 45 = .ok (.iload_n 2, 1) := by decide +kernel
theorem dX11_central_46 : decode cX11_central 46 = .ok (.aload_n 0, 1) := by decide +kernel
theorem dX11_central_47 : decode cX11_central 47 = .ok (.getfield 12, 3) := by decide +kernel
theorem dX11_central_50 : decode cX11_central 50 = .ok (.iload_n 1, 1) := by decide +kernel
theorem dX11_central_51 : decode cX11_central 51 = .ok (.invokevirtual 156, 3) := by decide +kernel
theorem dX11_central_54 : decode cX11_central 54 = .ok (.invokestatic 276, 3) := by decide +kernel
theorem dX11_central_57 : decode cX11_central 57 = .ok (.istore 4, 2) := by decide +kernel
theorem dX11_central_59 : decode cX11_central 59 = .ok (.aload_n 0, 1) := by decide +kernel
theorem dX11_central_60 : decode cX11_central 60 = .ok (.aload_n 0, 1) := by decide +kernel
theorem dX11_central_61 : decode cX11_central 61 = .ok (.getfield 95, 3) := by decide +kernel
theorem dX11_central_64 : decode cX11_central 64 = .ok (.aload_n 0, 1) := by decide +kernel
theorem dX11_central_65 : decode cX11_central 65 = .ok (.getfield 12, 3) := by decide +kernel
theorem dX11_central_68 : decode cX11_central 68 = .ok (.iload_n 1, 1) := by decide +kernel
theorem dX11_central_69 : decode cX11_central 69 = .ok (.invokevirtual 304, 3) := by decide +kernel
theorem dX11_central_72 : decode cX11_central 72 = .ok (.iload 4, 2) := by decide +kernel
theorem dX11_central_74 : decode cX11_central 74 = .ok (.invokestatic 205, 3) := by decide +kernel
theorem dX11_central_77 : decode cX11_central 77 = .ok (.ifCond .ne 7, 3) := by decide +kernel
theorem dX11_central_80 : decode cX11_central 80 = .ok (.iconst 1, 1) := by decide +kernel
theorem dX11_central_81 : decode cX11_central 81 = .ok (.goto 4, 3) := by decide +kernel
theorem dX11_central_84 : decode cX11_central 84 = .ok (.iconst 0, 1) := by decide +kernel
theorem dX11_central_85 : decode cX11_central 85 = .ok (.invokestatic 191, 3) := by decide +kernel
theorem dX11_central_88 : decode cX11_central 88 = .ok (.invokevirtual 133, 3) := by decide +kernel
theorem dX11_central_91 : decode cX11_central 91 = .ok (.ireturn, 1) := by decide +kernel
theorem dX11_centre_0 : decode cX11_centre 0 = .ok (.aload_n 0, 1) := by decide +kernel
theorem dX11_centre_1 : decode cX11_centre 1 = .ok (.getfield 12, 3) := by decide +kernel
theorem dX11_centre_4 : decode cX11_centre 4 = .ok (.iload_n 1, 1) := by decide +kernel
theorem dX11_centre_5 : decode cX11_centre 5 = .ok (.invokevirtual 152, 3) := by decide +kernel
theorem dX11_centre_8 : decode cX11_centre 8 = .ok (.ifCond .ne 9, 3) := by decide +kernel
theorem dX11_centre_11 : decode cX11_centre 11 = .ok (.aload_n 0, 1) := by decide +kernel
theorem dX11_centre_12 : decode cX11_centre 12 = .ok (.iconst 2, 1) := by decide +kernel
theorem dX11_centre_13 : decode cX11_centre 13 = .ok (.invokevirtual 110, 3) := by decide +kernel
theorem dX11_centre_16 : decode cX11_centre 16 = .ok (.ireturn, 1) := by decide +kernel
theorem dX11_centre_17 : decode cX11_centre 17 = .ok (.aload_n 0, 1) := by decide +kernel
theorem dX11_centre_18 : decode cX11_centre 18 = .ok (.aload_n 0, 1) := by decide +kernel
theorem dX11_centre_19 : decode cX11_centre 19 = .ok (.getfield 95, 3) := by decide +kernel
theorem dX11_centre_22 : decode cX11_centre 22 = .ok (.aload_n 0, 1) := by decide +kernel
theorem dX11_centre_23 : decode cX11_centre 23 = .ok (.getfield 12, 3) := by decide +kernel
theorem dX11_centre_26 : decode cX11_centre 26 = .ok (.iload_n 1, 1) := by decide +kernel
theorem dX11_centre_27 : decode cX11_centre 27 = .ok (.invokevirtual 304, 3) := by decide +kernel
theorem dX11_centre_30 : decode cX11_centre 30 = .ok (.invokevirtual 133, 3) := by decide +kernel
theorem dX11_centre_33 : decode cX11_centre 33 = .ok (.ireturn, 1) := by decide +kernel
theorem dX11_having_0 : decode cX11_having 0 = .ok (.iload_n 2, 1) := by decide +kernel
theorem dX11_having_1 : decode cX11_having 1 = .ok (.iconst 1, 1) := by decide +kernel
theorem dX11_having_2 : decode cX11_having 2 = .ok (.if_icmp .ge 9, 3) := by decide +kernel
theorem dX11_having_5 : decode cX11_having 5 = .ok (.aload_n 0, 1) := by decide +kernel
theorem dX11_having_6 : decode cX11_having 6 = .ok (.iconst 1, 1) := by decide +kernel
theorem dX11_having_7 : decode cX11_having 7 = .ok (.invokevirtual 110, 3) := by decide +kernel
theorem dX11_having_10 : decode cX11_having 10 = .ok (.ireturn, 1) := by decide +kernel
theorem dX11_having_11 : decode cX11_having 11 = .ok (.aload_n 0, 1) := by decide +kernel
theorem dX11_having_12 : decode cX11_having 12 = .ok (.getfield 12, 3) := by decide +kernel
theorem dX11_having_15 : decode cX11_having 15 = .ok (.iload_n 1, 1) := by decide +kernel
theorem dX11_having_16 : decode cX11_having 16 = .ok (.invokevirtual 152, 3) := by decide +kernel
theorem dX11_having_19 : decode cX11_having 19 = .ok (.ifCond .ne 9, 3) := by decide +kernel
theorem dX11_having_22 : decode cX11_having 22 = .ok (.aload_n 0, 1) := by decide +kernel
theorem dX11_having_23 : decode cX11_having 23 = .ok (.iconst 2, 1) := by decide +kernel
theorem dX11_having_24 : decode cX11_having 24 = .ok (.invokevirtual 110, 3) := by decide +kernel
theorem dX11_having_27 : decode cX11_having 27 = .ok (.ireturn, 1) := by decide +kernel
theorem dX11_having_28 : decode cX11_having 28 = .ok (.aload_n 0, 1) := by decide +kernel
theorem dX11_having_29 : decode cX11_having 29 = .ok (.getfield 12, 3) := by decide +kernel
theorem dX11_having_32 : decode cX11_having 32 = .ok (.iload_n 1, 1) := by decide +kernel
theorem dX11_having_33 : decode cX11_having 33 = .ok (.invokevirtual 156, 3) := by decide +kernel
theorem dX11_having_36 : decode cX11_having 36 = .ok (.istore_n 3, 1) := by decide +kernel
theorem dX11_having_37 : decode cX11_having 37 = .ok (.iconst 0, 1) := by decide +kernel
theorem dX11_having_38 : decode cX11_having 38 = .ok (.istore 4, 2) := by decide +kernel
theorem dX11_having_40 : decode cX11_having 40 = .ok (.iconst 0, 1) := by decide +kernel
theorem dX11_having_41 : decode cX11_having 41 = .ok (.istore 5, 2) := by decide +kernel
theorem dX11_having_43 : decode cX11_having 43 = .ok (.iload 5, 2) := by decide +kernel
theorem dX11_having_45 : decode cX11_having 45 = .ok (.iload_n 3, 1) := by decide +kernel
theorem dX11_having_46 : decode cX11_having 46 = .ok (.if_icmp .ge 32, 3) := by decide +kernel
theorem dX11_having_49 : decode cX11_having 49 = .ok (.iload 4, 2) := by decide +kernel
theorem dX11_having_51 : decode cX11_having 51 = .ok (.iload 5, 2) := by decide +kernel
theorem dX11_having_53 : decode cX11_having 53 = .ok (.iload_n 3, 1) := by decide +kernel
theorem dX11_having_54 : decode cX11_having 54 = .ok (.invokestatic 276, 3) := by decide +kernel
theorem dX11_having_57 : decode cX11_having 57 = .ok (.iload_n 2, 1) := by decide +kernel
theorem dX11_having_58 : decode cX11_having 58 = .ok (.if_icmp .ne 7, 3) := by decide +kernel
theorem dX11_having_61 : decode cX11_having 61 = .ok (.iconst 1, 1) := by decide +kernel
theorem dX11_having_62 : decode cX11_having 62 = .ok (.goto 4, 3) := by decide +kernel
theorem dX11_having_65 : decode cX11_having 65 = .ok (.iconst 0, 1) := by decide +kernel
theorem dX11_having_66 : decode cX11_having 66 = .ok (.invokestatic 191, 3) := by decide +kernel
theorem dX11_having_69 : decode cX11_having 69 = .ok (.iadd, 1) := by decide +kernel
theorem dX11_having_70 : decode cX11_having 70 = .ok (.istore 4, 2) := by decide +kernel
theorem dX11_having_72 : decode cX11_having 72 = .ok (.iinc 5 1, 3) := by decide +kernel
theorem dX11_having_75 : decode cX11_having 75 = .ok (.goto (-32), 3) := by decide +kernel
theorem dX11_having_78 : decode cX11_having 78 = .ok (.aload_n 0, 1) := by decide +kernel
theorem dX11_having_79 : decode cX11_having 79 = .ok (.iload 4, 2) := by decide +kernel
theorem dX11_having_81 : decode cX11_having 81 = .ok (.invokevirtual 133, 3) := by decide +kernel
theorem dX11_having_84 : decode cX11_having 84 = .ok (.ireturn, 1) := by decide +kernel
theorem dX11_root_0 : decode cX11_root 0 = .ok (.aload_n 0, 1) := by decide +kernel
theorem dX11_root_1 : decode cX11_root 1 = .ok (.iload_n 1, 1) := by decide +kernel
theorem dX11_root_2 : decode cX11_root 2 = .ok (.invokevirtual 273, 3) := by decide +kernel
theorem dX11_root_5 : decode cX11_root 5 = .ok (.istore_n 2, 1) := by decide +kernel
theorem dX11_root_6 : decode cX11_root 6 = .ok (.iload_n 2, 1) := by decide +kernel
theorem dX11_root_7 : decode cX11_root 7 = .ok (.ifCond .eq 9, 3) := by decide +kernel
theorem dX11_root_10 : decode cX11_root 10 = .ok (.aload_n 0, 1) := by decide +kernel
theorem dX11_root_11 : decode cX11_root 11 = .ok (.iload_n 2, 1) := by decide +kernel
theorem dX11_root_12 : decode cX11_root 12 = .ok (.invokevirtual 110, 3) := by decide +kernel
theorem dX11_root_15 : decode cX11_root 15 = .ok (.ireturn, 1) := by decide +kernel
theorem dX11_root_16 : decode cX11_root 16 = .ok (.aload_n 0, 1) := by decide +kernel
theorem dX11_root_17 : decode cX11_root 17 = .ok (.getfield 69, 3) := by decide +kernel
theorem dX11_root_20 : decode cX11_root 20 = .ok (.invokevirtual 180, 3) := by decide +kernel
theorem dX11_root_23 : decode cX11_root 23 = .ok (.ifCond .ne 11, 3) := by decide +kernel
theorem dX11_root_26 : decode cX11_root 26 = .ok (.aload_n 0, 1) := by decide +kernel
theorem dX11_root_27 : decode cX11_root 27 = .ok (.iconst 5, 1) := by decide +kernel
theorem dX11_root_28 : decode cX11_root 28 = .ok (.invokevirtual 110, 3) := by decide +kernel
theorem dX11_root_31 : decode cX11_root 31 = .ok (.goto 22, 3) := by decide +kernel
theorem dX11_root_34 : decode cX11_root 34 = .ok (.aload_n 0, 1) := by decide +kernel
theorem dX11_root_35 : decode cX11_root 35 = .ok (.aload_n 0, 1) := by decide +kernel
theorem dX11_root_36 : decode cX11_root 36 = .ok (.getfield 88, 3) := by decide +kernel
theorem dX11_root_39 : decode cX11_root 39 = .ok (.aload_n 0, 1) := by decide +kernel
theorem dX11_root_40 : decode cX11_root 40 = .ok (.getfield 12, 3) := by decide +kernel
theorem dX11_root_43 : decode cX11_root 43 = .ok (.aload_n 0, 1) := by decide +kernel
theorem dX11_root_44 : decode cX11_root 44 = .ok (.getfield 69, 3) := by decide +kernel
theorem dX11_root_47 : decode cX11_root 47 = .ok (.invokevirtual 308, 3) := by decide +kernel
theorem dX11_root_50 : decode cX11_root 50 = .ok (.invokevirtual 133, 3) := by decide +kernel
theorem dX11_root_53 : decode cX11_root 53 = .ok (.ireturn, 1) := by decide +kernel
theorem dX11_swaps_0 : decode cX11_swaps 0 = .ok (.aload_n 0, 1) := by decide +kernel
theorem dX11_swaps_1 : decode cX11_swaps 1 = .ok (.iload_n 1, 1) := by decide +kernel
theorem dX11_swaps_2 : decode cX11_swaps 2 = .ok (.iload_n 2, 1) := by decide +kernel
theorem dX11_swaps_3 : decode cX11_swaps 3 = .ok (.invokevirtual 279, 3) := by decide +kernel
theorem dX11_swaps_6 : decode cX11_swaps 6 = .ok (.istore_n 3, 1) := by decide +kernel
theorem dX11_swaps_7 : decode cX11_swaps 7 = .ok (.iload_n 3, 1) := by decide +kernel
theorem dX11_swaps_8 : decode cX11_swaps 8 = .ok (.ifCond .eq 9, 3) := by decide +kernel
theorem dX11_swaps_11 : decode cX11_swaps 11 = .ok (.aload_n 0, 1) := by decide +kernel
theorem dX11_swaps_12 : decode cX11_swaps 12 = .ok (.iload_n 3, 1) := by decide +kernel
theorem dX11_swaps_13 : decode cX11_swaps 13 = .ok (.invokevirtual 110, 3) := by decide +kernel
theorem dX11_swaps_16 : decode cX11_swaps 16 = .ok (.ireturn, 1) := by decide +kernel
theorem dX11_swaps_17 : decode cX11_swaps 17 = .ok (.aload_n 0, 1) := by decide +kernel
theorem dX11_swaps_18 : decode cX11_swaps 18 = .ok (.getfield 62, 3) := by decide +kernel
theorem dX11_swaps_21 : decode cX11_swaps 21 = .ok (.invokevirtual 173, 3) := by decide +kernel
theorem dX11_swaps_24 : decode cX11_swaps 24 = .ok (.aload_n 0, 1) := by decide +kernel
theorem dX11_swaps_25 : decode cX11_swaps 25 = .ok (.getfield 66, 3) := by decide +kernel
theorem dX11_swaps_28 : decode cX11_swaps 28 = .ok (.invokevirtual 173, 3) := by decide +kernel
theorem dX11_swaps_31 : decode cX11_swaps 31 = .ok (.if_icmp .eq 9, 3) := by decide +kernel
theorem dX11_swaps_34 : decode cX11_swaps 34 = .ok (.aload_n 0, 1) := by decide +kernel
theorem dX11_swaps_35 : decode cX11_swaps 35 = .ok (.iconst 4, 1) := by decide +kernel
theorem dX11_swaps_36 : decode cX11_swaps 36 = .ok (.invokevirtual 110, 3) := by decide +kernel
theorem dX11_swaps_39 : decode cX11_swaps 39 = .ok (.ireturn, 1) := by decide +kernel
theorem dX11_swaps_40 : decode cX11_swaps 40 = .ok (.aload_n 0, 1) := by decide +kernel
theorem dX11_swaps_41 : decode cX11_swaps 41 = .ok (.getfield 12, 3) := by decide +kernel
theorem dX11_swaps_44 : decode cX11_swaps 44 = .ok (.aload_n 0, 1) := by decide +kernel
theorem dX11_swaps_45 : decode cX11_swaps 45 = .ok (.getfield 62, 3) := by decide +kernel
theorem dX11_swaps_48 : decode cX11_swaps 48 = .ok (.aload_n 0, 1) := by decide +kernel
theorem dX11_swaps_49 : decode cX11_swaps 49 = .ok (.getfield 66, 3) := by decide +kernel
theorem dX11_swaps_52 : decode cX11_swaps 52 = .ok (.aload_n 0, 1) := by decide +kernel
theorem dX11_swaps_53 : decode cX11_swaps 53 = .ok (.getfield 69, 3) := by decide +kernel
theorem dX11_swaps_56 : decode cX11_swaps 56 = .ok (.invokestatic 223, 3) := by decide +kernel
theorem dX11_swaps_59 : decode cX11_swaps 59 = .ok (.aload_n 0, 1) := by decide +kernel
theorem dX11_swaps_60 : decode cX11_swaps 60 = .ok (.getfield 12, 3) := by decide +kernel
theorem dX11_swaps_63 : decode cX11_swaps 63 = .ok (.aload_n 0, 1) := by decide +kernel
theorem dX11_swaps_64 : decode cX11_swaps 64 = .ok (.getfield 66, 3) := by decide +kernel
theorem dX11_swaps_67 : decode cX11_swaps 67 = .ok (.aload_n 0, 1) := by decide +kernel
theorem dX11_swaps_68 : decode cX11_swaps 68 = .ok (.getfield 62, 3) := by decide +kernel
theorem dX11_swaps_71 : decode cX11_swaps 71 = .ok (.aload_n 0, 1) := by decide +kernel
theorem dX11_swaps_72 : decode cX11_swaps 72 = .ok (.getfield 72, 3) := by decide +kernel
theorem dX11_swaps_75 : decode cX11_swaps 75 = .ok (.invokestatic 223, 3) := by decide +kernel
theorem dX11_swaps_78 : decode cX11_swaps 78 = .ok (.aload_n 0, 1) := by decide +kernel
theorem dX11_swaps_79 : decode cX11_swaps 79 = .ok (.aload_n 0, 1) := by decide +kernel
theorem dX11_swaps_80 : decode cX11_swaps 80 = .ok (.getfield 69, 3) := by decide +kernel
theorem dX11_swaps_83 : decode cX11_swaps 83 = .ok (.aload_n 0, 1) := by decide +kernel
theorem dX11_swaps_84 : decode cX11_swaps 84 = .ok (.getfield 72, 3) := by decide +kernel
theorem dX11_swaps_87 : decode cX11_swaps 87 = .ok (.invokevirtual 187, 3) := by decide +kernel
theorem dX11_swaps_90 : decode cX11_swaps 90 = .ok (.invokestatic 191, 3) := by decide +kernel
theorem dX11_swaps_93 : decode cX11_swaps 93 = .ok (.invokevirtual 133, 3) := by decide +kernel
theorem dX11_swaps_96 : decode cX11_swaps 96 = .ok (.ireturn, 1) := by decide +kernel
theorem dX11_alikes_0 : decode cX11_alikes 0 = .ok (.aload_n 0, 1) := by decide +kernel
theorem dX11_alikes_1 : decode cX11_alikes 1 = .ok (.getfield 12, 3) := by decide +kernel
theorem dX11_alikes_4 : decode cX11_alikes 4 = .ok (.iload_n 1, 1) := by decide +kernel
theorem dX11_alikes_5 : decode cX11_alikes 5 = .ok (.aload_n 0, 1) := by decide +kernel
theorem dX11_alikes_6 : decode cX11_alikes 6 = .ok (.getfield 62, 3) := by decide +kernel
theorem dX11_alikes_9 : decode cX11_alikes 9 = .ok (.invokevirtual 169, 3) := by decide +kernel
theorem dX11_alikes_12 : decode cX11_alikes 12 = .ok (.ifCond .ne 9, 3) := by decide +kernel
theorem dX11_alikes_15 : decode cX11_alikes 15 = .ok (.aload_n 0, 1) := by decide +kernel
theorem dX11_alikes_16 : decode cX11_alikes 16 = .ok (.iconst 2, 1) := by decide +kernel
theorem dX11_alikes_17 : decode cX11_alikes 17 = .ok (.invokevirtual 110, 3) := by decide +kernel
theorem dX11_alikes_20 : decode cX11_alikes 20 = .ok (.ireturn, 1) := by decide +kernel
theorem dX11_alikes_21 : decode cX11_alikes 21 = .ok (.aload_n 0, 1) := by decide +kernel
theorem dX11_alikes_22 : decode cX11_alikes 22 = .ok (.getfield 12, 3) := by decide +kernel
theorem dX11_alikes_25 : decode cX11_alikes 25 = .ok (.aload_n 0, 1) := by decide +kernel
theorem dX11_alikes_26 : decode cX11_alikes 26 = .ok (.getfield 62, 3) := by decide +kernel
theorem dX11_alikes_29 : decode cX11_alikes 29 = .ok (.aload_n 0, 1) := by decide +kernel
theorem dX11_alikes_30 : decode cX11_alikes 30 = .ok (.getfield 69, 3) := by decide +kernel
theorem dX11_alikes_33 : decode cX11_alikes 33 = .ok (.invokestatic 181, 3) := by decide +kernel
theorem dX11_alikes_36 : decode cX11_alikes 36 = .ok (.pop, 1) := by decide +kernel
theorem dX11_alikes_37 : decode cX11_alikes 37 = .ok (.iconst 0, 1) := by decide +kernel
theorem dX11_alikes_38 : decode cX11_alikes 38 = .ok (.istore_n 2, 1) := by decide +kernel
theorem dX11_alikes_39 : decode cX11_alikes 39 = .ok (.iconst 0, 1) := by decide +kernel
theorem dX11_alikes_40 : decode cX11_alikes 40 = .ok (.istore_n 3, 1) := by decide +kernel
theorem dX11_alikes_41 : decode cX11_alikes 41 = .ok (.iload_n 3, 1) := by decide +kernel
theorem dX11_alikes_42 : decode cX11_alikes 42 = .ok (.aload_n 0, 1) := by decide +kernel
theorem dX11_alikes_43 : decode cX11_alikes 43 = .ok (.getfield 12, 3) := by decide +kernel
theorem dX11_alikes_46 : decode cX11_alikes 46 = .ok (.invokevirtual 129, 3) := by decide +kernel
theorem dX11_alikes_49 : decode cX11_alikes 49 = .ok (.if_icmp .ge 45, 3) := by decide +kernel
theorem dX11_alikes_52 : decode cX11_alikes 52 = .ok (.aload_n 0, 1) := by decide +kernel
theorem dX11_alikes_53 : decode cX11_alikes 53 = .ok (.getfield 12, 3) := by decide +kernel
theorem dX11_alikes_56 : decode cX11_alikes 56 = .ok (.iload_n 3, 1) := by decide +kernel
theorem dX11_alikes_57 : decode cX11_alikes 57 = .ok (.aload_n 0, 1) := by decide +kernel
theorem dX11_alikes_58 : decode cX11_alikes 58 = .ok (.getfield 66, 3) := by decide +kernel
theorem dX11_alikes_61 : decode cX11_alikes 61 = .ok (.invokevirtual 169, 3) := by decide +kernel
theorem dX11_alikes_64 : decode cX11_alikes 64 = .ok (.ifCond .eq 24, 3) := by decide +kernel
theorem dX11_alikes_67 : decode cX11_alikes 67 = .ok (.aload_n 0, 1) := by decide +kernel
theorem dX11_alikes_68 : decode cX11_alikes 68 = .ok (.aload_n 0, 1) := by decide +kernel
theorem dX11_alikes_69 : decode cX11_alikes 69 = .ok (.getfield 66, 3) := by decide +kernel
theorem dX11_alikes_72 : decode cX11_alikes 72 = .ok (.aload_n 0, 1) := by decide +kernel
theorem dX11_alikes_73 : decode cX11_alikes 73 = .ok (.getfield 69, 3) := by decide +kernel
theorem dX11_alikes_76 : decode cX11_alikes 76 = .ok (.invokevirtual 269, 3) := by decide +kernel
theorem dX11_alikes_79 : decode cX11_alikes 79 = .ok (.ifCond .eq 9, 3) := by decide +kernel
theorem dX11_alikes_82 : decode cX11_alikes 82 = .ok (.iload_n 2, 1) := by decide +kernel
theorem dX11_alikes_83 : decode cX11_alikes 83 = .ok (.iconst 1, 1) := by decide +kernel
theorem dX11_alikes_84 : decode cX11_alikes 84 = .ok (.iload_n 3, 1) := by decide +kernel
theorem dX11_alikes_85 : decode cX11_alikes 85 = .ok (.ishl, 1) := by decide +kernel
theorem dX11_alikes_86 : decode cX11_alikes 86 = .ok (.ior, 1) := by decide +kernel
theorem dX11_alikes_87 : decode cX11_alikes 87 = .ok (.istore_n 2, 1) := by decide +kernel
theorem dX11_alikes_88 : decode cX11_alikes 88 = .ok (.iinc 3 1, 3) := by decide +kernel
theorem dX11_alikes_91 : decode cX11_alikes 91 = .ok (.goto (-50), 3) := by decide +kernel
theorem dX11_alikes_94 : decode cX11_alikes 94 = .ok (.aload_n 0, 1) := by decide +kernel
theorem dX11_alikes_95 : decode cX11_alikes 95 = .ok (.iload_n 2, 1) := by decide +kernel
theorem dX11_alikes_96 : decode cX11_alikes 96 = .ok (.invokevirtual 133, 3) := by decide +kernel
theorem dX11_alikes_99 : decode cX11_alikes 99 = .ok (.ireturn, 1) := by decide +kernel
theorem dX11_twin_0 : decode cX11_twin 0 = .ok (.aload_n 0, 1) := by decide +kernel
theorem dX11_twin_1 : decode cX11_twin 1 = .ok (.getfield 12, 3) := by decide +kernel
theorem dX11_twin_4 : decode cX11_twin 4 = .ok (.iload_n 1, 1) := by decide +kernel
theorem dX11_twin_5 : decode cX11_twin 5 = .ok (.aload_n 0, 1) := by decide +kernel
theorem dX11_twin_6 : decode cX11_twin 6 = .ok (.getfield 62, 3) := by decide +kernel
theorem dX11_twin_9 : decode cX11_twin 9 = .ok (.invokevirtual 169, 3) := by decide +kernel
theorem dX11_twin_12 : decode cX11_twin 12 = .ok (.ifCond .ne 9, 3) := by decide +kernel
theorem dX11_twin_15 : decode cX11_twin 15 = .ok (.aload_n 0, 1) := by decide +kernel
theorem dX11_twin_16 : decode cX11_twin 16 = .ok (.iconst 2, 1) := by decide +kernel
theorem dX11_twin_17 : decode cX11_twin 17 = .ok (.invokevirtual 110, 3) := by decide +kernel
theorem dX11_twin_20 : decode cX11_twin 20 = .ok (.ireturn, 1) := by decide +kernel
theorem dX11_twin_21 : decode cX11_twin 21 = .ok (.aload_n 0, 1) := by decide +kernel
theorem dX11_twin_22 : decode cX11_twin 22 = .ok (.getfield 12, 3) := by decide +kernel
theorem dX11_twin_25 : decode cX11_twin 25 = .ok (.aload_n 0, 1) := by decide +kernel
theorem dX11_twin_26 : decode cX11_twin 26 = .ok (.getfield 62, 3) := by decide +kernel
theorem dX11_twin_29 : decode cX11_twin 29 = .ok (.aload_n 0, 1) := by decide +kernel
theorem dX11_twin_30 : decode cX11_twin 30 = .ok (.getfield 69, 3) := by decide +kernel
theorem dX11_twin_33 : decode cX11_twin 33 = .ok (.invokestatic 181, 3) := by decide +kernel
theorem dX11_twin_36 : decode cX11_twin 36 = .ok (.pop, 1) := by decide +kernel
theorem dX11_twin_37 : decode cX11_twin 37 = .ok (.iconst 0, 1) := by decide +kernel
theorem dX11_twin_38 : decode cX11_twin 38 = .ok (.istore_n 2, 1) := by decide +kernel
theorem dX11_twin_39 : decode cX11_twin 39 = .ok (.iload_n 2, 1) := by decide +kernel
theorem dX11_twin_40 : decode cX11_twin 40 = .ok (.aload_n 0, 1) := by decide +kernel
theorem dX11_twin_41 : decode cX11_twin 41 = .ok (.getfield 12, 3) := by decide +kernel
theorem dX11_twin_44 : decode cX11_twin 44 = .ok (.invokevirtual 129, 3) := by decide +kernel
theorem dX11_twin_47 : decode cX11_twin 47 = .ok (.if_icmp .ge 50, 3) := by decide +kernel
theorem dX11_twin_50 : decode cX11_twin 50 = .ok (.iload_n 2, 1) := by decide +kernel
theorem dX11_twin_51 : decode cX11_twin 51 = .ok (.iload_n 1, 1) := by decide +kernel
theorem dX11_twin_52 : decode cX11_twin 52 = .ok (.if_icmp .eq 39, 3) := by decide +kernel
theorem dX11_twin_55 : decode cX11_twin 55 = .ok (.aload_n 0, 1) := by decide +kernel
theorem dX11_twin_56 : decode cX11_twin 56 = .ok (.getfield 12, 3) := by decide +kernel
theorem dX11_twin_59 : decode cX11_twin 59 = .ok (.iload_n 2, 1) := by decide +kernel
theorem dX11_twin_60 : decode cX11_twin 60 = .ok (.aload_n 0, 1) := by decide +kernel
theorem dX11_twin_61 : decode cX11_twin 61 = .ok (.getfield 66, 3) := by decide +kernel
theorem dX11_twin_64 : decode cX11_twin 64 = .ok (.invokevirtual 169, 3) := by decide +kernel
theorem dX11_twin_67 : decode cX11_twin 67 = .ok (.ifCond .eq 24, 3) := by decide +kernel
theorem dX11_twin_70 : decode cX11_twin 70 = .ok (.aload_n 0, 1) := by decide +kernel
theorem dX11_twin_71 : decode cX11_twin 71 = .ok (.aload_n 0, 1) := by decide +kernel
theorem dX11_twin_72 : decode cX11_twin 72 = .ok (.getfield 66, 3) := by decide +kernel
theorem dX11_twin_75 : decode cX11_twin 75 = .ok (.aload_n 0, 1) := by decide +kernel
theorem dX11_twin_76 : decode cX11_twin 76 = .ok (.getfield 69, 3) := by decide +kernel
theorem dX11_twin_79 : decode cX11_twin 79 = .ok (.invokevirtual 269, 3) := by decide +kernel
theorem dX11_twin_82 : decode cX11_twin 82 = .ok (.ifCond .eq 9, 3) := by decide +kernel
theorem dX11_twin_85 : decode cX11_twin 85 = .ok (.aload_n 0, 1) := by decide +kernel
theorem dX11_twin_86 : decode cX11_twin 86 = .ok (.iload_n 2, 1) := by decide +kernel
theorem dX11_twin_87 : decode cX11_twin 87 = .ok (.invokevirtual 133, 3) := by decide +kernel
theorem dX11_twin_90 : decode cX11_twin 90 = .ok (.ireturn, 1) := by decide +kernel
theorem dX11_twin_91 : decode cX11_twin 91 = .ok (.iinc 2 1, 3) := by decide +kernel
theorem dX11_twin_94 : decode cX11_twin 94 = .ok (.goto (-55), 3) := by decide +kernel
theorem dX11_twin_97 : decode cX11_twin 97 = .ok (.aload_n 0, 1) := by decide +kernel
theorem dX11_twin_98 : decode cX11_twin 98 = .ok (.iconst 5, 1) := by decide +kernel
theorem dX11_twin_99 : decode cX11_twin 99 = .ok (.invokevirtual 110, 3) := by decide +kernel
theorem dX11_twin_102 : decode cX11_twin 102 = .ok (.ireturn, 1) := by decide +kernel
theorem dX11_apart_0 : decode cX11_apart 0 = .ok (.aload_n 0, 1) := by decide +kernel
theorem dX11_apart_1 : decode cX11_apart 1 = .ok (.iload_n 1, 1) := by decide +kernel
theorem dX11_apart_2 : decode cX11_apart 2 = .ok (.iload_n 2, 1) := by decide +kernel
theorem dX11_apart_3 : decode cX11_apart 3 = .ok (.invokevirtual 312, 3) := by decide +kernel
theorem dX11_apart_6 : decode cX11_apart 6 = .ok (.istore_n 3, 1) := by decide +kernel
theorem dX11_apart_7 : decode cX11_apart 7 = .ok (.iload_n 3, 1) := by decide +kernel
theorem dX11_apart_8 : decode cX11_apart 8 = .ok (.ifCond .eq 11, 3) := by decide +kernel
theorem dX11_apart_11 : decode cX11_apart 11 = .ok (.aload_n 0, 1) := by decide +kernel
theorem dX11_apart_12 : decode cX11_apart 12 = .ok (.iload_n 3, 1) := by decide +kernel
theorem dX11_apart_13 : decode cX11_apart 13 = .ok (.invokevirtual 110, 3) := by decide +kernel
theorem dX11_apart_16 : decode cX11_apart 16 = .ok (.goto 14, 3) := by decide +kernel
theorem dX11_apart_19 : decode cX11_apart 19 = .ok (.aload_n 0, 1) := by decide +kernel
theorem dX11_apart_20 : decode cX11_apart 20 = .ok (.aload_n 0, 1) := by decide +kernel
theorem dX11_apart_21 : decode cX11_apart 21 = .ok (.getfield 69, 3) := by decide +kernel
theorem dX11_apart_24 : decode cX11_apart 24 = .ok (.invokevirtual 180, 3) := by decide +kernel
theorem dX11_apart_27 : decode cX11_apart 27 = .ok (.invokevirtual 133, 3) := by decide +kernel
theorem dX11_apart_30 : decode cX11_apart 30 = .ok (.ireturn, 1) := by decide +kernel
theorem dX11_moves_0 : decode cX11_moves 0 = .ok (.aload_n 0, 1) := by decide +kernel
theorem dX11_moves_1 : decode cX11_moves 1 = .ok (.iload_n 1, 1) := by decide +kernel
theorem dX11_moves_2 : decode cX11_moves 2 = .ok (.iload_n 2, 1) := by decide +kernel
theorem dX11_moves_3 : decode cX11_moves 3 = .ok (.invokevirtual 219, 3) := by decide +kernel
theorem dX11_moves_6 : decode cX11_moves 6 = .ok (.ifCond .ne 9, 3) := by decide +kernel
theorem dX11_moves_9 : decode cX11_moves 9 = .ok (.aload_n 0, 1) := by decide +kernel
theorem dX11_moves_10 : decode cX11_moves 10 = .ok (.iconst 2, 1) := by decide +kernel
theorem dX11_moves_11 : decode cX11_moves 11 = .ok (.invokevirtual 110, 3) := by decide +kernel
theorem dX11_moves_14 : decode cX11_moves 14 = .ok (.ireturn, 1) := by decide +kernel
theorem dX11_moves_15 : decode cX11_moves 15 = .ok (.aload_n 0, 1) := by decide +kernel
theorem dX11_moves_16 : decode cX11_moves 16 = .ok (.getfield 12, 3) := by decide +kernel
theorem dX11_moves_19 : decode cX11_moves 19 = .ok (.aload_n 0, 1) := by decide +kernel
theorem dX11_moves_20 : decode cX11_moves 20 = .ok (.getfield 62, 3) := by decide +kernel
theorem dX11_moves_23 : decode cX11_moves 23 = .ok (.invokevirtual 298, 3) := by decide +kernel
theorem dX11_moves_26 : decode cX11_moves 26 = .ok (.ifCond .eq 20, 3) := by decide +kernel
theorem dX11_moves_29 : decode cX11_moves 29 = .ok (.aload_n 0, 1) := by decide +kernel
theorem dX11_moves_30 : decode cX11_moves 30 = .ok (.getfield 62, 3) := by decide +kernel
theorem dX11_moves_33 : decode cX11_moves 33 = .ok (.invokevirtual 173, 3) := by decide +kernel
theorem dX11_moves_36 : decode cX11_moves 36 = .ok (.aload_n 0, 1) := by decide +kernel
theorem dX11_moves_37 : decode cX11_moves 37 = .ok (.getfield 66, 3) := by decide +kernel
theorem dX11_moves_40 : decode cX11_moves 40 = .ok (.invokevirtual 173, 3) := by decide +kernel
theorem dX11_moves_43 : decode cX11_moves 43 = .ok (.if_icmp .eq 9, 3) := by decide +kernel
theorem dX11_moves_46 : decode cX11_moves 46 = .ok (.aload_n 0, 1) := by decide +kernel
theorem dX11_moves_47 : decode cX11_moves 47 = .ok (.iconst 4, 1) := by decide +kernel
theorem dX11_moves_48 : decode cX11_moves 48 = .ok (.invokevirtual 110, 3) := by decide +kernel
theorem dX11_moves_51 : decode cX11_moves 51 = .ok (.ireturn, 1) := by decide +kernel
theorem dX11_moves_52 : decode cX11_moves 52 = .ok (.aload_n 0, 1) := by decide +kernel
theorem dX11_moves_53 : decode cX11_moves 53 = .ok (.getfield 12, 3) := by decide +kernel
theorem dX11_moves_56 : decode cX11_moves 56 = .ok (.aload_n 0, 1) := by decide +kernel
theorem dX11_moves_57 : decode cX11_moves 57 = .ok (.getfield 66, 3) := by decide +kernel
theorem dX11_moves_60 : decode cX11_moves 60 = .ok (.aload_n 0, 1) := by decide +kernel
theorem dX11_moves_61 : decode cX11_moves 61 = .ok (.getfield 69, 3) := by decide +kernel
theorem dX11_moves_64 : decode cX11_moves 64 = .ok (.invokestatic 227, 3) := by decide +kernel
theorem dX11_moves_67 : decode cX11_moves 67 = .ok (.aload_n 0, 1) := by decide +kernel
theorem dX11_moves_68 : decode cX11_moves 68 = .ok (.getfield 12, 3) := by decide +kernel
theorem dX11_moves_71 : decode cX11_moves 71 = .ok (.aload_n 0, 1) := by decide +kernel
theorem dX11_moves_72 : decode cX11_moves 72 = .ok (.getfield 69, 3) := by decide +kernel
theorem dX11_moves_75 : decode cX11_moves 75 = .ok (.aload_n 0, 1) := by decide +kernel
theorem dX11_moves_76 : decode cX11_moves 76 = .ok (.getfield 62, 3) := by decide +kernel
theorem dX11_moves_79 : decode cX11_moves 79 = .ok (.invokestatic 239, 3) := by decide +kernel
theorem dX11_moves_82 : decode cX11_moves 82 = .ok (.pop, 1) := by decide +kernel
theorem dX11_moves_83 : decode cX11_moves 83 = .ok (.aload_n 0, 1) := by decide +kernel
theorem dX11_moves_84 : decode cX11_moves 84 = .ok (.getfield 12, 3) := by decide +kernel
theorem dX11_moves_87 : decode cX11_moves 87 = .ok (.aload_n 0, 1) := by decide +kernel
theorem dX11_moves_88 : decode cX11_moves 88 = .ok (.getfield 69, 3) := by decide +kernel
theorem dX11_moves_91 : decode cX11_moves 91 = .ok (.aload_n 0, 1) := by decide +kernel
theorem dX11_moves_92 : decode cX11_moves 92 = .ok (.getfield 66, 3) := by decide +kernel
theorem dX11_moves_95 : decode cX11_moves 95 = .ok (.invokestatic 239, 3) := by decide +kernel
theorem dX11_moves_98 : decode cX11_moves 98 = .ok (.pop, 1) := by decide +kernel
theorem dX11_moves_99 : decode cX11_moves 99 = .ok (.aload_n 0, 1) := by decide +kernel
theorem dX11_moves_100 : decode cX11_moves 100 = .ok (.aload_n 0, 1) := by decide +kernel
theorem dX11_moves_101 : decode cX11_moves 101 = .ok (.getfield 69, 3) := by decide +kernel
theorem dX11_moves_104 : decode cX11_moves 104 = .ok (.invokevirtual 180, 3) := by decide +kernel
theorem dX11_moves_107 : decode cX11_moves 107 = .ok (.invokevirtual 133, 3) := by decide +kernel
theorem dX11_moves_110 : decode cX11_moves 110 = .ok (.ireturn, 1) := by decide +kernel
theorem dX11_way_0 : decode cX11_way 0 = .ok (.iload_n 3, 1) := by decide +kernel
theorem dX11_way_1 : decode cX11_way 1 = .ok (.ifCond .ge 9, 3) := by decide +kernel
theorem dX11_way_4 : decode cX11_way 4 = .ok (.aload_n 0, 1) := by decide +kernel
theorem dX11_way_5 : decode cX11_way 5 = .ok (.iconst 1, 1) := by decide +kernel
theorem dX11_way_6 : decode cX11_way 6 = .ok (.invokevirtual 110, 3) := by decide +kernel
theorem dX11_way_9 : decode cX11_way 9 = .ok (.ireturn, 1) := by decide +kernel
theorem dX11_way_10 : decode cX11_way 10 = .ok (.aload_n 0, 1) := by decide +kernel
theorem dX11_way_11 : decode cX11_way 11 = .ok (.iload_n 1, 1) := by decide +kernel
theorem dX11_way_12 : decode cX11_way 12 = .ok (.iload_n 2, 1) := by decide +kernel
theorem dX11_way_13 : decode cX11_way 13 = .ok (.invokevirtual 312, 3) := by decide +kernel
theorem dX11_way_16 : decode cX11_way 16 = .ok (.istore 4, 2) := by decide +kernel
theorem dX11_way_18 : decode cX11_way 18 = .ok (.iload 4, 2) := by decide +kernel
theorem dX11_way_20 : decode cX11_way 20 = .ok (.ifCond .eq 10, 3) := by decide +kernel
theorem dX11_way_23 : decode cX11_way 23 = .ok (.aload_n 0, 1) := by decide +kernel
theorem dX11_way_24 : decode cX11_way 24 = .ok (.iload 4, 2) := by decide +kernel
theorem dX11_way_26 : decode cX11_way 26 = .ok (.invokevirtual 110, 3) := by decide +kernel
theorem dX11_way_29 : decode cX11_way 29 = .ok (.ireturn, 1) := by decide +kernel
theorem dX11_way_30 : decode cX11_way 30 = .ok (.iload_n 3, 1) := by decide +kernel
theorem dX11_way_31 : decode cX11_way 31 = .ok (.aload_n 0, 1) := by decide +kernel
theorem dX11_way_32 : decode cX11_way 32 = .ok (.getfield 69, 3) := by decide +kernel
theorem dX11_way_35 : decode cX11_way 35 = .ok (.invokevirtual 180, 3) := by decide +kernel
theorem dX11_way_38 : decode cX11_way 38 = .ok (.if_icmp .le 9, 3) := by decide +kernel
theorem dX11_way_41 : decode cX11_way 41 = .ok (.aload_n 0, 1) := by decide +kernel
theorem dX11_way_42 : decode cX11_way 42 = .ok (.iconst 5, 1) := by decide +kernel
theorem dX11_way_43 : decode cX11_way 43 = .ok (.invokevirtual 110, 3) := by decide +kernel
theorem dX11_way_46 : decode cX11_way 46 = .ok (.ireturn, 1) := by decide +kernel
theorem dX11_way_47 : decode cX11_way 47 = .ok (.aload_n 0, 1) := by decide +kernel
theorem dX11_way_48 : decode cX11_way 48 = .ok (.iload_n 3, 1) := by decide +kernel
theorem dX11_way_49 : decode cX11_way 49 = .ok (.ifCond .ne 13, 3) := by decide +kernel
theorem dX11_way_52 : decode cX11_way 52 = .ok (.aload_n 0, 1) := by decide +kernel
theorem dX11_way_53 : decode cX11_way 53 = .ok (.getfield 69, 3) := by decide +kernel
theorem dX11_way_56 : decode cX11_way 56 = .ok (.invokevirtual 173, 3) := by decide +kernel
theorem dX11_way_59 : decode cX11_way 59 = .ok (.goto 20, 3) := by decide +kernel
theorem dX11_way_62 : decode cX11_way 62 = .ok (.aload_n 0, 1) := by decide +kernel
theorem dX11_way_63 : decode cX11_way 63 = .ok (.getfield 12, 3) := by decide +kernel
theorem dX11_way_66 : decode cX11_way 66 = .ok (.aload_n 0, 1) := by decide +kernel
theorem dX11_way_67 : decode cX11_way 67 = .ok (.getfield 69, 3) := by decide +kernel
theorem dX11_way_70 : decode cX11_way 70 = .ok (.iload_n 3, 1) := by decide +kernel
theorem dX11_way_71 : decode cX11_way 71 = .ok (.iconst 1, 1) := by decide +kernel
theorem dX11_way_72 : decode cX11_way 72 = .ok (.isub, 1) := by decide +kernel
theorem dX11_way_73 : decode cX11_way 73 = .ok (.invokevirtual 198, 3) := by decide +kernel
theorem dX11_way_76 : decode cX11_way 76 = .ok (.invokevirtual 315, 3) := by decide +kernel
theorem dX11_way_79 : decode cX11_way 79 = .ok (.invokevirtual 133, 3) := by decide +kernel
theorem dX11_way_82 : decode cX11_way 82 = .ok (.ireturn, 1) := by decide +kernel
theorem dX11_holds_0 : decode cX11_holds 0 = .ok (.iload_n 2, 1) := by decide +kernel
theorem dX11_holds_1 : decode cX11_holds 1 = .ok (.ifCond .lt 9, 3) := by decide +kernel
theorem dX11_holds_4 : decode cX11_holds 4 = .ok (.iload_n 2, 1) := by decide +kernel
theorem dX11_holds_5 : decode cX11_holds 5 = .ok (.bipush 12, 2) := by decide +kernel
theorem dX11_holds_7 : decode cX11_holds 7 = .ok (.if_icmp .le 10, 3) := by decide +kernel
theorem dX11_holds_10 : decode cX11_holds 10 = .ok (.aload_n 0, 1) := by decide +kernel
theorem dX11_holds_11 : decode cX11_holds 11 = .ok (.iconst 1, 1) := by decide +kernel
theorem dX11_holds_12 : decode cX11_holds 12 = .ok (.invokevirtual 110, 3) := by decide +kernel
theorem dX11_holds_15 : decode cX11_holds 15 = .ok (.i2l, 1) := by decide +kernel
theorem dX11_holds_16 : decode cX11_holds 16 = .ok (.lreturn, 1) := by decide +kernel
theorem dX11_holds_17 : decode cX11_holds 17 = .ok (.aload_n 0, 1) := by decide +kernel
theorem dX11_holds_18 : decode cX11_holds 18 = .ok (.iload_n 1, 1) := by decide +kernel
theorem dX11_holds_19 : decode cX11_holds 19 = .ok (.invokevirtual 273, 3) := by decide +kernel
theorem dX11_holds_22 : decode cX11_holds 22 = .ok (.istore_n 3, 1) := by decide +kernel
theorem dX11_holds_23 : decode cX11_holds 23 = .ok (.iload_n 3, 1) := by decide +kernel
theorem dX11_holds_24 : decode cX11_holds 24 = .ok (.ifCond .eq 10, 3) := by decide +kernel
theorem dX11_holds_27 : decode cX11_holds 27 = .ok (.aload_n 0, 1) := by decide +kernel
theorem dX11_holds_28 : decode cX11_holds 28 = .ok (.iload_n 3, 1) := by decide +kernel
theorem dX11_holds_29 : decode cX11_holds 29 = .ok (.invokevirtual 110, 3) := by decide +kernel
theorem dX11_holds_32 : decode cX11_holds 32 = .ok (.i2l, 1) := by decide +kernel
theorem dX11_holds_33 : decode cX11_holds 33 = .ok (.lreturn, 1) := by decide +kernel
theorem dX11_holds_34 : decode cX11_holds 34 = .ok (.aload_n 0, 1) := by decide +kernel
theorem dX11_holds_35 : decode cX11_holds 35 = .ok (.getfield 69, 3) := by decide +kernel
theorem dX11_holds_38 : decode cX11_holds 38 = .ok (.invokevirtual 180, 3) := by decide +kernel
theorem dX11_holds_41 : decode cX11_holds 41 = .ok (.ifCond .le 10, 3) := by decide +kernel
theorem dX11_holds_44 : decode cX11_holds 44 = .ok (.aload_n 0, 1) := by decide +kernel
theorem dX11_holds_45 : decode cX11_holds 45 = .ok (.iconst 5, 1) := by decide +kernel
theorem dX11_holds_46 : decode cX11_holds 46 = .ok (.invokevirtual 110, 3) := by decide +kernel
theorem dX11_holds_49 : decode cX11_holds 49 = .ok (.i2l, 1) := by decide +kernel
theorem dX11_holds_50 : decode cX11_holds 50 = .ok (.lreturn, 1) := by decide +kernel
theorem dX11_holds_51 : decode cX11_holds 51 = .ok (.aload_n 0, 1) := by decide +kernel
theorem dX11_holds_52 : decode cX11_holds 52 = .ok (.getfield 69, 3) := by decide +kernel
theorem dX11_holds_55 : decode cX11_holds 55 = .ok (.iconst 0, 1) := by decide +kernel
theorem dX11_holds_56 : decode cX11_holds 56 = .ok (.invokevirtual 195, 3) := by decide +kernel
theorem dX11_holds_59 : decode cX11_holds 59 = .ok (.aload_n 0, 1) := by decide +kernel
theorem dX11_holds_60 : decode cX11_holds 60 = .ok (.getfield 12, 3) := by decide +kernel
theorem dX11_holds_63 : decode cX11_holds 63 = .ok (.aload_n 0, 1) := by decide +kernel
theorem dX11_holds_64 : decode cX11_holds 64 = .ok (.getfield 69, 3) := by decide +kernel
theorem dX11_holds_67 : decode cX11_holds 67 = .ok (.invokevirtual 173, 3) := by decide +kernel
theorem dX11_holds_70 : decode cX11_holds 70 = .ok (.invokevirtual 156, 3) := by decide +kernel
theorem dX11_holds_73 : decode cX11_holds 73 = .ok (.invokestatic 276, 3) := by decide +kernel
theorem dX11_holds_76 : decode cX11_holds 76 = .ok (.istore 4, 2) := by decide +kernel
theorem dX11_holds_78 : decode cX11_holds 78 = .ok (.aload_n 0, 1) := by decide +kernel
theorem dX11_holds_79 : decode cX11_holds 79 = .ok (.aload_n 0, 1) := by decide +kernel
theorem dX11_holds_80 : decode cX11_holds 80 = .ok (.getfield 102, 3) := by decide +kernel
theorem dX11_holds_83 : decode cX11_holds 83 = .ok (.aload_n 0, 1) := by decide +kernel
theorem dX11_holds_84 : decode cX11_holds 84 = .ok (.getfield 12, 3) := by decide +kernel
theorem dX11_holds_87 : decode cX11_holds 87 = .ok (.aload_n 0, 1) := by decide +kernel
theorem dX11_holds_88 : decode cX11_holds 88 = .ok (.getfield 69, 3) := by decide +kernel
theorem dX11_holds_91 : decode cX11_holds 91 = .ok (.invokevirtual 173, 3) := by decide +kernel
theorem dX11_holds_94 : decode cX11_holds 94 = .ok (.iload 4, 2) := by decide +kernel
theorem dX11_holds_96 : decode cX11_holds 96 = .ok (.iload_n 2, 1) := by decide +kernel
theorem dX11_holds_97 : decode cX11_holds 97 = .ok (.invokevirtual 318, 3) := by decide +kernel
theorem dX11_holds_100 : decode cX11_holds 100 = .ok (.invokevirtual 322, 3) := by decide +kernel
theorem dX11_holds_103 : decode cX11_holds 103 = .ok (.lreturn, 1) := by decide +kernel
theorem dX11_axis_0 : decode cX11_axis 0 = .ok (.iload_n 2, 1) := by decide +kernel
theorem dX11_axis_1 : decode cX11_axis 1 = .ok (.ifCond .ge 9, 3) := by decide +kernel
theorem dX11_axis_4 : decode cX11_axis 4 = .ok (.aload_n 0, 1) := by decide +kernel
theorem dX11_axis_5 : decode cX11_axis 5 = .ok (.iconst 1, 1) := by decide +kernel
theorem dX11_axis_6 : decode cX11_axis 6 = .ok (.invokevirtual 110, 3) := by decide +kernel
theorem dX11_axis_9 : decode cX11_axis 9 = .ok (.ireturn, 1) := by decide +kernel
theorem dX11_axis_10 : decode cX11_axis 10 = .ok (.aload_n 0, 1) := by decide +kernel
theorem dX11_axis_11 : decode cX11_axis 11 = .ok (.iload_n 1, 1) := by decide +kernel
theorem dX11_axis_12 : decode cX11_axis 12 = .ok (.invokevirtual 273, 3) := by decide +kernel
theorem dX11_axis_15 : decode cX11_axis 15 = .ok (.istore_n 3, 1) := by decide +kernel
theorem dX11_axis_16 : decode cX11_axis 16 = .ok (.iload_n 3, 1) := by decide +kernel
theorem dX11_axis_17 : decode cX11_axis 17 = .ok (.ifCond .eq 9, 3) := by decide +kernel
theorem dX11_axis_20 : decode cX11_axis 20 = .ok (.aload_n 0, 1) := by decide +kernel
theorem dX11_axis_21 : decode cX11_axis 21 = .ok (.iload_n 3, 1) := by decide +kernel
theorem dX11_axis_22 : decode cX11_axis 22 = .ok (.invokevirtual 110, 3) := by decide +kernel
theorem dX11_axis_25 : decode cX11_axis 25 = .ok (.ireturn, 1) := by decide +kernel
theorem dX11_axis_26 : decode cX11_axis 26 = .ok (.aload_n 0, 1) := by decide +kernel
theorem dX11_axis_27 : decode cX11_axis 27 = .ok (.getfield 69, 3) := by decide +kernel
theorem dX11_axis_30 : decode cX11_axis 30 = .ok (.invokevirtual 180, 3) := by decide +kernel
theorem dX11_axis_33 : decode cX11_axis 33 = .ok (.ifCond .ne 9, 3) := by decide +kernel
theorem dX11_axis_36 : decode cX11_axis 36 = .ok (.aload_n 0, 1) := by decide +kernel
theorem dX11_axis_37 : decode cX11_axis 37 = .ok (.iconst 5, 1) := by decide +kernel
theorem dX11_axis_38 : decode cX11_axis 38 = .ok (.invokevirtual 110, 3) := by decide +kernel
theorem dX11_axis_41 : decode cX11_axis 41 = .ok (.ireturn, 1) := by decide +kernel
theorem dX11_axis_42 : decode cX11_axis 42 = .ok (.aload_n 0, 1) := by decide +kernel
theorem dX11_axis_43 : decode cX11_axis 43 = .ok (.aload_n 0, 1) := by decide +kernel
theorem dX11_axis_44 : decode cX11_axis 44 = .ok (.getfield 12, 3) := by decide +kernel
theorem dX11_axis_47 : decode cX11_axis 47 = .ok (.aload_n 0, 1) := by decide +kernel
theorem dX11_axis_48 : decode cX11_axis 48 = .ok (.getfield 69, 3) := by decide +kernel
theorem dX11_axis_51 : decode cX11_axis 51 = .ok (.iload_n 2, 1) := by decide +kernel
theorem dX11_axis_52 : decode cX11_axis 52 = .ok (.aload_n 0, 1) := by decide +kernel
theorem dX11_axis_53 : decode cX11_axis 53 = .ok (.getfield 69, 3) := by decide +kernel
theorem dX11_axis_56 : decode cX11_axis 56 = .ok (.invokevirtual 180, 3) := by decide +kernel
theorem dX11_axis_59 : decode cX11_axis 59 = .ok (.invokestatic 205, 3) := by decide +kernel
theorem dX11_axis_62 : decode cX11_axis 62 = .ok (.invokevirtual 198, 3) := by decide +kernel
theorem dX11_axis_65 : decode cX11_axis 65 = .ok (.invokevirtual 326, 3) := by decide +kernel
theorem dX11_axis_68 : decode cX11_axis 68 = .ok (.invokevirtual 133, 3) := by decide +kernel
theorem dX11_axis_71 : decode cX11_axis 71 = .ok (.ireturn, 1) := by decide +kernel
theorem dX11_ball_0 : decode cX11_ball 0 = .ok (.iload_n 2, 1) := by decide +kernel
theorem dX11_ball_1 : decode cX11_ball 1 = .ok (.ifCond .lt 9, 3) := by decide +kernel
theorem dX11_ball_4 : decode cX11_ball 4 = .ok (.iload_n 2, 1) := by decide +kernel
theorem dX11_ball_5 : decode cX11_ball 5 = .ok (.bipush 12, 2) := by decide +kernel
theorem dX11_ball_7 : decode cX11_ball 7 = .ok (.if_icmp .le 10, 3) := by decide +kernel
theorem dX11_ball_10 : decode cX11_ball 10 = .ok (.aload_n 0, 1) := by decide +kernel
theorem dX11_ball_11 : decode cX11_ball 11 = .ok (.iconst 1, 1) := by decide +kernel
theorem dX11_ball_12 : decode cX11_ball 12 = .ok (.invokevirtual 110, 3) := by decide +kernel
theorem dX11_ball_15 : decode cX11_ball 15 = .ok (.i2l, 1) := by decide +kernel
theorem dX11_ball_16 : decode cX11_ball 16 = .ok (.lreturn, 1) := by decide +kernel
theorem dX11_ball_17 : decode cX11_ball 17 = .ok (.aload_n 0, 1) := by decide +kernel
theorem dX11_ball_18 : decode cX11_ball 18 = .ok (.getfield 12, 3) := by decide +kernel
theorem dX11_ball_21 : decode cX11_ball 21 = .ok (.iload_n 1, 1) := by decide +kernel
theorem dX11_ball_22 : decode cX11_ball 22 = .ok (.invokevirtual 152, 3) := by decide +kernel
theorem dX11_ball_25 : decode cX11_ball 25 = .ok (.ifCond .eq 24, 3) := by decide +kernel
theorem dX11_ball_28 : decode cX11_ball 28 = .ok (.aload_n 0, 1) := by decide +kernel
theorem dX11_ball_29 : decode cX11_ball 29 = .ok (.aload_n 0, 1) := by decide +kernel
theorem dX11_ball_30 : decode cX11_ball 30 = .ok (.getfield 102, 3) := by decide +kernel
theorem dX11_ball_33 : decode cX11_ball 33 = .ok (.aload_n 0, 1) := by decide +kernel
theorem dX11_ball_34 : decode cX11_ball 34 = .ok (.getfield 12, 3) := by decide +kernel
theorem dX11_ball_37 : decode cX11_ball 37 = .ok (.iload_n 1, 1) := by decide +kernel
theorem dX11_ball_38 : decode cX11_ball 38 = .ok (.iconst 1, 1) := by decide +kernel
theorem dX11_ball_39 : decode cX11_ball 39 = .ok (.iload_n 2, 1) := by decide +kernel
theorem dX11_ball_40 : decode cX11_ball 40 = .ok (.invokevirtual 318, 3) := by decide +kernel
theorem dX11_ball_43 : decode cX11_ball 43 = .ok (.invokevirtual 322, 3) := by decide +kernel
theorem dX11_ball_46 : decode cX11_ball 46 = .ok (.goto 9, 3) := by decide +kernel
theorem dX11_ball_49 : decode cX11_ball 49 = .ok (.aload_n 0, 1) := by decide +kernel
theorem dX11_ball_50 : decode cX11_ball 50 = .ok (.iconst 2, 1) := by decide +kernel
theorem dX11_ball_51 : decode cX11_ball 51 = .ok (.invokevirtual 110, 3) := by decide +kernel
theorem dX11_ball_54 : decode cX11_ball 54 = .ok (.i2l, 1) := by decide +kernel
theorem dX11_ball_55 : decode cX11_ball 55 = .ok (.lreturn, 1) := by decide +kernel
theorem dX11_sphere_0 : decode cX11_sphere 0 = .ok (.iload_n 2, 1) := by decide +kernel
theorem dX11_sphere_1 : decode cX11_sphere 1 = .ok (.ifCond .lt 9, 3) := by decide +kernel
theorem dX11_sphere_4 : decode cX11_sphere 4 = .ok (.iload_n 2, 1) := by decide +kernel
theorem dX11_sphere_5 : decode cX11_sphere 5 = .ok (.bipush 12, 2) := by decide +kernel
theorem dX11_sphere_7 : decode cX11_sphere 7 = .ok (.if_icmp .le 10, 3) := by decide +kernel
theorem dX11_sphere_10 : decode cX11_sphere 10 = .ok (.aload_n 0, 1) := by decide +kernel
theorem dX11_sphere_11 : decode cX11_sphere 11 = .ok (.iconst 1, 1) := by decide +kernel
theorem dX11_sphere_12 : decode cX11_sphere 12 = .ok (.invokevirtual 110, 3) := by decide +kernel
theorem dX11_sphere_15 : decode cX11_sphere 15 = .ok (.i2l, 1) := by decide +kernel
theorem dX11_sphere_16 : decode cX11_sphere 16 = .ok (.lreturn, 1) := by decide +kernel
theorem dX11_sphere_17 : decode cX11_sphere 17 = .ok (.aload_n 0, 1) := by decide +kernel
theorem dX11_sphere_18 : decode cX11_sphere 18 = .ok (.getfield 12, 3) := by decide +kernel
theorem dX11_sphere_21 : decode cX11_sphere 21 = .ok (.iload_n 1, 1) := by decide +kernel
theorem dX11_sphere_22 : decode cX11_sphere 22 = .ok (.invokevirtual 152, 3) := by decide +kernel
theorem dX11_sphere_25 : decode cX11_sphere 25 = .ok (.ifCond .eq 23, 3) := by decide +kernel
theorem dX11_sphere_28 : decode cX11_sphere 28 = .ok (.aload_n 0, 1) := by decide +kernel
theorem dX11_sphere_29 : decode cX11_sphere 29 = .ok (.aload_n 0, 1) := by decide +kernel
theorem dX11_sphere_30 : decode cX11_sphere 30 = .ok (.getfield 102, 3) := by decide +kernel
theorem dX11_sphere_33 : decode cX11_sphere 33 = .ok (.aload_n 0, 1) := by decide +kernel
theorem dX11_sphere_34 : decode cX11_sphere 34 = .ok (.getfield 12, 3) := by decide +kernel
theorem dX11_sphere_37 : decode cX11_sphere 37 = .ok (.iload_n 1, 1) := by decide +kernel
theorem dX11_sphere_38 : decode cX11_sphere 38 = .ok (.iload_n 2, 1) := by decide +kernel
theorem dX11_sphere_39 : decode cX11_sphere 39 = .ok (.invokevirtual 248, 3) := by decide +kernel
theorem dX11_sphere_42 : decode cX11_sphere 42 = .ok (.invokevirtual 322, 3) := by decide +kernel
theorem dX11_sphere_45 : decode cX11_sphere 45 = .ok (.goto 9, 3) := by decide +kernel
theorem dX11_sphere_48 : decode cX11_sphere 48 = .ok (.aload_n 0, 1) := by decide +kernel
theorem dX11_sphere_49 : decode cX11_sphere 49 = .ok (.iconst 2, 1) := by decide +kernel
theorem dX11_sphere_50 : decode cX11_sphere 50 = .ok (.invokevirtual 110, 3) := by decide +kernel
theorem dX11_sphere_53 : decode cX11_sphere 53 = .ok (.i2l, 1) := by decide +kernel
theorem dX11_sphere_54 : decode cX11_sphere 54 = .ok (.lreturn, 1) := by decide +kernel
theorem dX11_listed_0 : decode cX11_listed 0 = .ok (.aload_n 0, 1) := by decide +kernel
theorem dX11_listed_1 : decode cX11_listed 1 = .ok (.iload_n 1, 1) := by decide +kernel
theorem dX11_listed_2 : decode cX11_listed 2 = .ok (.invokevirtual 295, 3) := by decide +kernel
theorem dX11_listed_5 : decode cX11_listed 5 = .ok (.istore_n 2, 1) := by decide +kernel
theorem dX11_listed_6 : decode cX11_listed 6 = .ok (.iload_n 2, 1) := by decide +kernel
theorem dX11_listed_7 : decode cX11_listed 7 = .ok (.ifCond .eq 10, 3) := by decide +kernel
theorem dX11_listed_10 : decode cX11_listed 10 = .ok (.aload_n 0, 1) := by decide +kernel
theorem dX11_listed_11 : decode cX11_listed 11 = .ok (.iload_n 2, 1) := by decide +kernel
theorem dX11_listed_12 : decode cX11_listed 12 = .ok (.invokevirtual 110, 3) := by decide +kernel
theorem dX11_listed_15 : decode cX11_listed 15 = .ok (.i2l, 1) := by decide +kernel
theorem dX11_listed_16 : decode cX11_listed 16 = .ok (.lreturn, 1) := by decide +kernel
theorem dX11_listed_17 : decode cX11_listed 17 = .ok (.aload_n 0, 1) := by decide +kernel
theorem dX11_listed_18 : decode cX11_listed 18 = .ok (.getfield 12, 3) := by decide +kernel
theorem dX11_listed_21 : decode cX11_listed 21 = .ok (.aload_n 0, 1) := by decide +kernel
theorem dX11_listed_22 : decode cX11_listed 22 = .ok (.getfield 62, 3) := by decide +kernel
theorem dX11_listed_25 : decode cX11_listed 25 = .ok (.aload_n 0, 1) := by decide +kernel
theorem dX11_listed_26 : decode cX11_listed 26 = .ok (.getfield 69, 3) := by decide +kernel
theorem dX11_listed_29 : decode cX11_listed 29 = .ok (.invokestatic 181, 3) := by decide +kernel
theorem dX11_listed_32 : decode cX11_listed 32 = .ok (.pop, 1) := by decide +kernel
theorem dX11_listed_33 : decode cX11_listed 33 = .ok (.aload_n 0, 1) := by decide +kernel
theorem dX11_listed_34 : decode cX11_listed 34 = .ok (.getfield 69, 3) := by decide +kernel
theorem dX11_listed_37 : decode cX11_listed 37 = .ok (.invokevirtual 180, 3) := by decide +kernel
theorem dX11_listed_40 : decode cX11_listed 40 = .ok (.bipush 12, 2) := by decide +kernel
theorem dX11_listed_42 : decode cX11_listed 42 = .ok (.if_icmp .le 12, 3) := by decide +kernel
theorem dX11_listed_45 : decode cX11_listed 45 = .ok (.aload_n 0, 1) := by decide +kernel
theorem dX11_listed_46 : decode cX11_listed 46 = .ok (.iconst 5, 1) := by decide +kernel
theorem dX11_listed_47 : decode cX11_listed 47 = .ok (.invokevirtual 110, 3) := by decide +kernel
theorem dX11_listed_50 : decode cX11_listed 50 = .ok (.i2l, 1) := by decide +kernel
theorem dX11_listed_51 : decode cX11_listed 51 = .ok (.goto 22, 3) := by decide +kernel
theorem dX11_listed_54 : decode cX11_listed 54 = .ok (.aload_n 0, 1) := by decide +kernel
theorem dX11_listed_55 : decode cX11_listed 55 = .ok (.aload_n 0, 1) := by decide +kernel
theorem dX11_listed_56 : decode cX11_listed 56 = .ok (.getfield 102, 3) := by decide +kernel
theorem dX11_listed_59 : decode cX11_listed 59 = .ok (.aload_n 0, 1) := by decide +kernel
theorem dX11_listed_60 : decode cX11_listed 60 = .ok (.getfield 12, 3) := by decide +kernel
theorem dX11_listed_63 : decode cX11_listed 63 = .ok (.aload_n 0, 1) := by decide +kernel
theorem dX11_listed_64 : decode cX11_listed 64 = .ok (.getfield 69, 3) := by decide +kernel
theorem dX11_listed_67 : decode cX11_listed 67 = .ok (.invokevirtual 329, 3) := by decide +kernel
theorem dX11_listed_70 : decode cX11_listed 70 = .ok (.invokevirtual 322, 3) := by decide +kernel
theorem dX11_listed_73 : decode cX11_listed 73 = .ok (.lreturn, 1) := by decide +kernel
theorem dX11_near_0 : decode cX11_near 0 = .ok (.iload_n 2, 1) := by decide +kernel
theorem dX11_near_1 : decode cX11_near 1 = .ok (.ifCond .lt 9, 3) := by decide +kernel
theorem dX11_near_4 : decode cX11_near 4 = .ok (.iload_n 2, 1) := by decide +kernel
theorem dX11_near_5 : decode cX11_near 5 = .ok (.bipush 99, 2) := by decide +kernel
theorem dX11_near_7 : decode cX11_near 7 = .ok (.if_icmp .le 9, 3) := by decide +kernel
theorem dX11_near_10 : decode cX11_near 10 = .ok (.aload_n 0, 1) := by decide +kernel
theorem dX11_near_11 : decode cX11_near 11 = .ok (.iconst 1, 1) := by decide +kernel
theorem dX11_near_12 : decode cX11_near 12 = .ok (.invokevirtual 110, 3) := by decide +kernel
theorem dX11_near_15 : decode cX11_near 15 = .ok (.ireturn, 1) := by decide +kernel
theorem dX11_near_16 : decode cX11_near 16 = .ok (.aload_n 0, 1) := by decide +kernel
theorem dX11_near_17 : decode cX11_near 17 = .ok (.getfield 12, 3) := by decide +kernel
theorem dX11_near_20 : decode cX11_near 20 = .ok (.iload_n 1, 1) := by decide +kernel
theorem dX11_near_21 : decode cX11_near 21 = .ok (.invokevirtual 256, 3) := by decide +kernel
theorem dX11_near_24 : decode cX11_near 24 = .ok (.ifCond .ne 9, 3) := by decide +kernel
theorem dX11_near_27 : decode cX11_near 27 = .ok (.aload_n 0, 1) := by decide +kernel
theorem dX11_near_28 : decode cX11_near 28 = .ok (.iconst 2, 1) := by decide +kernel
theorem dX11_near_29 : decode cX11_near 29 = .ok (.invokevirtual 110, 3) := by decide +kernel
theorem dX11_near_32 : decode cX11_near 32 = .ok (.ireturn, 1) := by decide +kernel
theorem dX11_near_33 : decode cX11_near 33 = .ok (.iconst 0, 1) := by decide +kernel
theorem dX11_near_34 : decode cX11_near 34 = .ok (.istore_n 3, 1) := by decide +kernel
theorem dX11_near_35 : decode cX11_near 35 = .ok (.iconst 0, 1) := by decide +kernel
theorem dX11_near_36 : decode cX11_near 36 = .ok (.istore 4, 2) := by decide +kernel
theorem dX11_near_38 : decode cX11_near 38 = .ok (.iload 4, 2) := by decide +kernel
theorem dX11_near_40 : decode cX11_near 40 = .ok (.aload_n 0, 1) := by decide +kernel
theorem dX11_near_41 : decode cX11_near 41 = .ok (.getfield 12, 3) := by decide +kernel
theorem dX11_near_44 : decode cX11_near 44 = .ok (.invokevirtual 129, 3) := by decide +kernel
theorem dX11_near_47 : decode cX11_near 47 = .ok (.if_icmp .ge 37, 3) := by decide +kernel
theorem dX11_near_50 : decode cX11_near 50 = .ok (.aload_n 0, 1) := by decide +kernel
theorem dX11_near_51 : decode cX11_near 51 = .ok (.iload_n 1, 1) := by decide +kernel
theorem dX11_near_52 : decode cX11_near 52 = .ok (.iload 4, 2) := by decide +kernel
theorem dX11_near_54 : decode cX11_near 54 = .ok (.invokevirtual 312, 3) := by decide +kernel
theorem dX11_near_57 : decode cX11_near 57 = .ok (.ifCond .ne 21, 3) := by decide +kernel
theorem dX11_near_60 : decode cX11_near 60 = .ok (.aload_n 0, 1) := by decide +kernel
theorem dX11_near_61 : decode cX11_near 61 = .ok (.getfield 69, 3) := by decide +kernel
theorem dX11_near_64 : decode cX11_near 64 = .ok (.invokevirtual 180, 3) := by decide +kernel
theorem dX11_near_67 : decode cX11_near 67 = .ok (.iload_n 2, 1) := by decide +kernel
theorem dX11_near_68 : decode cX11_near 68 = .ok (.if_icmp .gt 10, 3) := by decide +kernel
theorem dX11_near_71 : decode cX11_near 71 = .ok (.iload_n 3, 1) := by decide +kernel
theorem dX11_near_72 : decode cX11_near 72 = .ok (.iconst 1, 1) := by decide +kernel
theorem dX11_near_73 : decode cX11_near 73 = .ok (.iload 4, 2) := by decide +kernel
theorem dX11_near_75 : decode cX11_near 75 = .ok (.ishl, 1) := by decide +kernel
theorem dX11_near_76 : decode cX11_near 76 = .ok (.ior, 1) := by decide +kernel
theorem dX11_near_77 : decode cX11_near 77 = .ok (.istore_n 3, 1) := by decide +kernel
theorem dX11_near_78 : decode cX11_near 78 = .ok (.iinc 4 1, 3) := by decide +kernel
theorem dX11_near_81 : decode cX11_near 81 = .ok (.goto (-43), 3) := by decide +kernel
theorem dX11_near_84 : decode cX11_near 84 = .ok (.aload_n 0, 1) := by decide +kernel
theorem dX11_near_85 : decode cX11_near 85 = .ok (.iload_n 3, 1) := by decide +kernel
theorem dX11_near_86 : decode cX11_near 86 = .ok (.invokevirtual 133, 3) := by decide +kernel
theorem dX11_near_89 : decode cX11_near 89 = .ok (.ireturn, 1) := by decide +kernel
theorem dX11_meet_0 : decode cX11_meet 0 = .ok (.aload_n 0, 1) := by decide +kernel
theorem dX11_meet_1 : decode cX11_meet 1 = .ok (.getfield 12, 3) := by decide +kernel
theorem dX11_meet_4 : decode cX11_meet 4 = .ok (.iload_n 1, 1) := by decide +kernel
theorem dX11_meet_5 : decode cX11_meet 5 = .ok (.invokevirtual 152, 3) := by decide +kernel
theorem dX11_meet_8 : decode cX11_meet 8 = .ok (.ifCond .ne 9, 3) := by decide +kernel
theorem dX11_meet_11 : decode cX11_meet 11 = .ok (.aload_n 0, 1) := by decide +kernel
theorem dX11_meet_12 : decode cX11_meet 12 = .ok (.iconst 2, 1) := by decide +kernel
theorem dX11_meet_13 : decode cX11_meet 13 = .ok (.invokevirtual 110, 3) := by decide +kernel
theorem dX11_meet_16 : decode cX11_meet 16 = .ok (.ireturn, 1) := by decide +kernel
theorem dX11_meet_17 : decode cX11_meet 17 = .ok (.iconst 0, 1) := by decide +kernel
theorem dX11_meet_18 : decode cX11_meet 18 = .ok (.istore_n 2, 1) := by decide +kernel
theorem dX11_meet_19 : decode cX11_meet 19 = .ok (.iconst 0, 1) := by decide +kernel
theorem dX11_meet_20 : decode cX11_meet 20 = .ok (.istore_n 3, 1) := by decide +kernel
theorem dX11_meet_21 : decode cX11_meet 21 = .ok (.iload_n 3, 1) := by decide +kernel
theorem dX11_meet_22 : decode cX11_meet 22 = .ok (.aload_n 0, 1) := by decide +kernel
theorem dX11_meet_23 : decode cX11_meet 23 = .ok (.getfield 12, 3) := by decide +kernel
theorem dX11_meet_26 : decode cX11_meet 26 = .ok (.invokevirtual 333, 3) := by decide +kernel
theorem dX11_meet_29 : decode cX11_meet 29 = .ok (.if_icmp .ge 36, 3) := by decide +kernel
theorem dX11_meet_32 : decode cX11_meet 32 = .ok (.iload_n 2, 1) := by decide +kernel
theorem dX11_meet_33 : decode cX11_meet 33 = .ok (.aload_n 0, 1) := by decide +kernel
theorem dX11_meet_34 : decode cX11_meet 34 = .ok (.getfield 12, 3) := by decide +kernel
theorem dX11_meet_37 : decode cX11_meet 37 = .ok (.iload_n 3, 1) := by decide +kernel
theorem dX11_meet_38 : decode cX11_meet 38 = .ok (.invokevirtual 326, 3) := by decide +kernel
theorem dX11_meet_41 : decode cX11_meet 41 = .ok (.iload_n 1, 1) := by decide +kernel
theorem dX11_meet_42 : decode cX11_meet 42 = .ok (.if_icmp .ne 14, 3) := by decide +kernel
theorem dX11_meet_45 : decode cX11_meet 45 = .ok (.aload_n 0, 1) := by decide +kernel
theorem dX11_meet_46 : decode cX11_meet 46 = .ok (.getfield 12, 3) := by decide +kernel
theorem dX11_meet_49 : decode cX11_meet 49 = .ok (.iload_n 3, 1) := by decide +kernel
theorem dX11_meet_50 : decode cX11_meet 50 = .ok (.invokevirtual 336, 3) := by decide +kernel
theorem dX11_meet_53 : decode cX11_meet 53 = .ok (.goto 4, 3) := by decide +kernel
theorem dX11_meet_56 : decode cX11_meet 56 = .ok (.iconst 0, 1) := by decide +kernel
theorem dX11_meet_57 : decode cX11_meet 57 = .ok (.iadd, 1) := by decide +kernel
theorem dX11_meet_58 : decode cX11_meet 58 = .ok (.istore_n 2, 1) := by decide +kernel
theorem dX11_meet_59 : decode cX11_meet 59 = .ok (.iinc 3 1, 3) := by decide +kernel
theorem dX11_meet_62 : decode cX11_meet 62 = .ok (.goto (-41), 3) := by decide +kernel
theorem dX11_meet_65 : decode cX11_meet 65 = .ok (.aload_n 0, 1) := by decide +kernel
theorem dX11_meet_66 : decode cX11_meet 66 = .ok (.iload_n 2, 1) := by decide +kernel
theorem dX11_meet_67 : decode cX11_meet 67 = .ok (.invokevirtual 133, 3) := by decide +kernel
theorem dX11_meet_70 : decode cX11_meet 70 = .ok (.ireturn, 1) := by decide +kernel
theorem dX11_tell_0 : decode cX11_tell 0 = .ok (.aload_n 0, 1) := by decide +kernel
theorem dX11_tell_1 : decode cX11_tell 1 = .ok (.getfield 12, 3) := by decide +kernel
theorem dX11_tell_4 : decode cX11_tell 4 = .ok (.iload_n 1, 1) := by decide +kernel
theorem dX11_tell_5 : decode cX11_tell 5 = .ok (.aload_n 0, 1) := by decide +kernel
theorem dX11_tell_6 : decode cX11_tell 6 = .ok (.getfield 62, 3) := by decide +kernel
theorem dX11_tell_9 : decode cX11_tell 9 = .ok (.invokevirtual 169, 3) := by decide +kernel
theorem dX11_tell_12 : decode cX11_tell 12 = .ok (.ifCond .ne 9, 3) := by decide +kernel
theorem dX11_tell_15 : decode cX11_tell 15 = .ok (.aload_n 0, 1) := by decide +kernel
theorem dX11_tell_16 : decode cX11_tell 16 = .ok (.iconst 2, 1) := by decide +kernel
theorem dX11_tell_17 : decode cX11_tell 17 = .ok (.invokevirtual 110, 3) := by decide +kernel
theorem dX11_tell_20 : decode cX11_tell 20 = .ok (.ireturn, 1) := by decide +kernel
theorem dX11_tell_21 : decode cX11_tell 21 = .ok (.aload_n 0, 1) := by decide +kernel
theorem dX11_tell_22 : decode cX11_tell 22 = .ok (.aload_n 0, 1) := by decide +kernel
theorem dX11_tell_23 : decode cX11_tell 23 = .ok (.getfield 55, 3) := by decide +kernel
theorem dX11_tell_26 : decode cX11_tell 26 = .ok (.aload_n 0, 1) := by decide +kernel
theorem dX11_tell_27 : decode cX11_tell 27 = .ok (.getfield 62, 3) := by decide +kernel
theorem dX11_tell_30 : decode cX11_tell 30 = .ok (.invokevirtual 339, 3) := by decide +kernel
theorem dX11_tell_33 : decode cX11_tell 33 = .ok (.invokevirtual 133, 3) := by decide +kernel
theorem dX11_tell_36 : decode cX11_tell 36 = .ok (.ireturn, 1) := by decide +kernel
theorem dX11_out_0 : decode cX11_out 0 = .ok (.iload_n 1, 1) := by decide +kernel
theorem dX11_out_1 : decode cX11_out 1 = .ok (.ifCond .ge 9, 3) := by decide +kernel
theorem dX11_out_4 : decode cX11_out 4 = .ok (.aload_n 0, 1) := by decide +kernel
theorem dX11_out_5 : decode cX11_out 5 = .ok (.iconst 1, 1) := by decide +kernel
theorem dX11_out_6 : decode cX11_out 6 = .ok (.invokevirtual 110, 3) := by decide +kernel
theorem dX11_out_9 : decode cX11_out 9 = .ok (.ireturn, 1) := by decide +kernel
theorem dX11_out_10 : decode cX11_out 10 = .ok (.iload_n 1, 1) := by decide +kernel
theorem dX11_out_11 : decode cX11_out 11 = .ok (.aload_n 0, 1) := by decide +kernel
theorem dX11_out_12 : decode cX11_out 12 = .ok (.getfield 55, 3) := by decide +kernel
theorem dX11_out_15 : decode cX11_out 15 = .ok (.invokevirtual 342, 3) := by decide +kernel
theorem dX11_out_18 : decode cX11_out 18 = .ok (.if_icmp .lt 11, 3) := by decide +kernel
theorem dX11_out_21 : decode cX11_out 21 = .ok (.aload_n 0, 1) := by decide +kernel
theorem dX11_out_22 : decode cX11_out 22 = .ok (.iconst 5, 1) := by decide +kernel
theorem dX11_out_23 : decode cX11_out 23 = .ok (.invokevirtual 110, 3) := by decide +kernel
theorem dX11_out_26 : decode cX11_out 26 = .ok (.goto 15, 3) := by decide +kernel
theorem dX11_out_29 : decode cX11_out 29 = .ok (.aload_n 0, 1) := by decide +kernel
theorem dX11_out_30 : decode cX11_out 30 = .ok (.aload_n 0, 1) := by decide +kernel
theorem dX11_out_31 : decode cX11_out 31 = .ok (.getfield 55, 3) := by decide +kernel
theorem dX11_out_34 : decode cX11_out 34 = .ok (.iload_n 1, 1) := by decide +kernel
theorem dX11_out_35 : decode cX11_out 35 = .ok (.invokevirtual 343, 3) := by decide +kernel
theorem dX11_out_38 : decode cX11_out 38 = .ok (.invokevirtual 133, 3) := by decide +kernel
theorem dX11_out_41 : decode cX11_out 41 = .ok (.ireturn, 1) := by decide +kernel
theorem dX11_chi_0 : decode cX11_chi 0 = .ok (.iload_n 1, 1) := by decide +kernel
theorem dX11_chi_1 : decode cX11_chi 1 = .ok (.ifCond .lt 8, 3) := by decide +kernel
theorem dX11_chi_4 : decode cX11_chi 4 = .ok (.iload_n 1, 1) := by decide +kernel
theorem dX11_chi_5 : decode cX11_chi 5 = .ok (.iconst 1, 1) := by decide +kernel
theorem dX11_chi_6 : decode cX11_chi 6 = .ok (.if_icmp .le 9, 3) := by decide +kernel
theorem dX11_chi_9 : decode cX11_chi 9 = .ok (.aload_n 0, 1) := by decide +kernel
theorem dX11_chi_10 : decode cX11_chi 10 = .ok (.iconst 1, 1) := by decide +kernel
theorem dX11_chi_11 : decode cX11_chi 11 = .ok (.invokevirtual 110, 3) := by decide +kernel
theorem dX11_chi_14 : decode cX11_chi 14 = .ok (.ireturn, 1) := by decide +kernel
theorem dX11_chi_15 : decode cX11_chi 15 = .ok (.aload_n 0, 1) := by decide +kernel
theorem dX11_chi_16 : decode cX11_chi 16 = .ok (.getfield 95, 3) := by decide +kernel
theorem dX11_chi_19 : decode cX11_chi 19 = .ok (.aload_n 0, 1) := by decide +kernel
theorem dX11_chi_20 : decode cX11_chi 20 = .ok (.getfield 12, 3) := by decide +kernel
theorem dX11_chi_23 : decode cX11_chi 23 = .ok (.invokevirtual 346, 3) := by decide +kernel
theorem dX11_chi_26 : decode cX11_chi 26 = .ok (.aload_n 0, 1) := by decide +kernel
theorem dX11_chi_27 : decode cX11_chi 27 = .ok (.iload_n 1, 1) := by decide +kernel
theorem dX11_chi_28 : decode cX11_chi 28 = .ok (.ifCond .ne 13, 3) := by decide +kernel
theorem dX11_chi_31 : decode cX11_chi 31 = .ok (.aload_n 0, 1) := by decide +kernel
theorem dX11_chi_32 : decode cX11_chi 32 = .ok (.getfield 95, 3) := by decide +kernel
theorem dX11_chi_35 : decode cX11_chi 35 = .ok (.invokevirtual 349, 3) := by decide +kernel
theorem dX11_chi_38 : decode cX11_chi 38 = .ok (.goto 10, 3) := by decide +kernel
theorem dX11_chi_41 : decode cX11_chi 41 = .ok (.aload_n 0, 1) := by decide +kernel
theorem dX11_chi_42 : decode cX11_chi 42 = .ok (.getfield 95, 3) := by decide +kernel
theorem dX11_chi_45 : decode cX11_chi 45 = .ok (.invokevirtual 353, 3) := by decide +kernel
theorem dX11_chi_48 : decode cX11_chi 48 = .ok (.l2i, 1) := by decide +kernel
theorem dX11_chi_49 : decode cX11_chi 49 = .ok (.invokevirtual 133, 3) := by decide +kernel
theorem dX11_chi_52 : decode cX11_chi 52 = .ok (.ireturn, 1) := by decide +kernel
theorem dX11_fail_0 : decode cX11_fail 0 = .ok (.aload_n 0, 1) := by decide +kernel
theorem dX11_fail_1 : decode cX11_fail 1 = .ok (.iload_n 1, 1) := by decide +kernel
theorem dX11_fail_2 : decode cX11_fail 2 = .ok (.putfield 35, 3) := by decide +kernel
theorem dX11_fail_5 : decode cX11_fail 5 = .ok (.iconst (-1), 1) := by decide +kernel
theorem dX11_fail_6 : decode cX11_fail 6 = .ok (.ireturn, 1) := by decide +kernel
theorem dX11_answer_0 : decode cX11_answer 0 = .ok (.aload_n 0, 1) := by decide +kernel
theorem dX11_answer_1 : decode cX11_answer 1 = .ok (.iconst 0, 1) := by decide +kernel
theorem dX11_answer_2 : decode cX11_answer 2 = .ok (.putfield 35, 3) := by decide +kernel
theorem dX11_answer_5 : decode cX11_answer 5 = .ok (.iload_n 1, 1) := by decide +kernel
theorem dX11_answer_6 : decode cX11_answer 6 = .ok (.ireturn, 1) := by decide +kernel
theorem dX11_answerLong_0 : decode cX11_answerLong 0 = .ok (.aload_n 0, 1) := by decide +kernel
theorem dX11_answerLong_1 : decode cX11_answerLong 1 = .ok (.iconst 0, 1) := by decide +kernel
theorem dX11_answerLong_2 : decode cX11_answerLong 2 = .ok (.putfield 35, 3) := by decide +kernel
theorem dX11_answerLong_5 : decode cX11_answerLong 5 = .ok (.lload_n 1, 1) := by decide +kernel
theorem dX11_answerLong_6 : decode cX11_answerLong 6 = .ok (.lreturn, 1) := by decide +kernel
theorem dX11_keep_0 : decode cX11_keep 0 = .ok (.aload_n 0, 1) := by decide +kernel
theorem dX11_keep_1 : decode cX11_keep 1 = .ok (.getfield 19, 3) := by decide +kernel
theorem dX11_keep_4 : decode cX11_keep 4 = .ok (.aload_n 0, 1) := by decide +kernel
theorem dX11_keep_5 : decode cX11_keep 5 = .ok (.getfield 12, 3) := by decide +kernel
theorem dX11_keep_8 : decode cX11_keep 8 = .ok (.invokevirtual 118, 3) := by decide +kernel
theorem dX11_keep_11 : decode cX11_keep 11 = .ok (.aload_n 0, 1) := by decide +kernel
theorem dX11_keep_12 : decode cX11_keep 12 = .ok (.aload_n 0, 1) := by decide +kernel
theorem dX11_keep_13 : decode cX11_keep 13 = .ok (.getfield 12, 3) := by decide +kernel
theorem dX11_keep_16 : decode cX11_keep 16 = .ok (.aload_n 1, 1) := by decide +kernel
theorem dX11_keep_17 : decode cX11_keep 17 = .ok (.invokevirtual 356, 3) := by decide +kernel
theorem dX11_keep_20 : decode cX11_keep 20 = .ok (.invokevirtual 133, 3) := by decide +kernel
theorem dX11_keep_23 : decode cX11_keep 23 = .ok (.ireturn, 1) := by decide +kernel
theorem dX11_readTwo_0 : decode cX11_readTwo 0 = .ok (.aload_n 0, 1) := by decide +kernel
theorem dX11_readTwo_1 : decode cX11_readTwo 1 = .ok (.getfield 12, 3) := by decide +kernel
theorem dX11_readTwo_4 : decode cX11_readTwo 4 = .ok (.iload_n 1, 1) := by decide +kernel
theorem dX11_readTwo_5 : decode cX11_readTwo 5 = .ok (.aload_n 0, 1) := by decide +kernel
theorem dX11_readTwo_6 : decode cX11_readTwo 6 = .ok (.getfield 62, 3) := by decide +kernel
theorem dX11_readTwo_9 : decode cX11_readTwo 9 = .ok (.invokevirtual 169, 3) := by decide +kernel
theorem dX11_readTwo_12 : decode cX11_readTwo 12 = .ok (.ifCond .eq 22, 3) := by decide +kernel
theorem dX11_readTwo_15 : decode cX11_readTwo 15 = .ok (.aload_n 0, 1) := by decide +kernel
theorem dX11_readTwo_16 : decode cX11_readTwo 16 = .ok (.getfield 12, 3) := by decide +kernel
theorem dX11_readTwo_19 : decode cX11_readTwo 19 = .ok (.iload_n 2, 1) := by decide +kernel
theorem dX11_readTwo_20 : decode cX11_readTwo 20 = .ok (.aload_n 0, 1) := by decide +kernel
theorem dX11_readTwo_21 : decode cX11_readTwo 21 = .ok (.getfield 66, 3) := by decide +kernel
theorem dX11_readTwo_24 : decode cX11_readTwo 24 = .ok (.invokevirtual 169, 3) := by decide +kernel
theorem dX11_readTwo_27 : decode cX11_readTwo 27 = .ok (.ifCond .eq 7, 3) := by decide +kernel
theorem dX11_readTwo_30 : decode cX11_readTwo 30 = .ok (.iconst 1, 1) := by decide +kernel
theorem dX11_readTwo_31 : decode cX11_readTwo 31 = .ok (.goto 4, 3) := by decide +kernel
theorem dX11_readTwo_34 : decode cX11_readTwo 34 = .ok (.iconst 0, 1) := by decide +kernel
theorem dX11_readTwo_35 : decode cX11_readTwo 35 = .ok (.ireturn, 1) := by decide +kernel
theorem dX11_readLoop_0 : decode cX11_readLoop 0 = .ok (.aload_n 0, 1) := by decide +kernel
theorem dX11_readLoop_1 : decode cX11_readLoop 1 = .ok (.getfield 12, 3) := by decide +kernel
theorem dX11_readLoop_4 : decode cX11_readLoop 4 = .ok (.iload_n 1, 1) := by decide +kernel
theorem dX11_readLoop_5 : decode cX11_readLoop 5 = .ok (.aload_n 0, 1) := by decide +kernel
theorem dX11_readLoop_6 : decode cX11_readLoop 6 = .ok (.getfield 62, 3) := by decide +kernel
theorem dX11_readLoop_9 : decode cX11_readLoop 9 = .ok (.invokevirtual 169, 3) := by decide +kernel
theorem dX11_readLoop_12 : decode cX11_readLoop 12 = .ok (.ifCond .ne 5, 3) := by decide +kernel
theorem dX11_readLoop_15 : decode cX11_readLoop 15 = .ok (.iconst 2, 1) := by decide +kernel
theorem dX11_readLoop_16 : decode cX11_readLoop 16 = .ok (.ireturn, 1) := by decide +kernel
theorem dX11_readLoop_17 : decode cX11_readLoop 17 = .ok (.aload_n 0, 1) := by decide +kernel
theorem dX11_readLoop_18 : decode cX11_readLoop 18 = .ok (.getfield 12, 3) := by decide +kernel
theorem dX11_readLoop_21 : decode cX11_readLoop 21 = .ok (.aload_n 0, 1) := by decide +kernel
theorem dX11_readLoop_22 : decode cX11_readLoop 22 = .ok (.getfield 62, 3) := by decide +kernel
theorem dX11_readLoop_25 : decode cX11_readLoop 25 = .ok (.invokevirtual 298, 3) := by decide +kernel
theorem dX11_readLoop_28 : decode cX11_readLoop 28 = .ok (.ifCond .eq 7, 3) := by decide +kernel
theorem dX11_readLoop_31 : decode cX11_readLoop 31 = .ok (.iconst 0, 1) := by decide +kernel
theorem dX11_readLoop_32 : decode cX11_readLoop 32 = .ok (.goto 4, 3) := by decide +kernel
theorem dX11_readLoop_35 : decode cX11_readLoop 35 = .ok (.iconst 4, 1) := by decide +kernel
theorem dX11_readLoop_36 : decode cX11_readLoop 36 = .ok (.ireturn, 1) := by decide +kernel
theorem dX11_readTwoLoops_0 : decode cX11_readTwoLoops 0 = .ok (.aload_n 0, 1) := by decide +kernel
theorem dX11_readTwoLoops_1 : decode cX11_readTwoLoops 1 = .ok (.iload_n 1, 1) := by decide +kernel
theorem dX11_readTwoLoops_2 : decode cX11_readTwoLoops 2 = .ok (.iload_n 2, 1) := by decide +kernel
theorem dX11_readTwoLoops_3 : decode cX11_readTwoLoops 3 = .ok (.invokevirtual 219, 3) := by decide +kernel
theorem dX11_readTwoLoops_6 : decode cX11_readTwoLoops 6 = .ok (.ifCond .ne 5, 3) := by decide +kernel
theorem dX11_readTwoLoops_9 : decode cX11_readTwoLoops 9 = .ok (.iconst 2, 1) := by decide +kernel
theorem dX11_readTwoLoops_10 : decode cX11_readTwoLoops 10 = .ok (.ireturn, 1) := by decide +kernel
theorem dX11_readTwoLoops_11 : decode cX11_readTwoLoops 11 = .ok (.aload_n 0, 1) := by decide +kernel
theorem dX11_readTwoLoops_12 : decode cX11_readTwoLoops 12 = .ok (.getfield 12, 3) := by decide +kernel
theorem dX11_readTwoLoops_15 : decode cX11_readTwoLoops 15 = .ok (.aload_n 0, 1) := by decide +kernel
theorem dX11_readTwoLoops_16 : decode cX11_readTwoLoops 16 = .ok (.getfield 62, 3) := by decide +kernel
theorem dX11_readTwoLoops_19 : decode cX11_readTwoLoops 19 = .ok (.invokevirtual 298, 3) := by decide +kernel
theorem dX11_readTwoLoops_22 : decode cX11_readTwoLoops 22 = .ok (.ifCond .eq 21, 3) := by decide +kernel
theorem dX11_readTwoLoops_25 : decode cX11_readTwoLoops 25 = .ok (.aload_n 0, 1) := by decide +kernel
theorem dX11_readTwoLoops_26 : decode cX11_readTwoLoops 26 = .ok (.getfield 12, 3) := by decide +kernel
theorem dX11_readTwoLoops_29 : decode cX11_readTwoLoops 29 = .ok (.aload_n 0, 1) := by decide +kernel
theorem dX11_readTwoLoops_30 : decode cX11_readTwoLoops 30 = .ok (.getfield 66, 3) := by decide +kernel
theorem dX11_readTwoLoops_33 : decode cX11_readTwoLoops 33 = .ok (.invokevirtual 298, 3) := by decide +kernel
theorem dX11_readTwoLoops_36 : decode cX11_readTwoLoops 36 = .ok (.ifCond .eq 7, 3) := by decide +kernel
theorem dX11_readTwoLoops_39 : decode cX11_readTwoLoops 39 = .ok (.iconst 0, 1) := by decide +kernel
theorem dX11_readTwoLoops_40 : decode cX11_readTwoLoops 40 = .ok (.goto 4, 3) := by decide +kernel
theorem dX11_readTwoLoops_43 : decode cX11_readTwoLoops 43 = .ok (.iconst 4, 1) := by decide +kernel
theorem dX11_readTwoLoops_44 : decode cX11_readTwoLoops 44 = .ok (.ireturn, 1) := by decide +kernel
theorem dX11_cannotGrowFromLoop_0 : decode cX11_cannotGrowFromLoop 0 = .ok (.aload_n 0, 1) := by decide +kernel
theorem dX11_cannotGrowFromLoop_1 : decode cX11_cannotGrowFromLoop 1 = .ok (.iload_n 1, 1) := by decide +kernel
theorem dX11_cannotGrowFromLoop_2 : decode cX11_cannotGrowFromLoop 2 = .ok (.invokevirtual 295, 3) := by decide +kernel
theorem dX11_cannotGrowFromLoop_5 : decode cX11_cannotGrowFromLoop 5 = .ok (.istore_n 2, 1) := by decide +kernel
theorem dX11_cannotGrowFromLoop_6 : decode cX11_cannotGrowFromLoop 6 = .ok (.iload_n 2, 1) := by decide +kernel
theorem dX11_cannotGrowFromLoop_7 : decode cX11_cannotGrowFromLoop 7 = .ok (.iconst 2, 1) := by decide +kernel
theorem dX11_cannotGrowFromLoop_8 : decode cX11_cannotGrowFromLoop 8 = .ok (.if_icmp .eq 17, 3) := by decide +kernel
theorem dX11_cannotGrowFromLoop_11 : decode cX11_cannotGrowFromLoop 11 = .ok (.aload_n 0, 1) := by decide +kernel
theorem dX11_cannotGrowFromLoop_12 : decode cX11_cannotGrowFromLoop 12 = .ok (.getfield 12, 3) := by decide +kernel
theorem dX11_cannotGrowFromLoop_15 : decode cX11_cannotGrowFromLoop 15 = .ok (.invokevirtual 201, 3) := by decide +kernel
theorem dX11_cannotGrowFromLoop_18 : decode cX11_cannotGrowFromLoop 18 = .ok (.ifCond .eq 7, 3) := by decide +kernel
theorem dX11_cannotGrowFromLoop_21 : decode cX11_cannotGrowFromLoop 21 = .ok (.iconst 3, 1) := by decide +kernel
theorem dX11_cannotGrowFromLoop_22 : decode cX11_cannotGrowFromLoop 22 = .ok (.goto 4, 3) := by decide +kernel
theorem dX11_cannotGrowFromLoop_25 : decode cX11_cannotGrowFromLoop 25 = .ok (.iload_n 2, 1) := by decide +kernel
theorem dX11_cannotGrowFromLoop_26 : decode cX11_cannotGrowFromLoop 26 = .ok (.ireturn, 1) := by decide +kernel
theorem dX11_readCore_0 : decode cX11_readCore 0 = .ok (.aload_n 0, 1) := by decide +kernel
theorem dX11_readCore_1 : decode cX11_readCore 1 = .ok (.iload_n 1, 1) := by decide +kernel
theorem dX11_readCore_2 : decode cX11_readCore 2 = .ok (.invokevirtual 295, 3) := by decide +kernel
theorem dX11_readCore_5 : decode cX11_readCore 5 = .ok (.istore_n 2, 1) := by decide +kernel
theorem dX11_readCore_6 : decode cX11_readCore 6 = .ok (.iload_n 2, 1) := by decide +kernel
theorem dX11_readCore_7 : decode cX11_readCore 7 = .ok (.ifCond .ne 22, 3) := by decide +kernel
theorem dX11_readCore_10 : decode cX11_readCore 10 = .ok (.aload_n 0, 1) := by decide +kernel
theorem dX11_readCore_11 : decode cX11_readCore 11 = .ok (.getfield 12, 3) := by decide +kernel
theorem dX11_readCore_14 : decode cX11_readCore 14 = .ok (.aload_n 0, 1) := by decide +kernel
theorem dX11_readCore_15 : decode cX11_readCore 15 = .ok (.getfield 62, 3) := by decide +kernel
theorem dX11_readCore_18 : decode cX11_readCore 18 = .ok (.aload_n 0, 1) := by decide +kernel
theorem dX11_readCore_19 : decode cX11_readCore 19 = .ok (.getfield 69, 3) := by decide +kernel
theorem dX11_readCore_22 : decode cX11_readCore 22 = .ok (.aload_n 0, 1) := by decide +kernel
theorem dX11_readCore_23 : decode cX11_readCore 23 = .ok (.getfield 75, 3) := by decide +kernel
theorem dX11_readCore_26 : decode cX11_readCore 26 = .ok (.invokestatic 245, 3) := by decide +kernel
theorem dX11_readCore_29 : decode cX11_readCore 29 = .ok (.iload_n 2, 1) := by decide +kernel
theorem dX11_readCore_30 : decode cX11_readCore 30 = .ok (.ireturn, 1) := by decide +kernel
theorem dX11_readWay_0 : decode cX11_readWay 0 = .ok (.aload_n 0, 1) := by decide +kernel
theorem dX11_readWay_1 : decode cX11_readWay 1 = .ok (.iload_n 1, 1) := by decide +kernel
theorem dX11_readWay_2 : decode cX11_readWay 2 = .ok (.iload_n 2, 1) := by decide +kernel
theorem dX11_readWay_3 : decode cX11_readWay 3 = .ok (.invokevirtual 219, 3) := by decide +kernel
theorem dX11_readWay_6 : decode cX11_readWay 6 = .ok (.ifCond .ne 5, 3) := by decide +kernel
theorem dX11_readWay_9 : decode cX11_readWay 9 = .ok (.iconst 2, 1) := by decide +kernel
theorem dX11_readWay_10 : decode cX11_readWay 10 = .ok (.ireturn, 1) := by decide +kernel
theorem dX11_readWay_11 : decode cX11_readWay 11 = .ok (.aload_n 0, 1) := by decide +kernel
theorem dX11_readWay_12 : decode cX11_readWay 12 = .ok (.getfield 62, 3) := by decide +kernel
theorem dX11_readWay_15 : decode cX11_readWay 15 = .ok (.invokevirtual 173, 3) := by decide +kernel
theorem dX11_readWay_18 : decode cX11_readWay 18 = .ok (.aload_n 0, 1) := by decide +kernel
theorem dX11_readWay_19 : decode cX11_readWay 19 = .ok (.getfield 66, 3) := by decide +kernel
theorem dX11_readWay_22 : decode cX11_readWay 22 = .ok (.invokevirtual 173, 3) := by decide +kernel
theorem dX11_readWay_25 : decode cX11_readWay 25 = .ok (.if_icmp .eq 5, 3) := by decide +kernel
theorem dX11_readWay_28 : decode cX11_readWay 28 = .ok (.iconst 4, 1) := by decide +kernel
theorem dX11_readWay_29 : decode cX11_readWay 29 = .ok (.ireturn, 1) := by decide +kernel
theorem dX11_readWay_30 : decode cX11_readWay 30 = .ok (.aload_n 0, 1) := by decide +kernel
theorem dX11_readWay_31 : decode cX11_readWay 31 = .ok (.getfield 12, 3) := by decide +kernel
theorem dX11_readWay_34 : decode cX11_readWay 34 = .ok (.aload_n 0, 1) := by decide +kernel
theorem dX11_readWay_35 : decode cX11_readWay 35 = .ok (.getfield 62, 3) := by decide +kernel
theorem dX11_readWay_38 : decode cX11_readWay 38 = .ok (.aload_n 0, 1) := by decide +kernel
theorem dX11_readWay_39 : decode cX11_readWay 39 = .ok (.getfield 69, 3) := by decide +kernel
theorem dX11_readWay_42 : decode cX11_readWay 42 = .ok (.invokestatic 227, 3) := by decide +kernel
theorem dX11_readWay_45 : decode cX11_readWay 45 = .ok (.aload_n 0, 1) := by decide +kernel
theorem dX11_readWay_46 : decode cX11_readWay 46 = .ok (.getfield 12, 3) := by decide +kernel
theorem dX11_readWay_49 : decode cX11_readWay 49 = .ok (.aload_n 0, 1) := by decide +kernel
theorem dX11_readWay_50 : decode cX11_readWay 50 = .ok (.getfield 69, 3) := by decide +kernel
theorem dX11_readWay_53 : decode cX11_readWay 53 = .ok (.aload_n 0, 1) := by decide +kernel
theorem dX11_readWay_54 : decode cX11_readWay 54 = .ok (.getfield 66, 3) := by decide +kernel
theorem dX11_readWay_57 : decode cX11_readWay 57 = .ok (.invokestatic 239, 3) := by decide +kernel
theorem dX11_readWay_60 : decode cX11_readWay 60 = .ok (.pop, 1) := by decide +kernel
theorem dX11_readWay_61 : decode cX11_readWay 61 = .ok (.iconst 0, 1) := by decide +kernel
theorem dX11_readWay_62 : decode cX11_readWay 62 = .ok (.ireturn, 1) := by decide +kernel
theorem dX11_isForm_0 : decode cX11_isForm 0 = .ok (.aload_n 0, 1) := by decide +kernel
theorem dX11_isForm_1 : decode cX11_isForm 1 = .ok (.getfield 12, 3) := by decide +kernel
theorem dX11_isForm_4 : decode cX11_isForm 4 = .ok (.aload_n 1, 1) := by decide +kernel
theorem dX11_isForm_5 : decode cX11_isForm 5 = .ok (.aload_n 0, 1) := by decide +kernel
theorem dX11_isForm_6 : decode cX11_isForm 6 = .ok (.getfield 72, 3) := by decide +kernel
theorem dX11_isForm_9 : decode cX11_isForm 9 = .ok (.invokestatic 181, 3) := by decide +kernel
theorem dX11_isForm_12 : decode cX11_isForm 12 = .ok (.pop, 1) := by decide +kernel
theorem dX11_isForm_13 : decode cX11_isForm 13 = .ok (.aload_n 0, 1) := by decide +kernel
theorem dX11_isForm_14 : decode cX11_isForm 14 = .ok (.getfield 72, 3) := by decide +kernel
theorem dX11_isForm_17 : decode cX11_isForm 17 = .ok (.aload_n 2, 1) := by decide +kernel
theorem dX11_isForm_18 : decode cX11_isForm 18 = .ok (.invokevirtual 187, 3) := by decide +kernel
theorem dX11_isForm_21 : decode cX11_isForm 21 = .ok (.ireturn, 1) := by decide +kernel
theorem dX11_bit_0 : decode cX11_bit 0 = .ok (.iload_n 0, 1) := by decide +kernel
theorem dX11_bit_1 : decode cX11_bit 1 = .ok (.ifCond .eq 7, 3) := by decide +kernel
theorem dX11_bit_4 : decode cX11_bit 4 = .ok (.iconst 1, 1) := by decide +kernel
theorem dX11_bit_5 : decode cX11_bit 5 = .ok (.goto 4, 3) := by decide +kernel
theorem dX11_bit_8 : decode cX11_bit 8 = .ok (.iconst 0, 1) := by decide +kernel
theorem dX11_bit_9 : decode cX11_bit 9 = .ok (.ireturn, 1) := by decide +kernel
theorem dX11_rest_0 : decode cX11_rest 0 = .ok (.iload_n 1, 1) := by decide +kernel
theorem dX11_rest_1 : decode cX11_rest 1 = .ok (.iconst 1, 1) := by decide +kernel
theorem dX11_rest_2 : decode cX11_rest 2 = .ok (.if_icmp .ge 5, 3) := by decide +kernel
theorem dX11_rest_5 : decode cX11_rest 5 = .ok (.iconst 0, 1) := by decide +kernel
theorem dX11_rest_6 : decode cX11_rest 6 = .ok (.ireturn, 1) := by decide +kernel
theorem dX11_rest_7 : decode cX11_rest 7 = .ok (.iload_n 0, 1) := by decide +kernel
theorem dX11_rest_8 : decode cX11_rest 8 = .ok (.iload_n 1, 1) := by decide +kernel
theorem dX11_rest_9 : decode cX11_rest 9 = .ok (.irem, 1) := by decide +kernel
theorem dX11_rest_10 : decode cX11_rest 10 = .ok (.istore_n 2, 1) := by decide +kernel
theorem dX11_rest_11 : decode cX11_rest 11 = .ok (.iload_n 2, 1) := by decide +kernel
theorem dX11_rest_12 : decode cX11_rest 12 = .ok (.ifCond .ge 9, 3) := by decide +kernel
theorem dX11_rest_15 : decode cX11_rest 15 = .ok (.iload_n 2, 1) := by decide +kernel
theorem dX11_rest_16 : decode cX11_rest 16 = .ok (.iload_n 1, 1) := by decide +kernel
theorem dX11_rest_17 : decode cX11_rest 17 = .ok (.iadd, 1) := by decide +kernel
theorem dX11_rest_18 : decode cX11_rest 18 = .ok (.goto 4, 3) := by decide +kernel
theorem dX11_rest_21 : decode cX11_rest 21 = .ok (.iload_n 2, 1) := by decide +kernel
theorem dX11_rest_22 : decode cX11_rest 22 = .ok (.ireturn, 1) := by decide +kernel
theorem dX11_share_0 : decode cX11_share 0 = .ok (.iload_n 1, 1) := by decide +kernel
theorem dX11_share_1 : decode cX11_share 1 = .ok (.iconst 1, 1) := by decide +kernel
theorem dX11_share_2 : decode cX11_share 2 = .ok (.if_icmp .ge 7, 3) := by decide +kernel
theorem dX11_share_5 : decode cX11_share 5 = .ok (.iconst 0, 1) := by decide +kernel
theorem dX11_share_6 : decode cX11_share 6 = .ok (.goto 6, 3) := by decide +kernel
theorem dX11_share_9 : decode cX11_share 9 = .ok (.iload_n 0, 1) := by decide +kernel
theorem dX11_share_10 : decode cX11_share 10 = .ok (.iload_n 1, 1) := by decide +kernel
theorem dX11_share_11 : decode cX11_share 11 = .ok (.idiv, 1) := by decide +kernel
theorem dX11_share_12 : decode cX11_share 12 = .ok (.ireturn, 1) := by decide +kernel
theorem dX11_greatestDivisor_0 : decode cX11_greatestDivisor 0 = .ok (.lload_n 0, 1) := by decide +kernel
theorem dX11_greatestDivisor_1 : decode cX11_greatestDivisor 1 = .ok (.invokestatic 359, 3) := by decide +kernel
theorem dX11_greatestDivisor_4 : decode cX11_greatestDivisor 4 = .ok (.lstore 4, 2) := by decide +kernel
theorem dX11_greatestDivisor_6 : decode cX11_greatestDivisor 6 = .ok (.lload_n 2, 1) := by decide +kernel
theorem dX11_greatestDivisor_7 : decode cX11_greatestDivisor 7 = .ok (.invokestatic 359, 3) := by decide +kernel
theorem dX11_greatestDivisor_10 : decode cX11_greatestDivisor 10 = .ok (.lstore 6, 2) := by decide +kernel
theorem dX11_greatestDivisor_12 : decode cX11_greatestDivisor 12 = .ok (.iconst 0, 1) := by decide +kernel
theorem dX11_greatestDivisor_13 : decode cX11_greatestDivisor 13 = .ok (.istore 8, 2) := by decide +kernel
theorem dX11_greatestDivisor_15 : decode cX11_greatestDivisor 15 = .ok (.iload 8, 2) := by decide +kernel
theorem dX11_greatestDivisor_17 : decode cX11_greatestDivisor 17 = .ok (.sipush 128, 3) := by decide +kernel
theorem dX11_greatestDivisor_20 : decode cX11_greatestDivisor 20 = .ok (.if_icmp .ge 31, 3) := by decide +kernel
theorem dX11_greatestDivisor_23 : decode cX11_greatestDivisor 23 = .ok (.lload 6, 2) := by decide +kernel
theorem dX11_greatestDivisor_25 : decode cX11_greatestDivisor 25 = .ok (.lconst 0, 1) := by decide +kernel
theorem dX11_greatestDivisor_26 : decode cX11_greatestDivisor 26 = .ok (.lcmp, 1) := by decide +kernel
theorem dX11_greatestDivisor_27 : decode cX11_greatestDivisor 27 = .ok (.ifCond .le 24, 3) := by decide +kernel
theorem dX11_greatestDivisor_30 : decode cX11_greatestDivisor 30 = .ok (.lload 4, 2) := by decide +kernel
theorem dX11_greatestDivisor_32 : decode cX11_greatestDivisor 32 = .ok (.lload 6, 2) := by decide +kernel
theorem dX11_greatestDivisor_34 : decode cX11_greatestDivisor 34 = .ok (.lrem, 1) := by decide +kernel
theorem dX11_greatestDivisor_35 : decode cX11_greatestDivisor 35 = .ok (.lstore 9, 2) := by decide +kernel
theorem dX11_greatestDivisor_37 : decode cX11_greatestDivisor 37 = .ok (.lload 6, 2) := by decide +kernel
theorem dX11_greatestDivisor_39 : decode cX11_greatestDivisor 39 = .ok (.lstore 4, 2) := by decide +kernel
theorem dX11_greatestDivisor_41 : decode cX11_greatestDivisor 41 = .ok (.lload 9, 2) := by decide +kernel
theorem dX11_greatestDivisor_43 : decode cX11_greatestDivisor 43 = .ok (.lstore 6, 2) := by decide +kernel
theorem dX11_greatestDivisor_45 : decode cX11_greatestDivisor 45 = .ok (.iinc 8 1, 3) := by decide +kernel
theorem dX11_greatestDivisor_48 : decode cX11_greatestDivisor 48 = .ok (.goto (-33), 3) := by decide +kernel
theorem dX11_greatestDivisor_51 : decode cX11_greatestDivisor 51 = .ok (.lload 4, 2) := by decide +kernel
theorem dX11_greatestDivisor_53 : decode cX11_greatestDivisor 53 = .ok (.lreturn, 1) := by decide +kernel
theorem dX11_orderIn_0 : decode cX11_orderIn 0 = .ok (.iload_n 1, 1) := by decide +kernel
theorem dX11_orderIn_1 : decode cX11_orderIn 1 = .ok (.iload_n 0, 1) := by decide +kernel
theorem dX11_orderIn_2 : decode cX11_orderIn 2 = .ok (.i2l, 1) := by decide +kernel
theorem dX11_orderIn_3 : decode cX11_orderIn 3 = .ok (.iload_n 1, 1) := by decide +kernel
theorem dX11_orderIn_4 : decode cX11_orderIn 4 = .ok (.i2l, 1) := by decide +kernel
theorem dX11_orderIn_5 : decode cX11_orderIn 5 = .ok (.invokestatic 361, 3) := by decide +kernel
theorem dX11_orderIn_8 : decode cX11_orderIn 8 = .ok (.l2i, 1) := by decide +kernel
theorem dX11_orderIn_9 : decode cX11_orderIn 9 = .ok (.invokestatic 365, 3) := by decide +kernel
theorem dX11_orderIn_12 : decode cX11_orderIn 12 = .ok (.ireturn, 1) := by decide +kernel
theorem dX11_atMostTold_0 : decode cX11_atMostTold 0 = .ok (.lload_n 0, 1) := by decide +kernel
theorem dX11_atMostTold_1 : decode cX11_atMostTold 1 = .ok (.ldc2_w 368, 3) := by decide +kernel
theorem dX11_atMostTold_4 : decode cX11_atMostTold 4 = .ok (.invokestatic 370, 3) := by decide +kernel
theorem dX11_atMostTold_7 : decode cX11_atMostTold 7 = .ok (.lreturn, 1) := by decide +kernel
theorem dX11_opposite_0 : decode cX11_opposite 0 = .ok (.iload_n 0, 1) := by decide +kernel
theorem dX11_opposite_1 : decode cX11_opposite 1 = .ok (.iconst 1, 1) := by decide +kernel
theorem dX11_opposite_2 : decode cX11_opposite 2 = .ok (.ixor, 1) := by decide +kernel
theorem dX11_opposite_3 : decode cX11_opposite 3 = .ok (.ireturn, 1) := by decide +kernel
theorem dX11_isBackwards_0 : decode cX11_isBackwards 0 = .ok (.iload_n 0, 1) := by decide +kernel
theorem dX11_isBackwards_1 : decode cX11_isBackwards 1 = .ok (.iconst 1, 1) := by decide +kernel
theorem dX11_isBackwards_2 : decode cX11_isBackwards 2 = .ok (.iand, 1) := by decide +kernel
theorem dX11_isBackwards_3 : decode cX11_isBackwards 3 = .ok (.iconst 1, 1) := by decide +kernel
theorem dX11_isBackwards_4 : decode cX11_isBackwards 4 = .ok (.if_icmp .ne 7, 3) := by decide +kernel
theorem dX11_isBackwards_7 : decode cX11_isBackwards 7 = .ok (.iconst 1, 1) := by decide +kernel
theorem dX11_isBackwards_8 : decode cX11_isBackwards 8 = .ok (.goto 4, 3) := by decide +kernel
theorem dX11_isBackwards_11 : decode cX11_isBackwards 11 = .ok (.iconst 0, 1) := by decide +kernel
theorem dX11_isBackwards_12 : decode cX11_isBackwards 12 = .ok (.ireturn, 1) := by decide +kernel
theorem dJ7_fill_53178_0 : decode cJ7_fill_53178 0 = .ok (.iconst 0, 1) := by decide +kernel
theorem dJ7_fill_53178_1 : decode cJ7_fill_53178 1 = .ok (.istore_n 2, 1) := by decide +kernel
theorem dJ7_fill_53178_2 : decode cJ7_fill_53178 2 = .ok (.aload_n 0, 1) := by decide +kernel
theorem dJ7_fill_53178_3 : decode cJ7_fill_53178 3 = .ok (.arraylength, 1) := by decide +kernel
theorem dJ7_fill_53178_4 : decode cJ7_fill_53178 4 = .ok (.istore_n 3, 1) := by decide +kernel
theorem dJ7_fill_53178_5 : decode cJ7_fill_53178 5 = .ok (.iload_n 2, 1) := by decide +kernel
theorem dJ7_fill_53178_6 : decode cJ7_fill_53178 6 = .ok (.iload_n 3, 1) := by decide +kernel
theorem dJ7_fill_53178_7 : decode cJ7_fill_53178 7 = .ok (.if_icmp .ge 13, 3) := by decide +kernel
theorem dJ7_fill_53178_10 : decode cJ7_fill_53178 10 = .ok (.aload_n 0, 1) := by decide +kernel
theorem dJ7_fill_53178_11 : decode cJ7_fill_53178 11 = .ok (.iload_n 2, 1) := by decide +kernel
theorem dJ7_fill_53178_12 : decode cJ7_fill_53178 12 = .ok (.iload_n 1, 1) := by decide +kernel
theorem dJ7_fill_53178_13 : decode cJ7_fill_53178 13 = .ok (.iastore, 1) := by decide +kernel
theorem dJ7_fill_53178_14 : decode cJ7_fill_53178 14 = .ok (.iinc 2 1, 3) := by decide +kernel
theorem dJ7_fill_53178_17 : decode cJ7_fill_53178 17 = .ok (.goto (-12), 3) := by decide +kernel
theorem dJ7_fill_53178_20 : decode cJ7_fill_53178 20 = .ok (.return_, 1) := by decide +kernel
abbrev vwCl : List vw_C := [(RX0, TX0, 5), (RX1, TX1, 1), (RX3, TX3, 3), (RX4, TX4, 8), (RX5, TX5, 10), (RX6, TX6, 3), (RX7, TX7, 1), (RX8, TX8, 2), (RX9, TX9, 6), (RX10, TX10, 4), (RX11, TX11, 19), (RX12, TX12, 31)]
