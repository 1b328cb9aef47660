def RX0 : String := "GluedWords$Carrier"
def TX0 : u_T := fun k => match k with
  | 0 => ("GluedWords$Carrier", "fromIndices", "[I", true)
  | 1 => ("GluedWords$Carrier", "toIndices", "[I", true)
  | 2 => ("GluedWords$Carrier", "orders", "[I", true)
  | 3 => ("GluedWords$Carrier", "trial", "LGluedWords$Walk;", true)
  | _ => ("GluedWords$Carrier", "target", "LGluedWords$Walk;", false)
def tyX0 : Nat → FieldType := fun k => match k with
  | 0 => .array .int
  | 1 => .array .int
  | 2 => .array .int
  | 3 => .object "GluedWords$Walk"
  | _ => .object "GluedWords$Walk"
abbrev wsX00 : List Cond := u_ws RX0 TX0 5
theorem nmX0 : ∀ a, a < 5 → ∀ b, b < 5 → a ≠ b → (TX0 a).2.1 ≠ (TX0 b).2.1 := by decide +kernel
theorem tyX0_ok : ∀ k, k < 5 → parseFieldDescriptor (TX0 k).2.2.1 = some (tyX0 k) := by decide +kernel
abbrev cX0_init : ByteArray := prog_2_method_1_code
def yX0_init : MethodName := ⟨RX0, "<init>", "()V"⟩
def RX1 : String := "GluedWords$Counts"
def TX1 : u_T := fun k => match k with
  | _ => ("GluedWords$Counts", "ways", "[J", true)
def tyX1 : Nat → FieldType := fun k => match k with
  | _ => .array .long
abbrev wsX10 : List Cond := u_ws RX1 TX1 1
theorem nmX1 : ∀ a, a < 1 → ∀ b, b < 1 → a ≠ b → (TX1 a).2.1 ≠ (TX1 b).2.1 := by decide +kernel
theorem tyX1_ok : ∀ k, k < 1 → parseFieldDescriptor (TX1 k).2.2.1 = some (tyX1 k) := by decide +kernel
abbrev cX1_init : ByteArray := prog_3_method_1_code
def yX1_init : MethodName := ⟨RX1, "<init>", "()V"⟩
def RX3 : String := "GluedWords$History"
def TX3 : u_T := fun k => match k with
  | 0 => ("GluedWords$History", "ring", "[LGluedWords$Store;", true)
  | 1 => ("GluedWords$History", "first", "I", false)
  | _ => ("GluedWords$History", "count", "I", false)
def tyX3 : Nat → FieldType := fun k => match k with
  | 0 => .array (.object "GluedWords$Store")
  | 1 => .int
  | _ => .int
abbrev wsX30 : List Cond := u_ws RX3 TX3 3
theorem nmX3 : ∀ a, a < 3 → ∀ b, b < 3 → a ≠ b → (TX3 a).2.1 ≠ (TX3 b).2.1 := by decide +kernel
theorem tyX3_ok : ∀ k, k < 3 → parseFieldDescriptor (TX3 k).2.2.1 = some (tyX3 k) := by decide +kernel
abbrev cX3_init : ByteArray := prog_5_method_1_code
def yX3_init : MethodName := ⟨RX3, "<init>", "()V"⟩
abbrev cX3_slot : ByteArray := prog_5_method_2_code
def yX3_slot : MethodName := ⟨RX3, "slot", "(I)LGluedWords$Store;"⟩
abbrev cX3_size : ByteArray := prog_5_method_3_code
def yX3_size : MethodName := ⟨RX3, "size", "()I"⟩
abbrev cX3_push : ByteArray := prog_5_method_4_code
def yX3_push : MethodName := ⟨RX3, "push", "(LGluedWords$Store;)V"⟩
abbrev cX3_pop : ByteArray := prog_5_method_5_code
def yX3_pop : MethodName := ⟨RX3, "pop", "(LGluedWords$Store;)Z"⟩
abbrev cX3_copyFrom : ByteArray := prog_5_method_6_code
def yX3_copyFrom : MethodName := ⟨RX3, "copyFrom", "(LGluedWords$History;)V"⟩
def RX4 : String := "GluedWords$Kinship"
def TX4 : u_T := fun k => match k with
  | 0 => ("GluedWords$Kinship", "first", "LGluedWords$Walk;", true)
  | 1 => ("GluedWords$Kinship", "second", "LGluedWords$Walk;", true)
  | 2 => ("GluedWords$Kinship", "begun", "LGluedWords$Walk;", true)
  | 3 => ("GluedWords$Kinship", "spare", "LGluedWords$Walk;", true)
  | 4 => ("GluedWords$Kinship", "carrier", "LGluedWords$Carrier;", true)
  | 5 => ("GluedWords$Kinship", "far", "[I", true)
  | 6 => ("GluedWords$Kinship", "behind", "I", false)
  | _ => ("GluedWords$Kinship", "taken", "I", false)
def tyX4 : Nat → FieldType := fun k => match k with
  | 0 => .object "GluedWords$Walk"
  | 1 => .object "GluedWords$Walk"
  | 2 => .object "GluedWords$Walk"
  | 3 => .object "GluedWords$Walk"
  | 4 => .object "GluedWords$Carrier"
  | 5 => .array .int
  | 6 => .int
  | _ => .int
abbrev wsX40 : List Cond := u_ws RX4 TX4 8
theorem nmX4 : ∀ a, a < 8 → ∀ b, b < 8 → a ≠ b → (TX4 a).2.1 ≠ (TX4 b).2.1 := by decide +kernel
theorem tyX4_ok : ∀ k, k < 8 → parseFieldDescriptor (TX4 k).2.2.1 = some (tyX4 k) := by decide +kernel
abbrev cX4_init : ByteArray := prog_6_method_1_code
def yX4_init : MethodName := ⟨RX4, "<init>", "()V"⟩
def RX5 : String := "GluedWords$Reader"
def TX5 : u_T := fun k => match k with
  | 0 => ("GluedWords$Reader", "tokens", "LGluedWords$Tokens;", true)
  | 1 => ("GluedWords$Reader", "draft", "LGluedWords$Store;", true)
  | 2 => ("GluedWords$Reader", "walk", "LGluedWords$Walk;", true)
  | 3 => ("GluedWords$Reader", "hasRead", "Z", false)
  | 4 => ("GluedWords$Reader", "at", "I", false)
  | 5 => ("GluedWords$Reader", "here", "I", false)
  | 6 => ("GluedWords$Reader", "lines", "I", false)
  | 7 => ("GluedWords$Reader", "faultKind", "I", false)
  | 8 => ("GluedWords$Reader", "faultPlace", "I", false)
  | _ => ("GluedWords$Reader", "faultLine", "I", false)
def tyX5 : Nat → FieldType := fun k => match k with
  | 0 => .object "GluedWords$Tokens"
  | 1 => .object "GluedWords$Store"
  | 2 => .object "GluedWords$Walk"
  | 3 => .boolean
  | 4 => .int
  | 5 => .int
  | 6 => .int
  | 7 => .int
  | 8 => .int
  | _ => .int
abbrev wsX50 : List Cond := u_ws RX5 TX5 10
theorem nmX5 : ∀ a, a < 10 → ∀ b, b < 10 → a ≠ b → (TX5 a).2.1 ≠ (TX5 b).2.1 := by decide +kernel
theorem tyX5_ok : ∀ k, k < 10 → parseFieldDescriptor (TX5 k).2.2.1 = some (tyX5 k) := by decide +kernel
abbrev cX5_init : ByteArray := prog_7_method_1_code
def yX5_init : MethodName := ⟨RX5, "<init>", "()V"⟩
abbrev cX5_read : ByteArray := prog_7_method_2_code
def yX5_read : MethodName := ⟨RX5, "read", "([BI)Z"⟩
abbrev cX5_result : ByteArray := prog_7_method_3_code
def yX5_result : MethodName := ⟨RX5, "result", "()LGluedWords$Store;"⟩
abbrev cX5_tellFault : ByteArray := prog_7_method_4_code
def yX5_tellFault : MethodName := ⟨RX5, "tellFault", "(I)I"⟩
abbrev cX5_kind : ByteArray := prog_7_method_5_code
def yX5_kind : MethodName := ⟨RX5, "kind", "()I"⟩
def RX6 : String := "GluedWords$Shape"
def TX6 : u_T := fun k => match k with
  | 0 => ("GluedWords$Shape", "leasts", "[I", true)
  | 1 => ("GluedWords$Shape", "over", "J", false)
  | _ => ("GluedWords$Shape", "under", "J", false)
def tyX6 : Nat → FieldType := fun k => match k with
  | 0 => .array .int
  | 1 => .long
  | _ => .long
abbrev wsX60 : List Cond := u_ws RX6 TX6 3
theorem nmX6 : ∀ a, a < 3 → ∀ b, b < 3 → a ≠ b → (TX6 a).2.1 ≠ (TX6 b).2.1 := by decide +kernel
theorem tyX6_ok : ∀ k, k < 3 → parseFieldDescriptor (TX6 k).2.2.1 = some (tyX6 k) := by decide +kernel
abbrev cX6_init : ByteArray := prog_8_method_1_code
def yX6_init : MethodName := ⟨RX6, "<init>", "()V"⟩
abbrev cX6_setLeast : ByteArray := prog_8_method_3_code
def yX6_setLeast : MethodName := ⟨RX6, "setLeast", "(II)V"⟩
abbrev cX6_join : ByteArray := prog_8_method_4_code
def yX6_join : MethodName := ⟨RX6, "join", "(LGluedWords$Store;)V"⟩
abbrev cX6_parts : ByteArray := prog_8_method_5_code
def yX6_parts : MethodName := ⟨RX6, "parts", "(LGluedWords$Store;)I"⟩
abbrev cX6_weigh : ByteArray := prog_8_method_7_code
def yX6_weigh : MethodName := ⟨RX6, "weigh", "(LGluedWords$Store;)V"⟩
abbrev cX6_above : ByteArray := prog_8_method_9_code
def yX6_above : MethodName := ⟨RX6, "above", "()J"⟩
abbrev cX6_below : ByteArray := prog_8_method_10_code
def yX6_below : MethodName := ⟨RX6, "below", "()J"⟩
def RX7 : String := "GluedWords$Store"
def TX7 : u_T := fun k => match k with
  | _ => ("GluedWords$Store", "cells", "[I", true)
def tyX7 : Nat → FieldType := fun k => match k with
  | _ => .array .int
abbrev wsX70 : List Cond := u_ws RX7 TX7 1
theorem nmX7 : ∀ a, a < 1 → ∀ b, b < 1 → a ≠ b → (TX7 a).2.1 ≠ (TX7 b).2.1 := by decide +kernel
theorem tyX7_ok : ∀ k, k < 1 → parseFieldDescriptor (TX7 k).2.2.1 = some (tyX7 k) := by decide +kernel
abbrev cX7_init : ByteArray := prog_9_method_1_code
def yX7_init : MethodName := ⟨RX7, "<init>", "()V"⟩
abbrev cX7_clear : ByteArray := prog_9_method_4_code
def yX7_clear : MethodName := ⟨RX7, "clear", "()V"⟩
abbrev cX7_copyFrom : ByteArray := prog_9_method_5_code
def yX7_copyFrom : MethodName := ⟨RX7, "copyFrom", "(LGluedWords$Store;)V"⟩
abbrev cX7_vertices : ByteArray := prog_9_method_6_code
def yX7_vertices : MethodName := ⟨RX7, "vertices", "()I"⟩
abbrev cX7_edges : ByteArray := prog_9_method_7_code
def yX7_edges : MethodName := ⟨RX7, "edges", "()I"⟩
abbrev cX7_words : ByteArray := prog_9_method_8_code
def yX7_words : MethodName := ⟨RX7, "words", "()I"⟩
abbrev cX7_hasVertex : ByteArray := prog_9_method_10_code
def yX7_hasVertex : MethodName := ⟨RX7, "hasVertex", "(I)Z"⟩
abbrev cX7_hasEdge : ByteArray := prog_9_method_11_code
def yX7_hasEdge : MethodName := ⟨RX7, "hasEdge", "(I)Z"⟩
abbrev cX7_hasWord : ByteArray := prog_9_method_12_code
def yX7_hasWord : MethodName := ⟨RX7, "hasWord", "(I)Z"⟩
abbrev cX7_readWord : ByteArray := prog_9_method_28_code
def yX7_readWord : MethodName := ⟨RX7, "readWord", "(ILGluedWords$Walk;)Z"⟩
def RX8 : String := "GluedWords$Teller"
def TX8 : u_T := fun k => match k with
  | 0 => ("GluedWords$Teller", "bytes", "[B", true)
  | _ => ("GluedWords$Teller", "count", "I", false)
def tyX8 : Nat → FieldType := fun k => match k with
  | 0 => .array .byte
  | _ => .int
abbrev wsX80 : List Cond := u_ws RX8 TX8 2
theorem nmX8 : ∀ a, a < 2 → ∀ b, b < 2 → a ≠ b → (TX8 a).2.1 ≠ (TX8 b).2.1 := by decide +kernel
theorem tyX8_ok : ∀ k, k < 2 → parseFieldDescriptor (TX8 k).2.2.1 = some (tyX8 k) := by decide +kernel
abbrev cX8_init : ByteArray := prog_10_method_1_code
def yX8_init : MethodName := ⟨RX8, "<init>", "()V"⟩
abbrev cX8_size : ByteArray := prog_10_method_2_code
def yX8_size : MethodName := ⟨RX8, "size", "()I"⟩
def RX9 : String := "GluedWords$Tokens"
def TX9 : u_T := fun k => match k with
  | 0 => ("GluedWords$Tokens", "kinds", "[I", true)
  | 1 => ("GluedWords$Tokens", "places", "[I", true)
  | 2 => ("GluedWords$Tokens", "values", "[I", true)
  | 3 => ("GluedWords$Tokens", "count", "I", false)
  | 4 => ("GluedWords$Tokens", "text", "[B", false)
  | _ => ("GluedWords$Tokens", "size", "I", false)
def tyX9 : Nat → FieldType := fun k => match k with
  | 0 => .array .int
  | 1 => .array .int
  | 2 => .array .int
  | 3 => .int
  | 4 => .array .byte
  | _ => .int
abbrev wsX90 : List Cond := u_ws RX9 TX9 6
theorem nmX9 : ∀ a, a < 6 → ∀ b, b < 6 → a ≠ b → (TX9 a).2.1 ≠ (TX9 b).2.1 := by decide +kernel
theorem tyX9_ok : ∀ k, k < 6 → parseFieldDescriptor (TX9 k).2.2.1 = some (tyX9 k) := by decide +kernel
abbrev cX9_init : ByteArray := prog_11_method_1_code
def yX9_init : MethodName := ⟨RX9, "<init>", "()V"⟩
abbrev cX9_kindAt : ByteArray := prog_11_method_2_code
def yX9_kindAt : MethodName := ⟨RX9, "kindAt", "(I)I"⟩
abbrev cX9_cut : ByteArray := prog_11_method_5_code
def yX9_cut : MethodName := ⟨RX9, "cut", "([BI)V"⟩
def RX10 : String := "GluedWords$Walk"
def TX10 : u_T := fun k => match k with
  | 0 => ("GluedWords$Walk", "numbers", "[I", true)
  | 1 => ("GluedWords$Walk", "marches", "[I", true)
  | 2 => ("GluedWords$Walk", "beginning", "I", false)
  | _ => ("GluedWords$Walk", "count", "I", false)
def tyX10 : Nat → FieldType := fun k => match k with
  | 0 => .array .int
  | 1 => .array .int
  | 2 => .int
  | _ => .int
abbrev wsX100 : List Cond := u_ws RX10 TX10 4
theorem nmX10 : ∀ a, a < 4 → ∀ b, b < 4 → a ≠ b → (TX10 a).2.1 ≠ (TX10 b).2.1 := by decide +kernel
theorem tyX10_ok : ∀ k, k < 4 → parseFieldDescriptor (TX10 k).2.2.1 = some (tyX10 k) := by decide +kernel
abbrev cX10_init : ByteArray := prog_12_method_1_code
def yX10_init : MethodName := ⟨RX10, "<init>", "()V"⟩
def RX11 : String := "GluedWords"
def TX11 : u_T := fun k => match k with
  | 0 => ("GluedWords", "now", "LGluedWords$Store;", true)
  | 1 => ("GluedWords", "history", "LGluedWords$History;", true)
  | 2 => ("GluedWords", "markedStores", "[LGluedWords$Store;", true)
  | 3 => ("GluedWords", "markedHistories", "[LGluedWords$History;", true)
  | 4 => ("GluedWords", "markCount", "I", false)
  | 5 => ("GluedWords", "latest", "I", false)
  | 6 => ("GluedWords", "tape", "[B", true)
  | 7 => ("GluedWords", "tapeSize", "I", false)
  | 8 => ("GluedWords", "reader", "LGluedWords$Reader;", true)
  | 9 => ("GluedWords", "teller", "LGluedWords$Teller;", true)
  | 10 => ("GluedWords", "one", "LGluedWords$Walk;", true)
  | 11 => ("GluedWords", "two", "LGluedWords$Walk;", true)
  | 12 => ("GluedWords", "row", "LGluedWords$Walk;", true)
  | 13 => ("GluedWords", "otherRow", "LGluedWords$Walk;", true)
  | 14 => ("GluedWords", "spare", "LGluedWords$Walk;", true)
  | 15 => ("GluedWords", "kinship", "LGluedWords$Kinship;", true)
  | 16 => ("GluedWords", "carrier", "LGluedWords$Carrier;", true)
  | 17 => ("GluedWords", "shape", "LGluedWords$Shape;", true)
  | _ => ("GluedWords", "counts", "LGluedWords$Counts;", true)
def tyX11 : Nat → FieldType := fun k => match k with
  | 0 => .object "GluedWords$Store"
  | 1 => .object "GluedWords$History"
  | 2 => .array (.object "GluedWords$Store")
  | 3 => .array (.object "GluedWords$History")
  | 4 => .int
  | 5 => .int
  | 6 => .array .byte
  | 7 => .int
  | 8 => .object "GluedWords$Reader"
  | 9 => .object "GluedWords$Teller"
  | 10 => .object "GluedWords$Walk"
  | 11 => .object "GluedWords$Walk"
  | 12 => .object "GluedWords$Walk"
  | 13 => .object "GluedWords$Walk"
  | 14 => .object "GluedWords$Walk"
  | 15 => .object "GluedWords$Kinship"
  | 16 => .object "GluedWords$Carrier"
  | 17 => .object "GluedWords$Shape"
  | _ => .object "GluedWords$Counts"
abbrev wsX110 : List Cond := u_ws RX11 TX11 19
theorem nmX11 : ∀ a, a < 19 → ∀ b, b < 19 → a ≠ b → (TX11 a).2.1 ≠ (TX11 b).2.1 := by decide +kernel
theorem tyX11_ok : ∀ k, k < 19 → parseFieldDescriptor (TX11 k).2.2.1 = some (tyX11 k) := by decide +kernel
abbrev cX11_init : ByteArray := prog_1_method_1_code
def yX11_init : MethodName := ⟨RX11, "<init>", "()V"⟩
abbrev cX11_status : ByteArray := prog_1_method_2_code
def yX11_status : MethodName := ⟨RX11, "status", "()I"⟩
abbrev cX11_feed : ByteArray := prog_1_method_3_code
def yX11_feed : MethodName := ⟨RX11, "feed", "(IIIII)I"⟩
abbrev cX11_load : ByteArray := prog_1_method_4_code
def yX11_load : MethodName := ⟨RX11, "load", "(I)I"⟩
abbrev cX11_fault : ByteArray := prog_1_method_5_code
def yX11_fault : MethodName := ⟨RX11, "fault", "(I)I"⟩
abbrev cX11_many : ByteArray := prog_1_method_6_code
def yX11_many : MethodName := ⟨RX11, "many", "(I)I"⟩
abbrev cX11_order : ByteArray := prog_1_method_7_code
def yX11_order : MethodName := ⟨RX11, "order", "(I)I"⟩
abbrev cX11_edge : ByteArray := prog_1_method_8_code
def yX11_edge : MethodName := ⟨RX11, "edge", "(II)I"⟩
abbrev cX11_word : ByteArray := prog_1_method_9_code
def yX11_word : MethodName := ⟨RX11, "word", "(II)I"⟩
abbrev cX11_number : ByteArray := prog_1_method_10_code
def yX11_number : MethodName := ⟨RX11, "number", "(II)I"⟩
abbrev cX11_step : ByteArray := prog_1_method_11_code
def yX11_step : MethodName := ⟨RX11, "step", "(II)I"⟩
abbrev cX11_take : ByteArray := prog_1_method_12_code
def yX11_take : MethodName := ⟨RX11, "take", "(II)I"⟩
abbrev cX11_form : ByteArray := prog_1_method_13_code
def yX11_form : MethodName := ⟨RX11, "form", "(I)I"⟩
abbrev cX11_times : ByteArray := prog_1_method_14_code
def yX11_times : MethodName := ⟨RX11, "times", "(II)I"⟩
abbrev cX11_turned : ByteArray := prog_1_method_15_code
def yX11_turned : MethodName := ⟨RX11, "turned", "(I)I"⟩
abbrev cX11_power : ByteArray := prog_1_method_16_code
def yX11_power : MethodName := ⟨RX11, "power", "(II)I"⟩
abbrev cX11_core : ByteArray := prog_1_method_17_code
def yX11_core : MethodName := ⟨RX11, "core", "(I)I"⟩
abbrev cX11_spell : ByteArray := prog_1_method_18_code
def yX11_spell : MethodName := ⟨RX11, "spell", "(III)I"⟩
abbrev cX11_drop : ByteArray := prog_1_method_19_code
def yX11_drop : MethodName := ⟨RX11, "drop", "(I)I"⟩
abbrev cX11_undo : ByteArray := prog_1_method_20_code
def yX11_undo : MethodName := ⟨RX11, "undo", "()I"⟩
abbrev cX11_mark : ByteArray := prog_1_method_21_code
def yX11_mark : MethodName := ⟨RX11, "mark", "()I"⟩
abbrev cX11_back : ByteArray := prog_1_method_22_code
def yX11_back : MethodName := ⟨RX11, "back", "()I"⟩
abbrev cX11_alike : ByteArray := prog_1_method_23_code
def yX11_alike : MethodName := ⟨RX11, "alike", "(II)I"⟩
abbrev cX11_steps : ByteArray := prog_1_method_24_code
def yX11_steps : MethodName := ⟨RX11, "steps", "(I)I"⟩
abbrev cX11_length : ByteArray := prog_1_method_25_code
def yX11_length : MethodName := ⟨RX11, "length", "(I)I"⟩
abbrev cX11_orderOf : ByteArray := prog_1_method_26_code
def yX11_orderOf : MethodName := ⟨RX11, "orderOf", "(I)I"⟩
abbrev cX11_kin : ByteArray := prog_1_method_27_code
def yX11_kin : MethodName := ⟨RX11, "kin", "(II)I"⟩
abbrev cX11_kinBy : ByteArray := prog_1_method_28_code
def yX11_kinBy : MethodName := ⟨RX11, "kinBy", "(III)I"⟩
abbrev cX11_kins : ByteArray := prog_1_method_29_code
def yX11_kins : MethodName := ⟨RX11, "kins", "(I)I"⟩
abbrev cX11_net : ByteArray := prog_1_method_30_code
def yX11_net : MethodName := ⟨RX11, "net", "(II)I"⟩
abbrev cX11_central : ByteArray := prog_1_method_31_code
def yX11_central : MethodName := ⟨RX11, "central", "(II)I"⟩
abbrev cX11_centre : ByteArray := prog_1_method_32_code
def yX11_centre : MethodName := ⟨RX11, "centre", "(I)I"⟩
abbrev cX11_having : ByteArray := prog_1_method_33_code
def yX11_having : MethodName := ⟨RX11, "having", "(II)I"⟩
abbrev cX11_root : ByteArray := prog_1_method_34_code
def yX11_root : MethodName := ⟨RX11, "root", "(I)I"⟩
abbrev cX11_swaps : ByteArray := prog_1_method_35_code
def yX11_swaps : MethodName := ⟨RX11, "swaps", "(II)I"⟩
abbrev cX11_alikes : ByteArray := prog_1_method_36_code
def yX11_alikes : MethodName := ⟨RX11, "alikes", "(I)I"⟩
abbrev cX11_twin : ByteArray := prog_1_method_37_code
def yX11_twin : MethodName := ⟨RX11, "twin", "(I)I"⟩
abbrev cX11_apart : ByteArray := prog_1_method_38_code
def yX11_apart : MethodName := ⟨RX11, "apart", "(II)I"⟩
abbrev cX11_moves : ByteArray := prog_1_method_39_code
def yX11_moves : MethodName := ⟨RX11, "moves", "(II)I"⟩
abbrev cX11_way : ByteArray := prog_1_method_40_code
def yX11_way : MethodName := ⟨RX11, "way", "(III)I"⟩
abbrev cX11_holds : ByteArray := prog_1_method_41_code
def yX11_holds : MethodName := ⟨RX11, "holds", "(II)J"⟩
abbrev cX11_axis : ByteArray := prog_1_method_42_code
def yX11_axis : MethodName := ⟨RX11, "axis", "(II)I"⟩
abbrev cX11_ball : ByteArray := prog_1_method_43_code
def yX11_ball : MethodName := ⟨RX11, "ball", "(II)J"⟩
abbrev cX11_sphere : ByteArray := prog_1_method_44_code
def yX11_sphere : MethodName := ⟨RX11, "sphere", "(II)J"⟩
abbrev cX11_listed : ByteArray := prog_1_method_45_code
def yX11_listed : MethodName := ⟨RX11, "listed", "(I)J"⟩
abbrev cX11_near : ByteArray := prog_1_method_46_code
def yX11_near : MethodName := ⟨RX11, "near", "(II)I"⟩
abbrev cX11_meet : ByteArray := prog_1_method_47_code
def yX11_meet : MethodName := ⟨RX11, "meet", "(I)I"⟩
abbrev cX11_tell : ByteArray := prog_1_method_48_code
def yX11_tell : MethodName := ⟨RX11, "tell", "(I)I"⟩
abbrev cX11_out : ByteArray := prog_1_method_49_code
def yX11_out : MethodName := ⟨RX11, "out", "(I)I"⟩
abbrev cX11_chi : ByteArray := prog_1_method_50_code
def yX11_chi : MethodName := ⟨RX11, "chi", "(I)I"⟩
abbrev cX11_fail : ByteArray := prog_1_method_51_code
def yX11_fail : MethodName := ⟨RX11, "fail", "(I)I"⟩
abbrev cX11_answer : ByteArray := prog_1_method_52_code
def yX11_answer : MethodName := ⟨RX11, "answer", "(I)I"⟩
abbrev cX11_feedFour : ByteArray := prog_1_method_54_code
def yX11_feedFour : MethodName := ⟨RX11, "feedFour", "(I)V"⟩
abbrev cX11_readTwo : ByteArray := prog_1_method_56_code
def yX11_readTwo : MethodName := ⟨RX11, "readTwo", "(II)Z"⟩
abbrev cX11_readLoop : ByteArray := prog_1_method_57_code
def yX11_readLoop : MethodName := ⟨RX11, "readLoop", "(I)I"⟩
abbrev cX11_readTwoLoops : ByteArray := prog_1_method_58_code
def yX11_readTwoLoops : MethodName := ⟨RX11, "readTwoLoops", "(II)I"⟩
abbrev cX11_cannotGrowFromLoop : ByteArray := prog_1_method_59_code
def yX11_cannotGrowFromLoop : MethodName := ⟨RX11, "cannotGrowFromLoop", "(I)I"⟩
abbrev cX11_readCore : ByteArray := prog_1_method_60_code
def yX11_readCore : MethodName := ⟨RX11, "readCore", "(I)I"⟩
abbrev cX11_readWay : ByteArray := prog_1_method_61_code
def yX11_readWay : MethodName := ⟨RX11, "readWay", "(II)I"⟩
abbrev cX11_rest : ByteArray := prog_1_method_64_code
def yX11_rest : MethodName := ⟨RX11, "rest", "(II)I"⟩
def RX12 : String := "GluedWordsModel"
def TX12 : u_T := fun k => match k with
  | 0 => ("GluedWordsModel", "all", "[I", true)
  | 1 => ("GluedWordsModel", "status", "I", false)
  | 2 => ("GluedWordsModel", "acts", "I", false)
  | 3 => ("GluedWordsModel", "marks", "I", false)
  | 4 => ("GluedWordsModel", "hand", "[[I", true)
  | 5 => ("GluedWordsModel", "pinches", "I", false)
  | 6 => ("GluedWordsModel", "long1", "[I", true)
  | 7 => ("GluedWordsModel", "long2", "[I", true)
  | 8 => ("GluedWordsModel", "tape", "[B", true)
  | 9 => ("GluedWordsModel", "text", "[B", true)
  | 10 => ("GluedWordsModel", "taped", "I", false)
  | 11 => ("GluedWordsModel", "size", "I", false)
  | 12 => ("GluedWordsModel", "token", "I", false)
  | 13 => ("GluedWordsModel", "begin", "I", false)
  | 14 => ("GluedWordsModel", "end0", "I", false)
  | 15 => ("GluedWordsModel", "value", "I", false)
  | 16 => ("GluedWordsModel", "faults", "I", false)
  | 17 => ("GluedWordsModel", "faultPlace", "I", false)
  | 18 => ("GluedWordsModel", "faultLine", "I", false)
  | 19 => ("GluedWordsModel", "faultKind", "I", false)
  | 20 => ("GluedWordsModel", "lines", "I", false)
  | 21 => ("GluedWordsModel", "kinFirst", "I", false)
  | 22 => ("GluedWordsModel", "kinNumber", "I", false)
  | 23 => ("GluedWordsModel", "queue", "[I", true)
  | 24 => ("GluedWordsModel", "depth", "[I", true)
  | 25 => ("GluedWordsModel", "came", "[Z", true)
  | 26 => ("GluedWordsModel", "central", "[I", true)
  | 27 => ("GluedWordsModel", "home", "[[[J", true)
  | 28 => ("GluedWordsModel", "lies", "[J", true)
  | 29 => ("GluedWordsModel", "out", "[B", true)
  | _ => ("GluedWordsModel", "outMany", "I", false)
def tyX12 : Nat → FieldType := fun k => match k with
  | 0 => .array .int
  | 1 => .int
  | 2 => .int
  | 3 => .int
  | 4 => .array (.array .int)
  | 5 => .int
  | 6 => .array .int
  | 7 => .array .int
  | 8 => .array .byte
  | 9 => .array .byte
  | 10 => .int
  | 11 => .int
  | 12 => .int
  | 13 => .int
  | 14 => .int
  | 15 => .int
  | 16 => .int
  | 17 => .int
  | 18 => .int
  | 19 => .int
  | 20 => .int
  | 21 => .int
  | 22 => .int
  | 23 => .array .int
  | 24 => .array .int
  | 25 => .array .boolean
  | 26 => .array .int
  | 27 => .array (.array (.array .long))
  | 28 => .array .long
  | 29 => .array .byte
  | _ => .int
abbrev wsX120 : List Cond := u_ws RX12 TX12 31
theorem nmX12 : ∀ a, a < 31 → ∀ b, b < 31 → a ≠ b → (TX12 a).2.1 ≠ (TX12 b).2.1 := by decide +kernel
theorem tyX12_ok : ∀ k, k < 31 → parseFieldDescriptor (TX12 k).2.2.1 = some (tyX12 k) := by decide +kernel
abbrev cX12_init : ByteArray := prog_14_method_1_code
def yX12_init : MethodName := ⟨RX12, "<init>", "()V"⟩
abbrev cX12_status : ByteArray := prog_14_method_2_code
def yX12_status : MethodName := ⟨RX12, "status", "()I"⟩
abbrev cX12_refuse : ByteArray := prog_14_method_3_code
def yX12_refuse : MethodName := ⟨RX12, "refuse", "(I)I"⟩
abbrev cX12_gives : ByteArray := prog_14_method_4_code
def yX12_gives : MethodName := ⟨RX12, "gives", "(I)I"⟩
abbrev cX12_isFrom : ByteArray := prog_14_method_6_code
def yX12_isFrom : MethodName := ⟨RX12, "isFrom", "(III)Z"⟩
abbrev cX12_of : ByteArray := prog_14_method_7_code
def yX12_of : MethodName := ⟨RX12, "of", "(I)I"⟩
abbrev cX12_copies : ByteArray := prog_14_method_8_code
def yX12_copies : MethodName := ⟨RX12, "copies", "(II)V"⟩
abbrev cX12_isVertex : ByteArray := prog_14_method_9_code
def yX12_isVertex : MethodName := ⟨RX12, "isVertex", "(I)Z"⟩
abbrev cX12_isEdge : ByteArray := prog_14_method_10_code
def yX12_isEdge : MethodName := ⟨RX12, "isEdge", "(I)Z"⟩
abbrev cX12_isWord : ByteArray := prog_14_method_11_code
def yX12_isWord : MethodName := ⟨RX12, "isWord", "(I)Z"⟩
abbrev cX12_feed : ByteArray := prog_14_method_34_code
def yX12_feed : MethodName := ⟨RX12, "feed", "(IIIII)I"⟩
abbrev cX12_four : ByteArray := prog_14_method_35_code
def yX12_four : MethodName := ⟨RX12, "four", "(I)V"⟩
abbrev cX12_byteAt : ByteArray := prog_14_method_36_code
def yX12_byteAt : MethodName := ⟨RX12, "byteAt", "(I)I"⟩
abbrev cX12_ahead : ByteArray := prog_14_method_39_code
def yX12_ahead : MethodName := ⟨RX12, "ahead", "()V"⟩
abbrev cX12_load : ByteArray := prog_14_method_52_code
def yX12_load : MethodName := ⟨RX12, "load", "(I)I"⟩
abbrev cX12_fault : ByteArray := prog_14_method_53_code
def yX12_fault : MethodName := ⟨RX12, "fault", "(I)I"⟩
abbrev cX12_parts : ByteArray := prog_14_method_55_code
def yX12_parts : MethodName := ⟨RX12, "parts", "()I"⟩
abbrev cX12_many : ByteArray := prog_14_method_56_code
def yX12_many : MethodName := ⟨RX12, "many", "(I)I"⟩
abbrev cX12_order : ByteArray := prog_14_method_57_code
def yX12_order : MethodName := ⟨RX12, "order", "(I)I"⟩
abbrev cX12_edge : ByteArray := prog_14_method_58_code
def yX12_edge : MethodName := ⟨RX12, "edge", "(II)I"⟩
abbrev cX12_word : ByteArray := prog_14_method_59_code
def yX12_word : MethodName := ⟨RX12, "word", "(II)I"⟩
abbrev cX12_number_ : ByteArray := prog_14_method_60_code
def yX12_number_ : MethodName := ⟨RX12, "number", "(II)I"⟩
abbrev cX12_step_ : ByteArray := prog_14_method_61_code
def yX12_step_ : MethodName := ⟨RX12, "step", "(II)I"⟩
abbrev cX12_acted : ByteArray := prog_14_method_62_code
def yX12_acted : MethodName := ⟨RX12, "acted", "(I)V"⟩
abbrev cX12_take : ByteArray := prog_14_method_64_code
def yX12_take : MethodName := ⟨RX12, "take", "(II)I"⟩
abbrev cX12_form : ByteArray := prog_14_method_65_code
def yX12_form : MethodName := ⟨RX12, "form", "(I)I"⟩
abbrev cX12_times : ByteArray := prog_14_method_66_code
def yX12_times : MethodName := ⟨RX12, "times", "(II)I"⟩
abbrev cX12_turned : ByteArray := prog_14_method_67_code
def yX12_turned : MethodName := ⟨RX12, "turned", "(I)I"⟩
abbrev cX12_power : ByteArray := prog_14_method_68_code
def yX12_power : MethodName := ⟨RX12, "power", "(II)I"⟩
abbrev cX12_wrongLoop : ByteArray := prog_14_method_69_code
def yX12_wrongLoop : MethodName := ⟨RX12, "wrongLoop", "(I)I"⟩
abbrev cX12_core : ByteArray := prog_14_method_70_code
def yX12_core : MethodName := ⟨RX12, "core", "(I)I"⟩
abbrev cX12_drop : ByteArray := prog_14_method_71_code
def yX12_drop : MethodName := ⟨RX12, "drop", "(I)I"⟩
abbrev cX12_undo : ByteArray := prog_14_method_72_code
def yX12_undo : MethodName := ⟨RX12, "undo", "()I"⟩
abbrev cX12_mark : ByteArray := prog_14_method_73_code
def yX12_mark : MethodName := ⟨RX12, "mark", "()I"⟩
abbrev cX12_back : ByteArray := prog_14_method_74_code
def yX12_back : MethodName := ⟨RX12, "back", "()I"⟩
abbrev cX12_alike : ByteArray := prog_14_method_76_code
def yX12_alike : MethodName := ⟨RX12, "alike", "(II)I"⟩
abbrev cX12_alikes : ByteArray := prog_14_method_77_code
def yX12_alikes : MethodName := ⟨RX12, "alikes", "(I)I"⟩
abbrev cX12_twin : ByteArray := prog_14_method_78_code
def yX12_twin : MethodName := ⟨RX12, "twin", "(I)I"⟩
abbrev cX12_steps : ByteArray := prog_14_method_79_code
def yX12_steps : MethodName := ⟨RX12, "steps", "(I)I"⟩
abbrev cX12_length : ByteArray := prog_14_method_80_code
def yX12_length : MethodName := ⟨RX12, "length", "(I)I"⟩
abbrev cX12_orderOf : ByteArray := prog_14_method_83_code
def yX12_orderOf : MethodName := ⟨RX12, "orderOf", "(I)I"⟩
abbrev cX12_wrongLoops : ByteArray := prog_14_method_87_code
def yX12_wrongLoops : MethodName := ⟨RX12, "wrongLoops", "(II)I"⟩
abbrev cX12_kin : ByteArray := prog_14_method_88_code
def yX12_kin : MethodName := ⟨RX12, "kin", "(II)I"⟩
abbrev cX12_kinBy : ByteArray := prog_14_method_89_code
def yX12_kinBy : MethodName := ⟨RX12, "kinBy", "(III)I"⟩
abbrev cX12_kins : ByteArray := prog_14_method_90_code
def yX12_kins : MethodName := ⟨RX12, "kins", "(I)I"⟩
abbrev cX12_net : ByteArray := prog_14_method_91_code
def yX12_net : MethodName := ⟨RX12, "net", "(II)I"⟩
abbrev cX12_central : ByteArray := prog_14_method_93_code
def yX12_central : MethodName := ⟨RX12, "central", "(II)I"⟩
abbrev cX12_centre : ByteArray := prog_14_method_94_code
def yX12_centre : MethodName := ⟨RX12, "centre", "(I)I"⟩
abbrev cX12_having : ByteArray := prog_14_method_95_code
def yX12_having : MethodName := ⟨RX12, "having", "(II)I"⟩
abbrev cX12_root : ByteArray := prog_14_method_98_code
def yX12_root : MethodName := ⟨RX12, "root", "(I)I"⟩
abbrev cX12_swaps : ByteArray := prog_14_method_99_code
def yX12_swaps : MethodName := ⟨RX12, "swaps", "(II)I"⟩
abbrev cX12_wrongPair : ByteArray := prog_14_method_101_code
def yX12_wrongPair : MethodName := ⟨RX12, "wrongPair", "(II)I"⟩
abbrev cX12_apart : ByteArray := prog_14_method_102_code
def yX12_apart : MethodName := ⟨RX12, "apart", "(II)I"⟩
abbrev cX12_moves : ByteArray := prog_14_method_103_code
def yX12_moves : MethodName := ⟨RX12, "moves", "(II)I"⟩
abbrev cX12_way : ByteArray := prog_14_method_104_code
def yX12_way : MethodName := ⟨RX12, "way", "(III)I"⟩
abbrev cX12_near : ByteArray := prog_14_method_105_code
def yX12_near : MethodName := ⟨RX12, "near", "(II)I"⟩
abbrev cX12_holds : ByteArray := prog_14_method_110_code
def yX12_holds : MethodName := ⟨RX12, "holds", "(II)J"⟩
abbrev cX12_ball : ByteArray := prog_14_method_113_code
def yX12_ball : MethodName := ⟨RX12, "ball", "(II)J"⟩
abbrev cX12_sphere : ByteArray := prog_14_method_114_code
def yX12_sphere : MethodName := ⟨RX12, "sphere", "(II)J"⟩
abbrev cX12_spell : ByteArray := prog_14_method_116_code
def yX12_spell : MethodName := ⟨RX12, "spell", "(III)I"⟩
abbrev cX12_listed : ByteArray := prog_14_method_117_code
def yX12_listed : MethodName := ⟨RX12, "listed", "(I)J"⟩
abbrev cX12_axis : ByteArray := prog_14_method_118_code
def yX12_axis : MethodName := ⟨RX12, "axis", "(II)I"⟩
abbrev cX12_meet : ByteArray := prog_14_method_119_code
def yX12_meet : MethodName := ⟨RX12, "meet", "(I)I"⟩
abbrev cX12_tell : ByteArray := prog_14_method_122_code
def yX12_tell : MethodName := ⟨RX12, "tell", "(I)I"⟩
abbrev cX12_out : ByteArray := prog_14_method_123_code
def yX12_out : MethodName := ⟨RX12, "out", "(I)I"⟩
abbrev cX12_chi : ByteArray := prog_14_method_125_code
def yX12_chi : MethodName := ⟨RX12, "chi", "(I)I"⟩
def RJ7 : String := "java/util/Arrays"
abbrev cJ7_fill_53178 : ByteArray := prog_20_method_103_code
def yJ7_fill_53178 : MethodName := ⟨RJ7, "fill", "([II)V"⟩
def RL : String := "GluedWordsLaw"
abbrev cL_law : ByteArray := code
theorem dX0_init_0 : decode cX0_init 0 = .ok (.aload_n 0, 1) := by decide +kernel
theorem dX0_init_1 : decode cX0_init 1 = .ok (.invokespecial 3, 3) := by decide +kernel
theorem dX0_init_4 : decode cX0_init 4 = .ok (.aload_n 0, 1) := by decide +kernel
theorem dX0_init_5 : decode cX0_init 5 = .ok (.bipush 24, 2) := by decide +kernel
theorem dX0_init_7 : decode cX0_init 7 = .ok (.newarray .int, 2) := by decide +kernel
theorem dX0_init_9 : decode cX0_init 9 = .ok (.putfield 9, 3) := by decide +kernel
theorem dX0_init_12 : decode cX0_init 12 = .ok (.aload_n 0, 1) := by decide +kernel
theorem dX0_init_13 : decode cX0_init 13 = .ok (.bipush 24, 2) := by decide +kernel
theorem dX0_init_15 : decode cX0_init 15 = .ok (.newarray .int, 2) := by decide +kernel
theorem dX0_init_17 : decode cX0_init 17 = .ok (.putfield 15, 3) := by decide +kernel
theorem dX0_init_20 : decode cX0_init 20 = .ok (.aload_n 0, 1) := by decide +kernel
theorem dX0_init_21 : decode cX0_init 21 = .ok (.bipush 24, 2) := by decide +kernel
theorem dX0_init_23 : decode cX0_init 23 = .ok (.newarray .int, 2) := by decide +kernel
theorem dX0_init_25 : decode cX0_init 25 = .ok (.putfield 18, 3) := by decide +kernel
theorem dX0_init_28 : decode cX0_init 28 = .ok (.aload_n 0, 1) := by decide +kernel
theorem dX0_init_29 : decode cX0_init 29 = .ok (.new 21, 3) := by decide +kernel
theorem dX0_init_32 : decode cX0_init 32 = .ok (.dup, 1) := by decide +kernel
theorem dX0_init_33 : decode cX0_init 33 = .ok (.invokespecial 23, 3) := by decide +kernel
theorem dX0_init_36 : decode cX0_init 36 = .ok (.putfield 24, 3) := by decide +kernel
theorem dX0_init_39 : decode cX0_init 39 = .ok (.aload_n 0, 1) := by decide +kernel
theorem dX0_init_40 : decode cX0_init 40 = .ok (.aload_n 0, 1) := by decide +kernel
theorem dX0_init_41 : decode cX0_init 41 = .ok (.getfield 24, 3) := by decide +kernel
theorem dX0_init_44 : decode cX0_init 44 = .ok (.putfield 28, 3) := by decide +kernel
theorem dX0_init_47 : decode cX0_init 47 = .ok (.return_, 1) := by decide +kernel
theorem dX1_init_0 : decode cX1_init 0 = .ok (.aload_n 0, 1) := by decide +kernel
theorem dX1_init_1 : decode cX1_init 1 = .ok (.invokespecial 3, 3) := by decide +kernel
theorem dX1_init_4 : decode cX1_init 4 = .ok (.aload_n 0, 1) := by decide +kernel
theorem dX1_init_5 : decode cX1_init 5 = .ok (.sipush 156, 3) := by decide +kernel
theorem dX1_init_8 : decode cX1_init 8 = .ok (.newarray .long, 2) := by decide +kernel
theorem dX1_init_10 : decode cX1_init 10 = .ok (.putfield 9, 3) := by decide +kernel
theorem dX1_init_13 : decode cX1_init 13 = .ok (.return_, 1) := by decide +kernel
theorem dX3_init_0 : decode cX3_init 0 = .ok (.aload_n 0, 1) := by decide +kernel
theorem dX3_init_1 : decode cX3_init 1 = .ok (.invokespecial 3, 3) := by decide +kernel
theorem dX3_init_4 : decode cX3_init 4 = .ok (.aload_n 0, 1) := by decide +kernel
theorem dX3_init_5 : decode cX3_init 5 = .ok (.bipush 8, 2) := by decide +kernel
theorem dX3_init_7 : decode cX3_init 7 = .ok (.anewarray 9, 3) := by decide +kernel
theorem dX3_init_10 : decode cX3_init 10 = .ok (.putfield 11, 3) := by decide +kernel
theorem dX3_init_13 : decode cX3_init 13 = .ok (.aload_n 0, 1) := by decide +kernel
theorem dX3_init_14 : decode cX3_init 14 = .ok (.iconst 0, 1) := by decide +kernel
theorem dX3_init_15 : decode cX3_init 15 = .ok (.putfield 17, 3) := by decide +kernel
theorem dX3_init_18 : decode cX3_init 18 = .ok (.aload_n 0, 1) := by decide +kernel
theorem dX3_init_19 : decode cX3_init 19 = .ok (.iconst 0, 1) := by decide +kernel
theorem dX3_init_20 : decode cX3_init 20 = .ok (.putfield 21, 3) := by decide +kernel
theorem dX3_init_23 : decode cX3_init 23 = .ok (.iconst 0, 1) := by decide +kernel
theorem dX3_init_24 : decode cX3_init 24 = .ok (.istore_n 1, 1) := by decide +kernel
theorem dX3_init_25 : decode cX3_init 25 = .ok (.iload_n 1, 1) := by decide +kernel
theorem dX3_init_26 : decode cX3_init 26 = .ok (.bipush 8, 2) := by decide +kernel
theorem dX3_init_28 : decode cX3_init 28 = .ok (.if_icmp .ge 22, 3) := by decide +kernel
theorem dX3_init_31 : decode cX3_init 31 = .ok (.aload_n 0, 1) := by decide +kernel
theorem dX3_init_32 : decode cX3_init 32 = .ok (.getfield 11, 3) := by decide +kernel
theorem dX3_init_35 : decode cX3_init 35 = .ok (.iload_n 1, 1) := by decide +kernel
theorem dX3_init_36 : decode cX3_init 36 = .ok (.new 9, 3) := by decide +kernel
theorem dX3_init_39 : decode cX3_init 39 = .ok (.dup, 1) := by decide +kernel
theorem dX3_init_40 : decode cX3_init 40 = .ok (.invokespecial 24, 3) := by decide +kernel
theorem dX3_init_43 : decode cX3_init 43 = .ok (.aastore, 1) := by decide +kernel
theorem dX3_init_44 : decode cX3_init 44 = .ok (.iinc 1 1, 3) := by decide +kernel
theorem dX3_init_47 : decode cX3_init 47 = .ok (.goto (-22), 3) := by decide +kernel
theorem dX3_init_50 : decode cX3_init 50 = .ok (.return_, 1) := by decide +kernel
theorem dX3_slot_0 : decode cX3_slot 0 = .ok (.aload_n 0, 1) := by decide +kernel
theorem dX3_slot_1 : decode cX3_slot 1 = .ok (.getfield 17, 3) := by decide +kernel
theorem dX3_slot_4 : decode cX3_slot 4 = .ok (.iload_n 1, 1) := by decide +kernel
theorem dX3_slot_5 : decode cX3_slot 5 = .ok (.iadd, 1) := by decide +kernel
theorem dX3_slot_6 : decode cX3_slot 6 = .ok (.bipush 8, 2) := by decide +kernel
theorem dX3_slot_8 : decode cX3_slot 8 = .ok (.invokestatic 25, 3) := by decide +kernel
theorem dX3_slot_11 : decode cX3_slot 11 = .ok (.istore_n 2, 1) := by decide +kernel
theorem dX3_slot_12 : decode cX3_slot 12 = .ok (.iload_n 2, 1) := by decide +kernel
theorem dX3_slot_13 : decode cX3_slot 13 = .ok (.aload_n 0, 1) := by decide +kernel
theorem dX3_slot_14 : decode cX3_slot 14 = .ok (.getfield 11, 3) := by decide +kernel
theorem dX3_slot_17 : decode cX3_slot 17 = .ok (.arraylength, 1) := by decide +kernel
theorem dX3_slot_18 : decode cX3_slot 18 = .ok (.if_icmp .ge 12, 3) := by decide +kernel
theorem dX3_slot_21 : decode cX3_slot 21 = .ok (.aload_n 0, 1) := by decide +kernel
theorem dX3_slot_22 : decode cX3_slot 22 = .ok (.getfield 11, 3) := by decide +kernel
theorem dX3_slot_25 : decode cX3_slot 25 = .ok (.iload_n 2, 1) := by decide +kernel
theorem dX3_slot_26 : decode cX3_slot 26 = .ok (.aaload, 1) := by decide +kernel
theorem dX3_slot_27 : decode cX3_slot 27 = .ok (.goto 4, 3) := by decide +kernel
theorem dX3_slot_31 : decode cX3_slot 31 = .ok (.areturn, 1) := by decide +kernel
theorem dX3_size_0 : decode cX3_size 0 = .ok (.aload_n 0, 1) := by decide +kernel
theorem dX3_size_1 : decode cX3_size 1 = .ok (.getfield 21, 3) := by decide +kernel
theorem dX3_size_4 : decode cX3_size 4 = .ok (.ireturn, 1) := by decide +kernel
theorem dX3_push_0 : decode cX3_push 0 = .ok (.aload_n 0, 1) := by decide +kernel
theorem dX3_push_1 : decode cX3_push 1 = .ok (.getfield 21, 3) := by decide +kernel
theorem dX3_push_4 : decode cX3_push 4 = .ok (.bipush 8, 2) := by decide +kernel
theorem dX3_push_6 : decode cX3_push 6 = .ok (.if_icmp .lt 24, 3) := by decide +kernel
theorem dX3_push_30 : decode cX3_push 30 = .ok (.aload_n 0, 1) := by decide +kernel
theorem dX3_push_31 : decode cX3_push 31 = .ok (.aload_n 0, 1) := by decide +kernel
theorem dX3_push_32 : decode cX3_push 32 = .ok (.getfield 21, 3) := by decide +kernel
theorem dX3_push_35 : decode cX3_push 35 = .ok (.invokevirtual 29, 3) := by decide +kernel
theorem dX3_push_38 : decode cX3_push 38 = .ok (.astore_n 2, 1) := by decide +kernel
theorem dX3_push_39 : decode cX3_push 39 = .ok (.aload_n 2, 1) := by decide +kernel
theorem dX3_push_40 : decode cX3_push 40 = .ok (.ifnull 18, 3) := by decide +kernel
theorem dX3_push_43 : decode cX3_push 43 = .ok (.aload_n 2, 1) := by decide +kernel
theorem dX3_push_44 : decode cX3_push 44 = .ok (.aload_n 1, 1) := by decide +kernel
theorem dX3_push_45 : decode cX3_push 45 = .ok (.invokevirtual 33, 3) := by decide +kernel
theorem dX3_push_48 : decode cX3_push 48 = .ok (.aload_n 0, 1) := by decide +kernel
theorem dX3_push_49 : decode cX3_push 49 = .ok (.dup, 1) := by decide +kernel
theorem dX3_push_50 : decode cX3_push 50 = .ok (.getfield 21, 3) := by decide +kernel
theorem dX3_push_53 : decode cX3_push 53 = .ok (.iconst 1, 1) := by decide +kernel
theorem dX3_push_54 : decode cX3_push 54 = .ok (.iadd, 1) := by decide +kernel
theorem dX3_push_55 : decode cX3_push 55 = .ok (.putfield 21, 3) := by decide +kernel
theorem dX3_push_58 : decode cX3_push 58 = .ok (.return_, 1) := by decide +kernel
theorem dX3_pop_0 : decode cX3_pop 0 = .ok (.aload_n 0, 1) := by decide +kernel
theorem dX3_pop_1 : decode cX3_pop 1 = .ok (.aload_n 0, 1) := by decide +kernel
theorem dX3_pop_2 : decode cX3_pop 2 = .ok (.getfield 21, 3) := by decide +kernel
theorem dX3_pop_5 : decode cX3_pop 5 = .ok (.iconst 1, 1) := by decide +kernel
theorem dX3_pop_6 : decode cX3_pop 6 = .ok (.isub, 1) := by decide +kernel
theorem dX3_pop_7 : decode cX3_pop 7 = .ok (.invokevirtual 29, 3) := by decide +kernel
theorem dX3_pop_10 : decode cX3_pop 10 = .ok (.astore_n 2, 1) := by decide +kernel
theorem dX3_pop_11 : decode cX3_pop 11 = .ok (.aload_n 0, 1) := by decide +kernel
theorem dX3_pop_12 : decode cX3_pop 12 = .ok (.getfield 21, 3) := by decide +kernel
theorem dX3_pop_15 : decode cX3_pop 15 = .ok (.iconst 1, 1) := by decide +kernel
theorem dX3_pop_16 : decode cX3_pop 16 = .ok (.if_icmp .lt 7, 3) := by decide +kernel
theorem dX3_pop_23 : decode cX3_pop 23 = .ok (.iconst 0, 1) := by decide +kernel
theorem dX3_pop_24 : decode cX3_pop 24 = .ok (.ireturn, 1) := by decide +kernel
theorem dX3_copyFrom_0 : decode cX3_copyFrom 0 = .ok (.aload_n 0, 1) := by decide +kernel
theorem dX3_copyFrom_1 : decode cX3_copyFrom 1 = .ok (.iconst 0, 1) := by decide +kernel
theorem dX3_copyFrom_2 : decode cX3_copyFrom 2 = .ok (.putfield 17, 3) := by decide +kernel
theorem dX3_copyFrom_5 : decode cX3_copyFrom 5 = .ok (.aload_n 0, 1) := by decide +kernel
theorem dX3_copyFrom_6 : decode cX3_copyFrom 6 = .ok (.iconst 0, 1) := by decide +kernel
theorem dX3_copyFrom_7 : decode cX3_copyFrom 7 = .ok (.putfield 21, 3) := by decide +kernel
theorem dX3_copyFrom_10 : decode cX3_copyFrom 10 = .ok (.iconst 0, 1) := by decide +kernel
theorem dX3_copyFrom_11 : decode cX3_copyFrom 11 = .ok (.istore_n 2, 1) := by decide +kernel
theorem dX3_copyFrom_12 : decode cX3_copyFrom 12 = .ok (.iload_n 2, 1) := by decide +kernel
theorem dX3_copyFrom_13 : decode cX3_copyFrom 13 = .ok (.aload_n 1, 1) := by decide +kernel
theorem dX3_copyFrom_14 : decode cX3_copyFrom 14 = .ok (.getfield 21, 3) := by decide +kernel
theorem dX3_copyFrom_17 : decode cX3_copyFrom 17 = .ok (.if_icmp .ge 24, 3) := by decide +kernel
theorem dX3_copyFrom_41 : decode cX3_copyFrom 41 = .ok (.return_, 1) := by decide +kernel
theorem dX4_init_0 : decode cX4_init 0 = .ok (.aload_n 0, 1) := by decide +kernel
theorem dX4_init_1 : decode cX4_init 1 = .ok (.invokespecial 3, 3) := by decide +kernel
theorem dX4_init_4 : decode cX4_init 4 = .ok (.aload_n 0, 1) := by decide +kernel
theorem dX4_init_5 : decode cX4_init 5 = .ok (.new 9, 3) := by decide +kernel
theorem dX4_init_8 : decode cX4_init 8 = .ok (.dup, 1) := by decide +kernel
theorem dX4_init_9 : decode cX4_init 9 = .ok (.invokespecial 11, 3) := by decide +kernel
theorem dX4_init_12 : decode cX4_init 12 = .ok (.putfield 12, 3) := by decide +kernel
theorem dX4_init_15 : decode cX4_init 15 = .ok (.aload_n 0, 1) := by decide +kernel
theorem dX4_init_16 : decode cX4_init 16 = .ok (.new 9, 3) := by decide +kernel
theorem dX4_init_19 : decode cX4_init 19 = .ok (.dup, 1) := by decide +kernel
theorem dX4_init_20 : decode cX4_init 20 = .ok (.invokespecial 11, 3) := by decide +kernel
theorem dX4_init_23 : decode cX4_init 23 = .ok (.putfield 18, 3) := by decide +kernel
theorem dX4_init_26 : decode cX4_init 26 = .ok (.aload_n 0, 1) := by decide +kernel
theorem dX4_init_27 : decode cX4_init 27 = .ok (.new 9, 3) := by decide +kernel
theorem dX4_init_30 : decode cX4_init 30 = .ok (.dup, 1) := by decide +kernel
theorem dX4_init_31 : decode cX4_init 31 = .ok (.invokespecial 11, 3) := by decide +kernel
theorem dX4_init_34 : decode cX4_init 34 = .ok (.putfield 21, 3) := by decide +kernel
theorem dX4_init_37 : decode cX4_init 37 = .ok (.aload_n 0, 1) := by decide +kernel
theorem dX4_init_38 : decode cX4_init 38 = .ok (.new 9, 3) := by decide +kernel
theorem dX4_init_41 : decode cX4_init 41 = .ok (.dup, 1) := by decide +kernel
theorem dX4_init_42 : decode cX4_init 42 = .ok (.invokespecial 11, 3) := by decide +kernel
theorem dX4_init_45 : decode cX4_init 45 = .ok (.putfield 24, 3) := by decide +kernel
theorem dX4_init_48 : decode cX4_init 48 = .ok (.aload_n 0, 1) := by decide +kernel
theorem dX4_init_49 : decode cX4_init 49 = .ok (.new 27, 3) := by decide +kernel
theorem dX4_init_52 : decode cX4_init 52 = .ok (.dup, 1) := by decide +kernel
theorem dX4_init_53 : decode cX4_init 53 = .ok (.invokespecial 29, 3) := by decide +kernel
theorem dX4_init_56 : decode cX4_init 56 = .ok (.putfield 30, 3) := by decide +kernel
theorem dX4_init_59 : decode cX4_init 59 = .ok (.aload_n 0, 1) := by decide +kernel
theorem dX4_init_60 : decode cX4_init 60 = .ok (.bipush 6, 2) := by decide +kernel
theorem dX4_init_62 : decode cX4_init 62 = .ok (.newarray .int, 2) := by decide +kernel
theorem dX4_init_64 : decode cX4_init 64 = .ok (.putfield 34, 3) := by decide +kernel
theorem dX4_init_67 : decode cX4_init 67 = .ok (.aload_n 0, 1) := by decide +kernel
theorem dX4_init_68 : decode cX4_init 68 = .ok (.iconst 0, 1) := by decide +kernel
theorem dX4_init_69 : decode cX4_init 69 = .ok (.putfield 38, 3) := by decide +kernel
theorem dX4_init_72 : decode cX4_init 72 = .ok (.aload_n 0, 1) := by decide +kernel
theorem dX4_init_73 : decode cX4_init 73 = .ok (.iconst 0, 1) := by decide +kernel
theorem dX4_init_74 : decode cX4_init 74 = .ok (.putfield 42, 3) := by decide +kernel
theorem dX4_init_77 : decode cX4_init 77 = .ok (.return_, 1) := by decide +kernel
theorem dX5_init_0 : decode cX5_init 0 = .ok (.aload_n 0, 1) := by decide +kernel
theorem dX5_init_1 : decode cX5_init 1 = .ok (.invokespecial 3, 3) := by decide +kernel
theorem dX5_init_4 : decode cX5_init 4 = .ok (.aload_n 0, 1) := by decide +kernel
theorem dX5_init_5 : decode cX5_init 5 = .ok (.new 9, 3) := by decide +kernel
theorem dX5_init_8 : decode cX5_init 8 = .ok (.dup, 1) := by decide +kernel
theorem dX5_init_9 : decode cX5_init 9 = .ok (.invokespecial 11, 3) := by decide +kernel
theorem dX5_init_12 : decode cX5_init 12 = .ok (.putfield 12, 3) := by decide +kernel
theorem dX5_init_15 : decode cX5_init 15 = .ok (.aload_n 0, 1) := by decide +kernel
theorem dX5_init_16 : decode cX5_init 16 = .ok (.new 18, 3) := by decide +kernel
theorem dX5_init_19 : decode cX5_init 19 = .ok (.dup, 1) := by decide +kernel
theorem dX5_init_20 : decode cX5_init 20 = .ok (.invokespecial 20, 3) := by decide +kernel
theorem dX5_init_23 : decode cX5_init 23 = .ok (.putfield 21, 3) := by decide +kernel
theorem dX5_init_26 : decode cX5_init 26 = .ok (.aload_n 0, 1) := by decide +kernel
theorem dX5_init_27 : decode cX5_init 27 = .ok (.new 25, 3) := by decide +kernel
theorem dX5_init_30 : decode cX5_init 30 = .ok (.dup, 1) := by decide +kernel
theorem dX5_init_31 : decode cX5_init 31 = .ok (.invokespecial 27, 3) := by decide +kernel
theorem dX5_init_34 : decode cX5_init 34 = .ok (.putfield 28, 3) := by decide +kernel
theorem dX5_init_37 : decode cX5_init 37 = .ok (.aload_n 0, 1) := by decide +kernel
theorem dX5_init_38 : decode cX5_init 38 = .ok (.iconst 0, 1) := by decide +kernel
theorem dX5_init_39 : decode cX5_init 39 = .ok (.putfield 32, 3) := by decide +kernel
theorem dX5_init_42 : decode cX5_init 42 = .ok (.aload_n 0, 1) := by decide +kernel
theorem dX5_init_43 : decode cX5_init 43 = .ok (.iconst 0, 1) := by decide +kernel
theorem dX5_init_44 : decode cX5_init 44 = .ok (.putfield 36, 3) := by decide +kernel
theorem dX5_init_47 : decode cX5_init 47 = .ok (.aload_n 0, 1) := by decide +kernel
theorem dX5_init_48 : decode cX5_init 48 = .ok (.iconst (-1), 1) := by decide +kernel
theorem dX5_init_49 : decode cX5_init 49 = .ok (.putfield 40, 3) := by decide +kernel
theorem dX5_init_52 : decode cX5_init 52 = .ok (.aload_n 0, 1) := by decide +kernel
theorem dX5_init_53 : decode cX5_init 53 = .ok (.iconst 0, 1) := by decide +kernel
theorem dX5_init_54 : decode cX5_init 54 = .ok (.putfield 43, 3) := by decide +kernel
theorem dX5_init_57 : decode cX5_init 57 = .ok (.aload_n 0, 1) := by decide +kernel
theorem dX5_init_58 : decode cX5_init 58 = .ok (.iconst 0, 1) := by decide +kernel
theorem dX5_init_59 : decode cX5_init 59 = .ok (.putfield 46, 3) := by decide +kernel
theorem dX5_init_62 : decode cX5_init 62 = .ok (.aload_n 0, 1) := by decide +kernel
theorem dX5_init_63 : decode cX5_init 63 = .ok (.iconst (-1), 1) := by decide +kernel
theorem dX5_init_64 : decode cX5_init 64 = .ok (.putfield 49, 3) := by decide +kernel
theorem dX5_init_67 : decode cX5_init 67 = .ok (.aload_n 0, 1) := by decide +kernel
theorem dX5_init_68 : decode cX5_init 68 = .ok (.iconst (-1), 1) := by decide +kernel
theorem dX5_init_69 : decode cX5_init 69 = .ok (.putfield 52, 3) := by decide +kernel
theorem dX5_init_72 : decode cX5_init 72 = .ok (.return_, 1) := by decide +kernel
theorem dX5_read_0 : decode cX5_read 0 = .ok (.aload_n 0, 1) := by decide +kernel
theorem dX5_read_1 : decode cX5_read 1 = .ok (.iconst 1, 1) := by decide +kernel
theorem dX5_read_2 : decode cX5_read 2 = .ok (.putfield 32, 3) := by decide +kernel
theorem dX5_read_5 : decode cX5_read 5 = .ok (.aload_n 0, 1) := by decide +kernel
theorem dX5_read_6 : decode cX5_read 6 = .ok (.iconst 0, 1) := by decide +kernel
theorem dX5_read_7 : decode cX5_read 7 = .ok (.putfield 36, 3) := by decide +kernel
theorem dX5_read_10 : decode cX5_read 10 = .ok (.aload_n 0, 1) := by decide +kernel
theorem dX5_read_11 : decode cX5_read 11 = .ok (.iconst 0, 1) := by decide +kernel
theorem dX5_read_12 : decode cX5_read 12 = .ok (.putfield 43, 3) := by decide +kernel
theorem dX5_read_15 : decode cX5_read 15 = .ok (.aload_n 0, 1) := by decide +kernel
theorem dX5_read_16 : decode cX5_read 16 = .ok (.iconst 0, 1) := by decide +kernel
theorem dX5_read_17 : decode cX5_read 17 = .ok (.putfield 46, 3) := by decide +kernel
theorem dX5_read_20 : decode cX5_read 20 = .ok (.aload_n 0, 1) := by decide +kernel
theorem dX5_read_21 : decode cX5_read 21 = .ok (.iconst (-1), 1) := by decide +kernel
theorem dX5_read_22 : decode cX5_read 22 = .ok (.putfield 49, 3) := by decide +kernel
theorem dX5_read_25 : decode cX5_read 25 = .ok (.aload_n 0, 1) := by decide +kernel
theorem dX5_read_26 : decode cX5_read 26 = .ok (.iconst (-1), 1) := by decide +kernel
theorem dX5_read_27 : decode cX5_read 27 = .ok (.putfield 52, 3) := by decide +kernel
theorem dX5_read_30 : decode cX5_read 30 = .ok (.aload_n 0, 1) := by decide +kernel
theorem dX5_read_31 : decode cX5_read 31 = .ok (.getfield 21, 3) := by decide +kernel
theorem dX5_read_34 : decode cX5_read 34 = .ok (.invokevirtual 55, 3) := by decide +kernel
theorem dX5_read_37 : decode cX5_read 37 = .ok (.aload_n 0, 1) := by decide +kernel
theorem dX5_read_38 : decode cX5_read 38 = .ok (.getfield 12, 3) := by decide +kernel
theorem dX5_read_41 : decode cX5_read 41 = .ok (.aload_n 1, 1) := by decide +kernel
theorem dX5_read_42 : decode cX5_read 42 = .ok (.iload_n 2, 1) := by decide +kernel
theorem dX5_read_43 : decode cX5_read 43 = .ok (.invokevirtual 58, 3) := by decide +kernel
theorem dX5_read_46 : decode cX5_read 46 = .ok (.iconst 0, 1) := by decide +kernel
theorem dX5_read_47 : decode cX5_read 47 = .ok (.istore_n 3, 1) := by decide +kernel
theorem dX5_read_48 : decode cX5_read 48 = .ok (.iload_n 3, 1) := by decide +kernel
theorem dX5_read_49 : decode cX5_read 49 = .ok (.sipush 700, 3) := by decide +kernel
theorem dX5_read_52 : decode cX5_read 52 = .ok (.if_icmp .ge 72, 3) := by decide +kernel
theorem dX5_read_55 : decode cX5_read 55 = .ok (.aload_n 0, 1) := by decide +kernel
theorem dX5_read_56 : decode cX5_read 56 = .ok (.getfield 46, 3) := by decide +kernel
theorem dX5_read_59 : decode cX5_read 59 = .ok (.ifCond .ne 65, 3) := by decide +kernel
theorem dX5_read_62 : decode cX5_read 62 = .ok (.aload_n 0, 1) := by decide +kernel
theorem dX5_read_63 : decode cX5_read 63 = .ok (.invokevirtual 62, 3) := by decide +kernel
theorem dX5_read_66 : decode cX5_read 66 = .ok (.ifCond .eq 58, 3) := by decide +kernel
theorem dX5_read_124 : decode cX5_read 124 = .ok (.aload_n 0, 1) := by decide +kernel
theorem dX5_read_125 : decode cX5_read 125 = .ok (.getfield 46, 3) := by decide +kernel
theorem dX5_read_128 : decode cX5_read 128 = .ok (.ifCond .ne 7, 3) := by decide +kernel
theorem dX5_read_131 : decode cX5_read 131 = .ok (.iconst 1, 1) := by decide +kernel
theorem dX5_read_132 : decode cX5_read 132 = .ok (.goto 4, 3) := by decide +kernel
theorem dX5_read_136 : decode cX5_read 136 = .ok (.ireturn, 1) := by decide +kernel
theorem dX5_result_0 : decode cX5_result 0 = .ok (.aload_n 0, 1) := by decide +kernel
theorem dX5_result_1 : decode cX5_result 1 = .ok (.getfield 21, 3) := by decide +kernel
theorem dX5_result_4 : decode cX5_result 4 = .ok (.areturn, 1) := by decide +kernel
theorem dX5_tellFault_0 : decode cX5_tellFault 0 = .ok (.aload_n 0, 1) := by decide +kernel
theorem dX5_tellFault_1 : decode cX5_tellFault 1 = .ok (.getfield 32, 3) := by decide +kernel
theorem dX5_tellFault_4 : decode cX5_tellFault 4 = .ok (.ifCond .ne 5, 3) := by decide +kernel
theorem dX5_tellFault_7 : decode cX5_tellFault 7 = .ok (.iconst (-1), 1) := by decide +kernel
theorem dX5_tellFault_8 : decode cX5_tellFault 8 = .ok (.ireturn, 1) := by decide +kernel
theorem dX5_kind_0 : decode cX5_kind 0 = .ok (.aload_n 0, 1) := by decide +kernel
theorem dX5_kind_1 : decode cX5_kind 1 = .ok (.getfield 12, 3) := by decide +kernel
theorem dX5_kind_4 : decode cX5_kind 4 = .ok (.aload_n 0, 1) := by decide +kernel
theorem dX5_kind_5 : decode cX5_kind 5 = .ok (.getfield 36, 3) := by decide +kernel
theorem dX5_kind_8 : decode cX5_kind 8 = .ok (.invokevirtual 75, 3) := by decide +kernel
theorem dX5_kind_11 : decode cX5_kind 11 = .ok (.ireturn, 1) := by decide +kernel
theorem dX6_init_0 : decode cX6_init 0 = .ok (.aload_n 0, 1) := by decide +kernel
theorem dX6_init_1 : decode cX6_init 1 = .ok (.invokespecial 3, 3) := by decide +kernel
theorem dX6_init_4 : decode cX6_init 4 = .ok (.aload_n 0, 1) := by decide +kernel
theorem dX6_init_5 : decode cX6_init 5 = .ok (.bipush 6, 2) := by decide +kernel
theorem dX6_init_7 : decode cX6_init 7 = .ok (.newarray .int, 2) := by decide +kernel
theorem dX6_init_9 : decode cX6_init 9 = .ok (.putfield 9, 3) := by decide +kernel
theorem dX6_init_12 : decode cX6_init 12 = .ok (.aload_n 0, 1) := by decide +kernel
theorem dX6_init_13 : decode cX6_init 13 = .ok (.lconst 0, 1) := by decide +kernel
theorem dX6_init_14 : decode cX6_init 14 = .ok (.putfield 15, 3) := by decide +kernel
theorem dX6_init_17 : decode cX6_init 17 = .ok (.aload_n 0, 1) := by decide +kernel
theorem dX6_init_18 : decode cX6_init 18 = .ok (.lconst 1, 1) := by decide +kernel
theorem dX6_init_19 : decode cX6_init 19 = .ok (.putfield 19, 3) := by decide +kernel
theorem dX6_init_22 : decode cX6_init 22 = .ok (.return_, 1) := by decide +kernel
theorem dX6_setLeast_0 : decode cX6_setLeast 0 = .ok (.iload_n 1, 1) := by decide +kernel
theorem dX6_setLeast_1 : decode cX6_setLeast 1 = .ok (.ifCond .lt 19, 3) := by decide +kernel
theorem dX6_setLeast_4 : decode cX6_setLeast 4 = .ok (.iload_n 1, 1) := by decide +kernel
theorem dX6_setLeast_5 : decode cX6_setLeast 5 = .ok (.aload_n 0, 1) := by decide +kernel
theorem dX6_setLeast_6 : decode cX6_setLeast 6 = .ok (.getfield 9, 3) := by decide +kernel
theorem dX6_setLeast_9 : decode cX6_setLeast 9 = .ok (.arraylength, 1) := by decide +kernel
theorem dX6_setLeast_10 : decode cX6_setLeast 10 = .ok (.if_icmp .ge 10, 3) := by decide +kernel
theorem dX6_setLeast_13 : decode cX6_setLeast 13 = .ok (.aload_n 0, 1) := by decide +kernel
theorem dX6_setLeast_14 : decode cX6_setLeast 14 = .ok (.getfield 9, 3) := by decide +kernel
theorem dX6_setLeast_17 : decode cX6_setLeast 17 = .ok (.iload_n 1, 1) := by decide +kernel
theorem dX6_setLeast_18 : decode cX6_setLeast 18 = .ok (.iload_n 2, 1) := by decide +kernel
theorem dX6_setLeast_19 : decode cX6_setLeast 19 = .ok (.iastore, 1) := by decide +kernel
theorem dX6_setLeast_20 : decode cX6_setLeast 20 = .ok (.return_, 1) := by decide +kernel
theorem dX6_join_0 : decode cX6_join 0 = .ok (.iconst 0, 1) := by decide +kernel
theorem dX6_join_1 : decode cX6_join 1 = .ok (.istore_n 2, 1) := by decide +kernel
theorem dX6_join_2 : decode cX6_join 2 = .ok (.iload_n 2, 1) := by decide +kernel
theorem dX6_join_3 : decode cX6_join 3 = .ok (.bipush 6, 2) := by decide +kernel
theorem dX6_join_5 : decode cX6_join 5 = .ok (.if_icmp .ge 15, 3) := by decide +kernel
theorem dX6_join_8 : decode cX6_join 8 = .ok (.aload_n 0, 1) := by decide +kernel
theorem dX6_join_9 : decode cX6_join 9 = .ok (.iload_n 2, 1) := by decide +kernel
theorem dX6_join_10 : decode cX6_join 10 = .ok (.iload_n 2, 1) := by decide +kernel
theorem dX6_join_11 : decode cX6_join 11 = .ok (.invokevirtual 22, 3) := by decide +kernel
theorem dX6_join_14 : decode cX6_join 14 = .ok (.iinc 2 1, 3) := by decide +kernel
theorem dX6_join_17 : decode cX6_join 17 = .ok (.goto (-15), 3) := by decide +kernel
theorem dX6_join_20 : decode cX6_join 20 = .ok (.iconst 1, 1) := by decide +kernel
theorem dX6_join_21 : decode cX6_join 21 = .ok (.istore_n 2, 1) := by decide +kernel
theorem dX6_join_22 : decode cX6_join 22 = .ok (.iload_n 2, 1) := by decide +kernel
theorem dX6_join_23 : decode cX6_join 23 = .ok (.aload_n 1, 1) := by decide +kernel
theorem dX6_join_24 : decode cX6_join 24 = .ok (.invokevirtual 26, 3) := by decide +kernel
theorem dX6_join_27 : decode cX6_join 27 = .ok (.if_icmp .ge 56, 3) := by decide +kernel
theorem dX6_join_83 : decode cX6_join 83 = .ok (.return_, 1) := by decide +kernel
theorem dX6_parts_0 : decode cX6_parts 0 = .ok (.aload_n 0, 1) := by decide +kernel
theorem dX6_parts_1 : decode cX6_parts 1 = .ok (.aload_n 1, 1) := by decide +kernel
theorem dX6_parts_2 : decode cX6_parts 2 = .ok (.invokevirtual 51, 3) := by decide +kernel
theorem dX6_parts_5 : decode cX6_parts 5 = .ok (.iconst 0, 1) := by decide +kernel
theorem dX6_parts_6 : decode cX6_parts 6 = .ok (.istore_n 2, 1) := by decide +kernel
theorem dX6_parts_7 : decode cX6_parts 7 = .ok (.iconst 0, 1) := by decide +kernel
theorem dX6_parts_8 : decode cX6_parts 8 = .ok (.istore_n 3, 1) := by decide +kernel
theorem dX6_parts_9 : decode cX6_parts 9 = .ok (.iload_n 3, 1) := by decide +kernel
theorem dX6_parts_10 : decode cX6_parts 10 = .ok (.aload_n 1, 1) := by decide +kernel
theorem dX6_parts_11 : decode cX6_parts 11 = .ok (.invokevirtual 26, 3) := by decide +kernel
theorem dX6_parts_14 : decode cX6_parts 14 = .ok (.if_icmp .ge 29, 3) := by decide +kernel
theorem dX6_parts_43 : decode cX6_parts 43 = .ok (.iload_n 2, 1) := by decide +kernel
theorem dX6_parts_44 : decode cX6_parts 44 = .ok (.ireturn, 1) := by decide +kernel
theorem dX6_weigh_0 : decode cX6_weigh 0 = .ok (.aload_n 0, 1) := by decide +kernel
theorem dX6_weigh_1 : decode cX6_weigh 1 = .ok (.lconst 0, 1) := by decide +kernel
theorem dX6_weigh_2 : decode cX6_weigh 2 = .ok (.putfield 15, 3) := by decide +kernel
theorem dX6_weigh_5 : decode cX6_weigh 5 = .ok (.aload_n 0, 1) := by decide +kernel
theorem dX6_weigh_6 : decode cX6_weigh 6 = .ok (.lconst 1, 1) := by decide +kernel
theorem dX6_weigh_7 : decode cX6_weigh 7 = .ok (.putfield 19, 3) := by decide +kernel
theorem dX6_weigh_10 : decode cX6_weigh 10 = .ok (.iconst 0, 1) := by decide +kernel
theorem dX6_weigh_11 : decode cX6_weigh 11 = .ok (.istore_n 2, 1) := by decide +kernel
theorem dX6_weigh_12 : decode cX6_weigh 12 = .ok (.iload_n 2, 1) := by decide +kernel
theorem dX6_weigh_13 : decode cX6_weigh 13 = .ok (.aload_n 1, 1) := by decide +kernel
theorem dX6_weigh_14 : decode cX6_weigh 14 = .ok (.invokevirtual 26, 3) := by decide +kernel
theorem dX6_weigh_17 : decode cX6_weigh 17 = .ok (.if_icmp .ge 20, 3) := by decide +kernel
theorem dX6_weigh_37 : decode cX6_weigh 37 = .ok (.iconst 0, 1) := by decide +kernel
theorem dX6_weigh_38 : decode cX6_weigh 38 = .ok (.istore_n 2, 1) := by decide +kernel
theorem dX6_weigh_39 : decode cX6_weigh 39 = .ok (.iload_n 2, 1) := by decide +kernel
theorem dX6_weigh_40 : decode cX6_weigh 40 = .ok (.aload_n 1, 1) := by decide +kernel
theorem dX6_weigh_41 : decode cX6_weigh 41 = .ok (.invokevirtual 62, 3) := by decide +kernel
theorem dX6_weigh_44 : decode cX6_weigh 44 = .ok (.if_icmp .ge 22, 3) := by decide +kernel
theorem dX6_weigh_66 : decode cX6_weigh 66 = .ok (.return_, 1) := by decide +kernel
theorem dX6_above_0 : decode cX6_above 0 = .ok (.aload_n 0, 1) := by decide +kernel
theorem dX6_above_1 : decode cX6_above 1 = .ok (.getfield 15, 3) := by decide +kernel
theorem dX6_above_4 : decode cX6_above 4 = .ok (.lreturn, 1) := by decide +kernel
theorem dX6_below_0 : decode cX6_below 0 = .ok (.aload_n 0, 1) := by decide +kernel
theorem dX6_below_1 : decode cX6_below 1 = .ok (.getfield 19, 3) := by decide +kernel
theorem dX6_below_4 : decode cX6_below 4 = .ok (.lreturn, 1) := by decide +kernel
theorem dX7_init_0 : decode cX7_init 0 = .ok (.aload_n 0, 1) := by decide +kernel
theorem dX7_init_1 : decode cX7_init 1 = .ok (.invokespecial 5, 3) := by decide +kernel
theorem dX7_init_4 : decode cX7_init 4 = .ok (.aload_n 0, 1) := by decide +kernel
theorem dX7_init_5 : decode cX7_init 5 = .ok (.sipush 543, 3) := by decide +kernel
theorem dX7_init_8 : decode cX7_init 8 = .ok (.newarray .int, 2) := by decide +kernel
theorem dX7_init_10 : decode cX7_init 10 = .ok (.putfield 11, 3) := by decide +kernel
theorem dX7_init_13 : decode cX7_init 13 = .ok (.return_, 1) := by decide +kernel
theorem dX7_clear_0 : decode cX7_clear 0 = .ok (.aload_n 0, 1) := by decide +kernel
theorem dX7_clear_1 : decode cX7_clear 1 = .ok (.getfield 11, 3) := by decide +kernel
theorem dX7_clear_4 : decode cX7_clear 4 = .ok (.iconst 0, 1) := by decide +kernel
theorem dX7_clear_5 : decode cX7_clear 5 = .ok (.invokestatic 15, 3) := by decide +kernel
theorem dX7_clear_8 : decode cX7_clear 8 = .ok (.return_, 1) := by decide +kernel
theorem dX7_copyFrom_0 : decode cX7_copyFrom 0 = .ok (.aload_n 1, 1) := by decide +kernel
theorem dX7_copyFrom_1 : decode cX7_copyFrom 1 = .ok (.getfield 11, 3) := by decide +kernel
theorem dX7_copyFrom_4 : decode cX7_copyFrom 4 = .ok (.iconst 0, 1) := by decide +kernel
theorem dX7_copyFrom_5 : decode cX7_copyFrom 5 = .ok (.aload_n 0, 1) := by decide +kernel
theorem dX7_copyFrom_6 : decode cX7_copyFrom 6 = .ok (.getfield 11, 3) := by decide +kernel
theorem dX7_copyFrom_9 : decode cX7_copyFrom 9 = .ok (.iconst 0, 1) := by decide +kernel
theorem dX7_copyFrom_10 : decode cX7_copyFrom 10 = .ok (.aload_n 1, 1) := by decide +kernel
theorem dX7_copyFrom_11 : decode cX7_copyFrom 11 = .ok (.getfield 11, 3) := by decide +kernel
theorem dX7_copyFrom_14 : decode cX7_copyFrom 14 = .ok (.arraylength, 1) := by decide +kernel
theorem dX7_copyFrom_15 : decode cX7_copyFrom 15 = .ok (.aload_n 0, 1) := by decide +kernel
theorem dX7_copyFrom_16 : decode cX7_copyFrom 16 = .ok (.getfield 11, 3) := by decide +kernel
theorem dX7_copyFrom_19 : decode cX7_copyFrom 19 = .ok (.arraylength, 1) := by decide +kernel
theorem dX7_copyFrom_20 : decode cX7_copyFrom 20 = .ok (.invokestatic 21, 3) := by decide +kernel
theorem dX7_copyFrom_23 : decode cX7_copyFrom 23 = .ok (.invokestatic 27, 3) := by decide +kernel
theorem dX7_copyFrom_26 : decode cX7_copyFrom 26 = .ok (.return_, 1) := by decide +kernel
theorem dX7_vertices_0 : decode cX7_vertices 0 = .ok (.aload_n 0, 1) := by decide +kernel
theorem dX7_vertices_1 : decode cX7_vertices 1 = .ok (.getfield 11, 3) := by decide +kernel
theorem dX7_vertices_4 : decode cX7_vertices 4 = .ok (.iconst 0, 1) := by decide +kernel
theorem dX7_vertices_5 : decode cX7_vertices 5 = .ok (.iaload, 1) := by decide +kernel
theorem dX7_vertices_6 : decode cX7_vertices 6 = .ok (.ireturn, 1) := by decide +kernel
theorem dX7_edges_0 : decode cX7_edges 0 = .ok (.aload_n 0, 1) := by decide +kernel
theorem dX7_edges_1 : decode cX7_edges 1 = .ok (.getfield 11, 3) := by decide +kernel
theorem dX7_edges_4 : decode cX7_edges 4 = .ok (.iconst 1, 1) := by decide +kernel
theorem dX7_edges_5 : decode cX7_edges 5 = .ok (.iaload, 1) := by decide +kernel
theorem dX7_edges_6 : decode cX7_edges 6 = .ok (.ireturn, 1) := by decide +kernel
theorem dX7_words_0 : decode cX7_words 0 = .ok (.aload_n 0, 1) := by decide +kernel
theorem dX7_words_1 : decode cX7_words 1 = .ok (.getfield 11, 3) := by decide +kernel
theorem dX7_words_4 : decode cX7_words 4 = .ok (.iconst 2, 1) := by decide +kernel
theorem dX7_words_5 : decode cX7_words 5 = .ok (.iaload, 1) := by decide +kernel
theorem dX7_words_6 : decode cX7_words 6 = .ok (.ireturn, 1) := by decide +kernel
theorem dX7_hasVertex_0 : decode cX7_hasVertex 0 = .ok (.iload_n 1, 1) := by decide +kernel
theorem dX7_hasVertex_1 : decode cX7_hasVertex 1 = .ok (.ifCond .lt 17, 3) := by decide +kernel
theorem dX7_hasVertex_4 : decode cX7_hasVertex 4 = .ok (.iload_n 1, 1) := by decide +kernel
theorem dX7_hasVertex_5 : decode cX7_hasVertex 5 = .ok (.aload_n 0, 1) := by decide +kernel
theorem dX7_hasVertex_6 : decode cX7_hasVertex 6 = .ok (.getfield 11, 3) := by decide +kernel
theorem dX7_hasVertex_9 : decode cX7_hasVertex 9 = .ok (.iconst 0, 1) := by decide +kernel
theorem dX7_hasVertex_10 : decode cX7_hasVertex 10 = .ok (.iaload, 1) := by decide +kernel
theorem dX7_hasVertex_11 : decode cX7_hasVertex 11 = .ok (.if_icmp .ge 7, 3) := by decide +kernel
theorem dX7_hasVertex_18 : decode cX7_hasVertex 18 = .ok (.iconst 0, 1) := by decide +kernel
theorem dX7_hasVertex_19 : decode cX7_hasVertex 19 = .ok (.ireturn, 1) := by decide +kernel
theorem dX7_hasEdge_0 : decode cX7_hasEdge 0 = .ok (.iload_n 1, 1) := by decide +kernel
theorem dX7_hasEdge_1 : decode cX7_hasEdge 1 = .ok (.ifCond .lt 17, 3) := by decide +kernel
theorem dX7_hasEdge_4 : decode cX7_hasEdge 4 = .ok (.iload_n 1, 1) := by decide +kernel
theorem dX7_hasEdge_5 : decode cX7_hasEdge 5 = .ok (.aload_n 0, 1) := by decide +kernel
theorem dX7_hasEdge_6 : decode cX7_hasEdge 6 = .ok (.getfield 11, 3) := by decide +kernel
theorem dX7_hasEdge_9 : decode cX7_hasEdge 9 = .ok (.iconst 1, 1) := by decide +kernel
theorem dX7_hasEdge_10 : decode cX7_hasEdge 10 = .ok (.iaload, 1) := by decide +kernel
theorem dX7_hasEdge_11 : decode cX7_hasEdge 11 = .ok (.if_icmp .ge 7, 3) := by decide +kernel
theorem dX7_hasEdge_18 : decode cX7_hasEdge 18 = .ok (.iconst 0, 1) := by decide +kernel
theorem dX7_hasEdge_19 : decode cX7_hasEdge 19 = .ok (.ireturn, 1) := by decide +kernel
theorem dX7_hasWord_0 : decode cX7_hasWord 0 = .ok (.iload_n 1, 1) := by decide +kernel
theorem dX7_hasWord_1 : decode cX7_hasWord 1 = .ok (.ifCond .lt 17, 3) := by decide +kernel
theorem dX7_hasWord_4 : decode cX7_hasWord 4 = .ok (.iload_n 1, 1) := by decide +kernel
theorem dX7_hasWord_5 : decode cX7_hasWord 5 = .ok (.aload_n 0, 1) := by decide +kernel
theorem dX7_hasWord_6 : decode cX7_hasWord 6 = .ok (.getfield 11, 3) := by decide +kernel
theorem dX7_hasWord_9 : decode cX7_hasWord 9 = .ok (.iconst 2, 1) := by decide +kernel
theorem dX7_hasWord_10 : decode cX7_hasWord 10 = .ok (.iaload, 1) := by decide +kernel
theorem dX7_hasWord_11 : decode cX7_hasWord 11 = .ok (.if_icmp .ge 7, 3) := by decide +kernel
theorem dX7_hasWord_18 : decode cX7_hasWord 18 = .ok (.iconst 0, 1) := by decide +kernel
theorem dX7_hasWord_19 : decode cX7_hasWord 19 = .ok (.ireturn, 1) := by decide +kernel
theorem dX7_readWord_0 : decode cX7_readWord 0 = .ok (.aload_n 0, 1) := by decide +kernel
theorem dX7_readWord_1 : decode cX7_readWord 1 = .ok (.iload_n 1, 1) := by decide +kernel
theorem dX7_readWord_2 : decode cX7_readWord 2 = .ok (.invokevirtual 93, 3) := by decide +kernel
theorem dX7_readWord_5 : decode cX7_readWord 5 = .ok (.ifCond .ne 5, 3) := by decide +kernel
theorem dX7_readWord_8 : decode cX7_readWord 8 = .ok (.iconst 0, 1) := by decide +kernel
theorem dX7_readWord_9 : decode cX7_readWord 9 = .ok (.ireturn, 1) := by decide +kernel
theorem dX8_init_0 : decode cX8_init 0 = .ok (.aload_n 0, 1) := by decide +kernel
theorem dX8_init_1 : decode cX8_init 1 = .ok (.invokespecial 3, 3) := by decide +kernel
theorem dX8_init_4 : decode cX8_init 4 = .ok (.aload_n 0, 1) := by decide +kernel
theorem dX8_init_5 : decode cX8_init 5 = .ok (.sipush 178, 3) := by decide +kernel
theorem dX8_init_8 : decode cX8_init 8 = .ok (.newarray .byte, 2) := by decide +kernel
theorem dX8_init_10 : decode cX8_init 10 = .ok (.putfield 9, 3) := by decide +kernel
theorem dX8_init_13 : decode cX8_init 13 = .ok (.aload_n 0, 1) := by decide +kernel
theorem dX8_init_14 : decode cX8_init 14 = .ok (.iconst 0, 1) := by decide +kernel
theorem dX8_init_15 : decode cX8_init 15 = .ok (.putfield 15, 3) := by decide +kernel
theorem dX8_init_18 : decode cX8_init 18 = .ok (.return_, 1) := by decide +kernel
theorem dX8_size_0 : decode cX8_size 0 = .ok (.aload_n 0, 1) := by decide +kernel
theorem dX8_size_1 : decode cX8_size 1 = .ok (.getfield 15, 3) := by decide +kernel
theorem dX8_size_4 : decode cX8_size 4 = .ok (.ireturn, 1) := by decide +kernel
theorem dX9_init_0 : decode cX9_init 0 = .ok (.aload_n 0, 1) := by decide +kernel
theorem dX9_init_1 : decode cX9_init 1 = .ok (.invokespecial 3, 3) := by decide +kernel
theorem dX9_init_4 : decode cX9_init 4 = .ok (.aload_n 0, 1) := by decide +kernel
theorem dX9_init_5 : decode cX9_init 5 = .ok (.sipush 701, 3) := by decide +kernel
theorem dX9_init_8 : decode cX9_init 8 = .ok (.newarray .int, 2) := by decide +kernel
theorem dX9_init_10 : decode cX9_init 10 = .ok (.putfield 9, 3) := by decide +kernel
theorem dX9_init_13 : decode cX9_init 13 = .ok (.aload_n 0, 1) := by decide +kernel
theorem dX9_init_14 : decode cX9_init 14 = .ok (.sipush 701, 3) := by decide +kernel
theorem dX9_init_17 : decode cX9_init 17 = .ok (.newarray .int, 2) := by decide +kernel
theorem dX9_init_19 : decode cX9_init 19 = .ok (.putfield 15, 3) := by decide +kernel
theorem dX9_init_22 : decode cX9_init 22 = .ok (.aload_n 0, 1) := by decide +kernel
theorem dX9_init_23 : decode cX9_init 23 = .ok (.sipush 701, 3) := by decide +kernel
theorem dX9_init_26 : decode cX9_init 26 = .ok (.newarray .int, 2) := by decide +kernel
theorem dX9_init_28 : decode cX9_init 28 = .ok (.putfield 18, 3) := by decide +kernel
theorem dX9_init_31 : decode cX9_init 31 = .ok (.aload_n 0, 1) := by decide +kernel
theorem dX9_init_32 : decode cX9_init 32 = .ok (.iconst 0, 1) := by decide +kernel
theorem dX9_init_33 : decode cX9_init 33 = .ok (.putfield 21, 3) := by decide +kernel
theorem dX9_init_36 : decode cX9_init 36 = .ok (.aload_n 0, 1) := by decide +kernel
theorem dX9_init_37 : decode cX9_init 37 = .ok (.iconst 0, 1) := by decide +kernel
theorem dX9_init_38 : decode cX9_init 38 = .ok (.newarray .byte, 2) := by decide +kernel
theorem dX9_init_40 : decode cX9_init 40 = .ok (.putfield 25, 3) := by decide +kernel
theorem dX9_init_43 : decode cX9_init 43 = .ok (.aload_n 0, 1) := by decide +kernel
theorem dX9_init_44 : decode cX9_init 44 = .ok (.iconst 0, 1) := by decide +kernel
theorem dX9_init_45 : decode cX9_init 45 = .ok (.putfield 29, 3) := by decide +kernel
theorem dX9_init_48 : decode cX9_init 48 = .ok (.return_, 1) := by decide +kernel
theorem dX9_kindAt_0 : decode cX9_kindAt 0 = .ok (.iload_n 1, 1) := by decide +kernel
theorem dX9_kindAt_1 : decode cX9_kindAt 1 = .ok (.ifCond .lt 20, 3) := by decide +kernel
theorem dX9_kindAt_4 : decode cX9_kindAt 4 = .ok (.iload_n 1, 1) := by decide +kernel
theorem dX9_kindAt_5 : decode cX9_kindAt 5 = .ok (.aload_n 0, 1) := by decide +kernel
theorem dX9_kindAt_6 : decode cX9_kindAt 6 = .ok (.getfield 21, 3) := by decide +kernel
theorem dX9_kindAt_9 : decode cX9_kindAt 9 = .ok (.if_icmp .ge 12, 3) := by decide +kernel
theorem dX9_kindAt_21 : decode cX9_kindAt 21 = .ok (.iconst 0, 1) := by decide +kernel
theorem dX9_kindAt_22 : decode cX9_kindAt 22 = .ok (.goto 9, 3) := by decide +kernel
theorem dX9_kindAt_31 : decode cX9_kindAt 31 = .ok (.ireturn, 1) := by decide +kernel
theorem dX9_cut_0 : decode cX9_cut 0 = .ok (.aload_n 0, 1) := by decide +kernel
theorem dX9_cut_1 : decode cX9_cut 1 = .ok (.aload_n 1, 1) := by decide +kernel
theorem dX9_cut_2 : decode cX9_cut 2 = .ok (.putfield 25, 3) := by decide +kernel
theorem dX9_cut_5 : decode cX9_cut 5 = .ok (.aload_n 0, 1) := by decide +kernel
theorem dX9_cut_6 : decode cX9_cut 6 = .ok (.iload_n 2, 1) := by decide +kernel
theorem dX9_cut_7 : decode cX9_cut 7 = .ok (.aload_n 1, 1) := by decide +kernel
theorem dX9_cut_8 : decode cX9_cut 8 = .ok (.arraylength, 1) := by decide +kernel
theorem dX9_cut_9 : decode cX9_cut 9 = .ok (.invokestatic 32, 3) := by decide +kernel
theorem dX9_cut_12 : decode cX9_cut 12 = .ok (.putfield 29, 3) := by decide +kernel
theorem dX9_cut_15 : decode cX9_cut 15 = .ok (.aload_n 0, 1) := by decide +kernel
theorem dX9_cut_16 : decode cX9_cut 16 = .ok (.iconst 0, 1) := by decide +kernel
theorem dX9_cut_17 : decode cX9_cut 17 = .ok (.putfield 21, 3) := by decide +kernel
theorem dX9_cut_20 : decode cX9_cut 20 = .ok (.iconst 0, 1) := by decide +kernel
theorem dX9_cut_21 : decode cX9_cut 21 = .ok (.istore_n 3, 1) := by decide +kernel
theorem dX9_cut_22 : decode cX9_cut 22 = .ok (.iload_n 3, 1) := by decide +kernel
theorem dX9_cut_23 : decode cX9_cut 23 = .ok (.aload_n 0, 1) := by decide +kernel
theorem dX9_cut_24 : decode cX9_cut 24 = .ok (.getfield 29, 3) := by decide +kernel
theorem dX9_cut_27 : decode cX9_cut 27 = .ok (.if_icmp .ge 50, 3) := by decide +kernel
theorem dX9_cut_77 : decode cX9_cut 77 = .ok (.return_, 1) := by decide +kernel
theorem dX10_init_0 : decode cX10_init 0 = .ok (.aload_n 0, 1) := by decide +kernel
theorem dX10_init_1 : decode cX10_init 1 = .ok (.invokespecial 3, 3) := by decide +kernel
theorem dX10_init_4 : decode cX10_init 4 = .ok (.aload_n 0, 1) := by decide +kernel
theorem dX10_init_5 : decode cX10_init 5 = .ok (.bipush 73, 2) := by decide +kernel
theorem dX10_init_7 : decode cX10_init 7 = .ok (.newarray .int, 2) := by decide +kernel
theorem dX10_init_9 : decode cX10_init 9 = .ok (.putfield 9, 3) := by decide +kernel
theorem dX10_init_12 : decode cX10_init 12 = .ok (.aload_n 0, 1) := by decide +kernel
theorem dX10_init_13 : decode cX10_init 13 = .ok (.bipush 72, 2) := by decide +kernel
theorem dX10_init_15 : decode cX10_init 15 = .ok (.newarray .int, 2) := by decide +kernel
theorem dX10_init_17 : decode cX10_init 17 = .ok (.putfield 15, 3) := by decide +kernel
theorem dX10_init_20 : decode cX10_init 20 = .ok (.aload_n 0, 1) := by decide +kernel
theorem dX10_init_21 : decode cX10_init 21 = .ok (.iconst 0, 1) := by decide +kernel
theorem dX10_init_22 : decode cX10_init 22 = .ok (.putfield 18, 3) := by decide +kernel
theorem dX10_init_25 : decode cX10_init 25 = .ok (.aload_n 0, 1) := by decide +kernel
theorem dX10_init_26 : decode cX10_init 26 = .ok (.iconst 0, 1) := by decide +kernel
theorem dX10_init_27 : decode cX10_init 27 = .ok (.putfield 22, 3) := by decide +kernel
theorem dX10_init_30 : decode cX10_init 30 = .ok (.return_, 1) := by decide +kernel
theorem dX11_init_0 : decode cX11_init 0 = .ok (.aload_n 0, 1) := by decide +kernel
theorem dX11_init_1 : decode cX11_init 1 = .ok (.invokespecial 3, 3) := by decide +kernel
theorem dX11_init_4 : decode cX11_init 4 = .ok (.aload_n 0, 1) := by decide +kernel
theorem dX11_init_5 : decode cX11_init 5 = .ok (.new 9, 3) := by decide +kernel
theorem dX11_init_8 : decode cX11_init 8 = .ok (.dup, 1) := by decide +kernel
theorem dX11_init_9 : decode cX11_init 9 = .ok (.invokespecial 11, 3) := by decide +kernel
theorem dX11_init_12 : decode cX11_init 12 = .ok (.putfield 12, 3) := by decide +kernel
theorem dX11_init_15 : decode cX11_init 15 = .ok (.aload_n 0, 1) := by decide +kernel
theorem dX11_init_16 : decode cX11_init 16 = .ok (.new 16, 3) := by decide +kernel
theorem dX11_init_19 : decode cX11_init 19 = .ok (.dup, 1) := by decide +kernel
theorem dX11_init_20 : decode cX11_init 20 = .ok (.invokespecial 18, 3) := by decide +kernel
theorem dX11_init_23 : decode cX11_init 23 = .ok (.putfield 19, 3) := by decide +kernel
theorem dX11_init_26 : decode cX11_init 26 = .ok (.aload_n 0, 1) := by decide +kernel
theorem dX11_init_27 : decode cX11_init 27 = .ok (.iconst 3, 1) := by decide +kernel
theorem dX11_init_28 : decode cX11_init 28 = .ok (.anewarray 9, 3) := by decide +kernel
theorem dX11_init_31 : decode cX11_init 31 = .ok (.putfield 23, 3) := by decide +kernel
theorem dX11_init_34 : decode cX11_init 34 = .ok (.aload_n 0, 1) := by decide +kernel
theorem dX11_init_35 : decode cX11_init 35 = .ok (.iconst 3, 1) := by decide +kernel
theorem dX11_init_36 : decode cX11_init 36 = .ok (.anewarray 16, 3) := by decide +kernel
theorem dX11_init_39 : decode cX11_init 39 = .ok (.putfield 27, 3) := by decide +kernel
theorem dX11_init_42 : decode cX11_init 42 = .ok (.aload_n 0, 1) := by decide +kernel
theorem dX11_init_43 : decode cX11_init 43 = .ok (.iconst 0, 1) := by decide +kernel
theorem dX11_init_44 : decode cX11_init 44 = .ok (.putfield 31, 3) := by decide +kernel
theorem dX11_init_47 : decode cX11_init 47 = .ok (.aload_n 0, 1) := by decide +kernel
theorem dX11_init_48 : decode cX11_init 48 = .ok (.iconst 0, 1) := by decide +kernel
theorem dX11_init_49 : decode cX11_init 49 = .ok (.putfield 35, 3) := by decide +kernel
theorem dX11_init_52 : decode cX11_init 52 = .ok (.aload_n 0, 1) := by decide +kernel
theorem dX11_init_53 : decode cX11_init 53 = .ok (.sipush 700, 3) := by decide +kernel
theorem dX11_init_56 : decode cX11_init 56 = .ok (.newarray .byte, 2) := by decide +kernel
theorem dX11_init_58 : decode cX11_init 58 = .ok (.putfield 38, 3) := by decide +kernel
theorem dX11_init_61 : decode cX11_init 61 = .ok (.aload_n 0, 1) := by decide +kernel
theorem dX11_init_62 : decode cX11_init 62 = .ok (.iconst 0, 1) := by decide +kernel
theorem dX11_init_63 : decode cX11_init 63 = .ok (.putfield 42, 3) := by decide +kernel
theorem dX11_init_66 : decode cX11_init 66 = .ok (.aload_n 0, 1) := by decide +kernel
theorem dX11_init_67 : decode cX11_init 67 = .ok (.new 45, 3) := by decide +kernel
theorem dX11_init_70 : decode cX11_init 70 = .ok (.dup, 1) := by decide +kernel
theorem dX11_init_71 : decode cX11_init 71 = .ok (.invokespecial 47, 3) := by decide +kernel
theorem dX11_init_74 : decode cX11_init 74 = .ok (.putfield 48, 3) := by decide +kernel
theorem dX11_init_77 : decode cX11_init 77 = .ok (.aload_n 0, 1) := by decide +kernel
theorem dX11_init_78 : decode cX11_init 78 = .ok (.new 52, 3) := by decide +kernel
theorem dX11_init_81 : decode cX11_init 81 = .ok (.dup, 1) := by decide +kernel
theorem dX11_init_82 : decode cX11_init 82 = .ok (.invokespecial 54, 3) := by decide +kernel
theorem dX11_init_85 : decode cX11_init 85 = .ok (.putfield 55, 3) := by decide +kernel
theorem dX11_init_88 : decode cX11_init 88 = .ok (.aload_n 0, 1) := by decide +kernel
theorem dX11_init_89 : decode cX11_init 89 = .ok (.new 59, 3) := by decide +kernel
theorem dX11_init_92 : decode cX11_init 92 = .ok (.dup, 1) := by decide +kernel
theorem dX11_init_93 : decode cX11_init 93 = .ok (.invokespecial 61, 3) := by decide +kernel
theorem dX11_init_96 : decode cX11_init 96 = .ok (.putfield 62, 3) := by decide +kernel
theorem dX11_init_99 : decode cX11_init 99 = .ok (.aload_n 0, 1) := by decide +kernel
theorem dX11_init_100 : decode cX11_init 100 = .ok (.new 59, 3) := by decide +kernel
theorem dX11_init_103 : decode cX11_init 103 = .ok (.dup, 1) := by decide +kernel
theorem dX11_init_104 : decode cX11_init 104 = .ok (.invokespecial 61, 3) := by decide +kernel
theorem dX11_init_107 : decode cX11_init 107 = .ok (.putfield 66, 3) := by decide +kernel
theorem dX11_init_110 : decode cX11_init 110 = .ok (.aload_n 0, 1) := by decide +kernel
theorem dX11_init_111 : decode cX11_init 111 = .ok (.new 59, 3) := by decide +kernel
theorem dX11_init_114 : decode cX11_init 114 = .ok (.dup, 1) := by decide +kernel
theorem dX11_init_115 : decode cX11_init 115 = .ok (.invokespecial 61, 3) := by decide +kernel
theorem dX11_init_118 : decode cX11_init 118 = .ok (.putfield 69, 3) := by decide +kernel
theorem dX11_init_121 : decode cX11_init 121 = .ok (.aload_n 0, 1) := by decide +kernel
theorem dX11_init_122 : decode cX11_init 122 = .ok (.new 59, 3) := by decide +kernel
theorem dX11_init_125 : decode cX11_init 125 = .ok (.dup, 1) := by decide +kernel
theorem dX11_init_126 : decode cX11_init 126 = .ok (.invokespecial 61, 3) := by decide +kernel
theorem dX11_init_129 : decode cX11_init 129 = .ok (.putfield 72, 3) := by decide +kernel
theorem dX11_init_132 : decode cX11_init 132 = .ok (.aload_n 0, 1) := by decide +kernel
theorem dX11_init_133 : decode cX11_init 133 = .ok (.new 59, 3) := by decide +kernel
theorem dX11_init_136 : decode cX11_init 136 = .ok (.dup, 1) := by decide +kernel
theorem dX11_init_137 : decode cX11_init 137 = .ok (.invokespecial 61, 3) := by decide +kernel
theorem dX11_init_140 : decode cX11_init 140 = .ok (.putfield 75, 3) := by decide +kernel
theorem dX11_init_143 : decode cX11_init 143 = .ok (.aload_n 0, 1) := by decide +kernel
theorem dX11_init_144 : decode cX11_init 144 = .ok (.new 78, 3) := by decide +kernel
theorem dX11_init_147 : decode cX11_init 147 = .ok (.dup, 1) := by decide +kernel
theorem dX11_init_148 : decode cX11_init 148 = .ok (.invokespecial 80, 3) := by decide +kernel
theorem dX11_init_151 : decode cX11_init 151 = .ok (.putfield 81, 3) := by decide +kernel
theorem dX11_init_154 : decode cX11_init 154 = .ok (.aload_n 0, 1) := by decide +kernel
theorem dX11_init_155 : decode cX11_init 155 = .ok (.new 85, 3) := by decide +kernel
theorem dX11_init_158 : decode cX11_init 158 = .ok (.dup, 1) := by decide +kernel
theorem dX11_init_159 : decode cX11_init 159 = .ok (.invokespecial 87, 3) := by decide +kernel
theorem dX11_init_162 : decode cX11_init 162 = .ok (.putfield 88, 3) := by decide +kernel
theorem dX11_init_165 : decode cX11_init 165 = .ok (.aload_n 0, 1) := by decide +kernel
theorem dX11_init_166 : decode cX11_init 166 = .ok (.new 92, 3) := by decide +kernel
theorem dX11_init_169 : decode cX11_init 169 = .ok (.dup, 1) := by decide +kernel
theorem dX11_init_170 : decode cX11_init 170 = .ok (.invokespecial 94, 3) := by decide +kernel
theorem dX11_init_173 : decode cX11_init 173 = .ok (.putfield 95, 3) := by decide +kernel
theorem dX11_init_176 : decode cX11_init 176 = .ok (.aload_n 0, 1) := by decide +kernel
theorem dX11_init_177 : decode cX11_init 177 = .ok (.new 99, 3) := by decide +kernel
theorem dX11_init_180 : decode cX11_init 180 = .ok (.dup, 1) := by decide +kernel
theorem dX11_init_181 : decode cX11_init 181 = .ok (.invokespecial 101, 3) := by decide +kernel
theorem dX11_init_184 : decode cX11_init 184 = .ok (.putfield 102, 3) := by decide +kernel
theorem dX11_init_187 : decode cX11_init 187 = .ok (.iconst 0, 1) := by decide +kernel
theorem dX11_init_188 : decode cX11_init 188 = .ok (.istore_n 1, 1) := by decide +kernel
theorem dX11_init_189 : decode cX11_init 189 = .ok (.iload_n 1, 1) := by decide +kernel
theorem dX11_init_190 : decode cX11_init 190 = .ok (.iconst 3, 1) := by decide +kernel
theorem dX11_init_191 : decode cX11_init 191 = .ok (.if_icmp .ge 35, 3) := by decide +kernel
theorem dX11_init_194 : decode cX11_init 194 = .ok (.aload_n 0, 1) := by decide +kernel
theorem dX11_init_195 : decode cX11_init 195 = .ok (.getfield 23, 3) := by decide +kernel
theorem dX11_init_198 : decode cX11_init 198 = .ok (.iload_n 1, 1) := by decide +kernel
theorem dX11_init_199 : decode cX11_init 199 = .ok (.new 9, 3) := by decide +kernel
theorem dX11_init_202 : decode cX11_init 202 = .ok (.dup, 1) := by decide +kernel
theorem dX11_init_203 : decode cX11_init 203 = .ok (.invokespecial 11, 3) := by decide +kernel
theorem dX11_init_206 : decode cX11_init 206 = .ok (.aastore, 1) := by decide +kernel
theorem dX11_init_207 : decode cX11_init 207 = .ok (.aload_n 0, 1) := by decide +kernel
theorem dX11_init_208 : decode cX11_init 208 = .ok (.getfield 27, 3) := by decide +kernel
theorem dX11_init_211 : decode cX11_init 211 = .ok (.iload_n 1, 1) := by decide +kernel
theorem dX11_init_212 : decode cX11_init 212 = .ok (.new 16, 3) := by decide +kernel
theorem dX11_init_215 : decode cX11_init 215 = .ok (.dup, 1) := by decide +kernel
theorem dX11_init_216 : decode cX11_init 216 = .ok (.invokespecial 18, 3) := by decide +kernel
theorem dX11_init_219 : decode cX11_init 219 = .ok (.aastore, 1) := by decide +kernel
theorem dX11_init_220 : decode cX11_init 220 = .ok (.iinc 1 1, 3) := by decide +kernel
theorem dX11_init_223 : decode cX11_init 223 = .ok (.goto (-34), 3) := by decide +kernel
theorem dX11_init_226 : decode cX11_init 226 = .ok (.return_, 1) := by decide +kernel
theorem dX11_status_0 : decode cX11_status 0 = .ok (.aload_n 0, 1) := by decide +kernel
theorem dX11_status_1 : decode cX11_status 1 = .ok (.getfield 35, 3) := by decide +kernel
theorem dX11_status_4 : decode cX11_status 4 = .ok (.ireturn, 1) := by decide +kernel
theorem dX11_feed_0 : decode cX11_feed 0 = .ok (.aload_n 0, 1) := by decide +kernel
theorem dX11_feed_1 : decode cX11_feed 1 = .ok (.getfield 42, 3) := by decide +kernel
theorem dX11_feed_4 : decode cX11_feed 4 = .ok (.bipush 20, 2) := by decide +kernel
theorem dX11_feed_6 : decode cX11_feed 6 = .ok (.iadd, 1) := by decide +kernel
theorem dX11_feed_7 : decode cX11_feed 7 = .ok (.sipush 700, 3) := by decide +kernel
theorem dX11_feed_10 : decode cX11_feed 10 = .ok (.if_icmp .le 5, 3) := by decide +kernel
theorem dX11_feed_15 : decode cX11_feed 15 = .ok (.aload_n 0, 1) := by decide +kernel
theorem dX11_feed_16 : decode cX11_feed 16 = .ok (.iload_n 1, 1) := by decide +kernel
theorem dX11_feed_17 : decode cX11_feed 17 = .ok (.invokevirtual 106, 3) := by decide +kernel
theorem dX11_feed_20 : decode cX11_feed 20 = .ok (.aload_n 0, 1) := by decide +kernel
theorem dX11_feed_21 : decode cX11_feed 21 = .ok (.iload_n 2, 1) := by decide +kernel
theorem dX11_feed_22 : decode cX11_feed 22 = .ok (.invokevirtual 106, 3) := by decide +kernel
theorem dX11_feed_25 : decode cX11_feed 25 = .ok (.aload_n 0, 1) := by decide +kernel
theorem dX11_feed_26 : decode cX11_feed 26 = .ok (.iload_n 3, 1) := by decide +kernel
theorem dX11_feed_27 : decode cX11_feed 27 = .ok (.invokevirtual 106, 3) := by decide +kernel
theorem dX11_feed_30 : decode cX11_feed 30 = .ok (.aload_n 0, 1) := by decide +kernel
theorem dX11_feed_31 : decode cX11_feed 31 = .ok (.iload 4, 2) := by decide +kernel
theorem dX11_feed_33 : decode cX11_feed 33 = .ok (.invokevirtual 106, 3) := by decide +kernel
theorem dX11_feed_36 : decode cX11_feed 36 = .ok (.aload_n 0, 1) := by decide +kernel
theorem dX11_feed_37 : decode cX11_feed 37 = .ok (.iload 5, 2) := by decide +kernel
theorem dX11_feed_39 : decode cX11_feed 39 = .ok (.invokevirtual 106, 3) := by decide +kernel
theorem dX11_feed_42 : decode cX11_feed 42 = .ok (.aload_n 0, 1) := by decide +kernel
theorem dX11_feed_43 : decode cX11_feed 43 = .ok (.getfield 42, 3) := by decide +kernel
theorem dX11_feed_46 : decode cX11_feed 46 = .ok (.ireturn, 1) := by decide +kernel
theorem dX11_load_0 : decode cX11_load 0 = .ok (.iload_n 1, 1) := by decide +kernel
theorem dX11_load_1 : decode cX11_load 1 = .ok (.ifCond .lt 11, 3) := by decide +kernel
theorem dX11_load_4 : decode cX11_load 4 = .ok (.iload_n 1, 1) := by decide +kernel
theorem dX11_load_5 : decode cX11_load 5 = .ok (.aload_n 0, 1) := by decide +kernel
theorem dX11_load_6 : decode cX11_load 6 = .ok (.getfield 42, 3) := by decide +kernel
theorem dX11_load_9 : decode cX11_load 9 = .ok (.if_icmp .le 9, 3) := by decide +kernel
theorem dX11_load_12 : decode cX11_load 12 = .ok (.aload_n 0, 1) := by decide +kernel
theorem dX11_load_13 : decode cX11_load 13 = .ok (.iconst 1, 1) := by decide +kernel
theorem dX11_load_14 : decode cX11_load 14 = .ok (.invokevirtual 110, 3) := by decide +kernel
theorem dX11_load_17 : decode cX11_load 17 = .ok (.ireturn, 1) := by decide +kernel
theorem dX11_load_18 : decode cX11_load 18 = .ok (.aload_n 0, 1) := by decide +kernel
theorem dX11_load_19 : decode cX11_load 19 = .ok (.iconst 0, 1) := by decide +kernel
theorem dX11_load_20 : decode cX11_load 20 = .ok (.putfield 42, 3) := by decide +kernel
theorem dX11_load_23 : decode cX11_load 23 = .ok (.aload_n 0, 1) := by decide +kernel
theorem dX11_load_24 : decode cX11_load 24 = .ok (.getfield 48, 3) := by decide +kernel
theorem dX11_load_27 : decode cX11_load 27 = .ok (.aload_n 0, 1) := by decide +kernel
theorem dX11_load_28 : decode cX11_load 28 = .ok (.getfield 38, 3) := by decide +kernel
theorem dX11_load_31 : decode cX11_load 31 = .ok (.iload_n 1, 1) := by decide +kernel
theorem dX11_load_32 : decode cX11_load 32 = .ok (.invokevirtual 114, 3) := by decide +kernel
theorem dX11_load_35 : decode cX11_load 35 = .ok (.ifCond .ne 10, 3) := by decide +kernel
theorem dX11_load_45 : decode cX11_load 45 = .ok (.aload_n 0, 1) := by decide +kernel
theorem dX11_load_46 : decode cX11_load 46 = .ok (.getfield 19, 3) := by decide +kernel
theorem dX11_load_49 : decode cX11_load 49 = .ok (.aload_n 0, 1) := by decide +kernel
theorem dX11_load_50 : decode cX11_load 50 = .ok (.getfield 12, 3) := by decide +kernel
theorem dX11_load_53 : decode cX11_load 53 = .ok (.invokevirtual 118, 3) := by decide +kernel
theorem dX11_load_56 : decode cX11_load 56 = .ok (.aload_n 0, 1) := by decide +kernel
theorem dX11_load_57 : decode cX11_load 57 = .ok (.getfield 12, 3) := by decide +kernel
theorem dX11_load_60 : decode cX11_load 60 = .ok (.aload_n 0, 1) := by decide +kernel
theorem dX11_load_61 : decode cX11_load 61 = .ok (.getfield 48, 3) := by decide +kernel
theorem dX11_load_64 : decode cX11_load 64 = .ok (.invokevirtual 122, 3) := by decide +kernel
theorem dX11_load_67 : decode cX11_load 67 = .ok (.invokevirtual 126, 3) := by decide +kernel
theorem dX11_load_70 : decode cX11_load 70 = .ok (.aload_n 0, 1) := by decide +kernel
theorem dX11_load_71 : decode cX11_load 71 = .ok (.aload_n 0, 1) := by decide +kernel
theorem dX11_load_72 : decode cX11_load 72 = .ok (.getfield 12, 3) := by decide +kernel
theorem dX11_load_75 : decode cX11_load 75 = .ok (.invokevirtual 129, 3) := by decide +kernel
theorem dX11_load_78 : decode cX11_load 78 = .ok (.invokevirtual 133, 3) := by decide +kernel
theorem dX11_load_81 : decode cX11_load 81 = .ok (.ireturn, 1) := by decide +kernel
theorem dX11_fault_0 : decode cX11_fault 0 = .ok (.aload_n 0, 1) := by decide +kernel
theorem dX11_fault_1 : decode cX11_fault 1 = .ok (.getfield 48, 3) := by decide +kernel
theorem dX11_fault_4 : decode cX11_fault 4 = .ok (.iload_n 1, 1) := by decide +kernel
theorem dX11_fault_5 : decode cX11_fault 5 = .ok (.invokevirtual 136, 3) := by decide +kernel
theorem dX11_fault_8 : decode cX11_fault 8 = .ok (.ireturn, 1) := by decide +kernel
theorem dX11_many_0 : decode cX11_many 0 = .ok (.iload_n 1, 1) := by decide +kernel
theorem dX11_many_1 : decode cX11_many 1 = .ok (.tableswitch 148 0 6 #[43, 55, 67, 79, 91, 100, 132], 43) := by decide +kernel
theorem dX11_many_44 : decode cX11_many 44 = .ok (.aload_n 0, 1) := by decide +kernel
theorem dX11_many_45 : decode cX11_many 45 = .ok (.aload_n 0, 1) := by decide +kernel
theorem dX11_many_46 : decode cX11_many 46 = .ok (.getfield 12, 3) := by decide +kernel
theorem dX11_many_49 : decode cX11_many 49 = .ok (.invokevirtual 139, 3) := by decide +kernel
theorem dX11_many_52 : decode cX11_many 52 = .ok (.invokevirtual 133, 3) := by decide +kernel
theorem dX11_many_55 : decode cX11_many 55 = .ok (.ireturn, 1) := by decide +kernel
theorem dX11_many_56 : decode cX11_many 56 = .ok (.aload_n 0, 1) := by decide +kernel
theorem dX11_many_57 : decode cX11_many 57 = .ok (.aload_n 0, 1) := by decide +kernel
theorem dX11_many_58 : decode cX11_many 58 = .ok (.getfield 12, 3) := by decide +kernel
theorem dX11_many_61 : decode cX11_many 61 = .ok (.invokevirtual 142, 3) := by decide +kernel
theorem dX11_many_64 : decode cX11_many 64 = .ok (.invokevirtual 133, 3) := by decide +kernel
theorem dX11_many_67 : decode cX11_many 67 = .ok (.ireturn, 1) := by decide +kernel
theorem dX11_many_68 : decode cX11_many 68 = .ok (.aload_n 0, 1) := by decide +kernel
theorem dX11_many_69 : decode cX11_many 69 = .ok (.aload_n 0, 1) := by decide +kernel
theorem dX11_many_70 : decode cX11_many 70 = .ok (.getfield 12, 3) := by decide +kernel
theorem dX11_many_73 : decode cX11_many 73 = .ok (.invokevirtual 129, 3) := by decide +kernel
theorem dX11_many_76 : decode cX11_many 76 = .ok (.invokevirtual 133, 3) := by decide +kernel
theorem dX11_many_79 : decode cX11_many 79 = .ok (.ireturn, 1) := by decide +kernel
theorem dX11_many_80 : decode cX11_many 80 = .ok (.aload_n 0, 1) := by decide +kernel
theorem dX11_many_81 : decode cX11_many 81 = .ok (.aload_n 0, 1) := by decide +kernel
theorem dX11_many_82 : decode cX11_many 82 = .ok (.getfield 19, 3) := by decide +kernel
theorem dX11_many_85 : decode cX11_many 85 = .ok (.invokevirtual 145, 3) := by decide +kernel
theorem dX11_many_88 : decode cX11_many 88 = .ok (.invokevirtual 133, 3) := by decide +kernel
theorem dX11_many_91 : decode cX11_many 91 = .ok (.ireturn, 1) := by decide +kernel
theorem dX11_many_92 : decode cX11_many 92 = .ok (.aload_n 0, 1) := by decide +kernel
theorem dX11_many_93 : decode cX11_many 93 = .ok (.aload_n 0, 1) := by decide +kernel
theorem dX11_many_94 : decode cX11_many 94 = .ok (.getfield 31, 3) := by decide +kernel
theorem dX11_many_97 : decode cX11_many 97 = .ok (.invokevirtual 133, 3) := by decide +kernel
theorem dX11_many_100 : decode cX11_many 100 = .ok (.ireturn, 1) := by decide +kernel
theorem dX11_many_101 : decode cX11_many 101 = .ok (.aload_n 0, 1) := by decide +kernel
theorem dX11_many_102 : decode cX11_many 102 = .ok (.aload_n 0, 1) := by decide +kernel
theorem dX11_many_103 : decode cX11_many 103 = .ok (.getfield 12, 3) := by decide +kernel
theorem dX11_many_106 : decode cX11_many 106 = .ok (.invokevirtual 142, 3) := by decide +kernel
theorem dX11_many_109 : decode cX11_many 109 = .ok (.aload_n 0, 1) := by decide +kernel
theorem dX11_many_110 : decode cX11_many 110 = .ok (.getfield 12, 3) := by decide +kernel
theorem dX11_many_113 : decode cX11_many 113 = .ok (.invokevirtual 139, 3) := by decide +kernel
theorem dX11_many_116 : decode cX11_many 116 = .ok (.isub, 1) := by decide +kernel
theorem dX11_many_117 : decode cX11_many 117 = .ok (.aload_n 0, 1) := by decide +kernel
theorem dX11_many_118 : decode cX11_many 118 = .ok (.getfield 95, 3) := by decide +kernel
theorem dX11_many_121 : decode cX11_many 121 = .ok (.aload_n 0, 1) := by decide +kernel
theorem dX11_many_122 : decode cX11_many 122 = .ok (.getfield 12, 3) := by decide +kernel
theorem dX11_many_125 : decode cX11_many 125 = .ok (.invokevirtual 148, 3) := by decide +kernel
theorem dX11_many_128 : decode cX11_many 128 = .ok (.iadd, 1) := by decide +kernel
theorem dX11_many_129 : decode cX11_many 129 = .ok (.invokevirtual 133, 3) := by decide +kernel
theorem dX11_many_132 : decode cX11_many 132 = .ok (.ireturn, 1) := by decide +kernel
theorem dX11_many_133 : decode cX11_many 133 = .ok (.aload_n 0, 1) := by decide +kernel
theorem dX11_many_134 : decode cX11_many 134 = .ok (.aload_n 0, 1) := by decide +kernel
theorem dX11_many_135 : decode cX11_many 135 = .ok (.getfield 95, 3) := by decide +kernel
theorem dX11_many_138 : decode cX11_many 138 = .ok (.aload_n 0, 1) := by decide +kernel
theorem dX11_many_139 : decode cX11_many 139 = .ok (.getfield 12, 3) := by decide +kernel
theorem dX11_many_142 : decode cX11_many 142 = .ok (.invokevirtual 148, 3) := by decide +kernel
theorem dX11_many_145 : decode cX11_many 145 = .ok (.invokevirtual 133, 3) := by decide +kernel
theorem dX11_many_148 : decode cX11_many 148 = .ok (.ireturn, 1) := by decide +kernel
theorem dX11_many_149 : decode cX11_many 149 = .ok (.aload_n 0, 1) := by decide +kernel
theorem dX11_many_150 : decode cX11_many 150 = .ok (.iconst 1, 1) := by decide +kernel
theorem dX11_many_151 : decode cX11_many 151 = .ok (.invokevirtual 110, 3) := by decide +kernel
theorem dX11_many_154 : decode cX11_many 154 = .ok (.ireturn, 1) := by decide +kernel
theorem dX11_order_0 : decode cX11_order 0 = .ok (.aload_n 0, 1) := by decide +kernel
theorem dX11_order_1 : decode cX11_order 1 = .ok (.getfield 12, 3) := by decide +kernel
theorem dX11_order_4 : decode cX11_order 4 = .ok (.iload_n 1, 1) := by decide +kernel
theorem dX11_order_5 : decode cX11_order 5 = .ok (.invokevirtual 152, 3) := by decide +kernel
theorem dX11_order_8 : decode cX11_order 8 = .ok (.ifCond .eq 18, 3) := by decide +kernel
theorem dX11_order_26 : decode cX11_order 26 = .ok (.aload_n 0, 1) := by decide +kernel
theorem dX11_order_27 : decode cX11_order 27 = .ok (.iconst 2, 1) := by decide +kernel
theorem dX11_order_28 : decode cX11_order 28 = .ok (.invokevirtual 110, 3) := by decide +kernel
theorem dX11_order_31 : decode cX11_order 31 = .ok (.ireturn, 1) := by decide +kernel
theorem dX11_edge_0 : decode cX11_edge 0 = .ok (.iload_n 2, 1) := by decide +kernel
theorem dX11_edge_1 : decode cX11_edge 1 = .ok (.ifCond .lt 8, 3) := by decide +kernel
theorem dX11_edge_4 : decode cX11_edge 4 = .ok (.iload_n 2, 1) := by decide +kernel
theorem dX11_edge_5 : decode cX11_edge 5 = .ok (.iconst 4, 1) := by decide +kernel
theorem dX11_edge_6 : decode cX11_edge 6 = .ok (.if_icmp .le 9, 3) := by decide +kernel
theorem dX11_edge_9 : decode cX11_edge 9 = .ok (.aload_n 0, 1) := by decide +kernel
theorem dX11_edge_10 : decode cX11_edge 10 = .ok (.iconst 1, 1) := by decide +kernel
theorem dX11_edge_11 : decode cX11_edge 11 = .ok (.invokevirtual 110, 3) := by decide +kernel
theorem dX11_edge_14 : decode cX11_edge 14 = .ok (.ireturn, 1) := by decide +kernel
theorem dX11_edge_15 : decode cX11_edge 15 = .ok (.aload_n 0, 1) := by decide +kernel
theorem dX11_edge_16 : decode cX11_edge 16 = .ok (.getfield 12, 3) := by decide +kernel
theorem dX11_edge_19 : decode cX11_edge 19 = .ok (.iload_n 1, 1) := by decide +kernel
theorem dX11_edge_20 : decode cX11_edge 20 = .ok (.invokevirtual 159, 3) := by decide +kernel
theorem dX11_edge_23 : decode cX11_edge 23 = .ok (.ifCond .ne 9, 3) := by decide +kernel
theorem dX11_edge_26 : decode cX11_edge 26 = .ok (.aload_n 0, 1) := by decide +kernel
theorem dX11_edge_27 : decode cX11_edge 27 = .ok (.iconst 2, 1) := by decide +kernel
theorem dX11_edge_28 : decode cX11_edge 28 = .ok (.invokevirtual 110, 3) := by decide +kernel
theorem dX11_edge_31 : decode cX11_edge 31 = .ok (.ireturn, 1) := by decide +kernel
theorem dX11_word_0 : decode cX11_word 0 = .ok (.iload_n 2, 1) := by decide +kernel
theorem dX11_word_1 : decode cX11_word 1 = .ok (.ifCond .lt 8, 3) := by decide +kernel
theorem dX11_word_4 : decode cX11_word 4 = .ok (.iload_n 2, 1) := by decide +kernel
theorem dX11_word_5 : decode cX11_word 5 = .ok (.iconst 4, 1) := by decide +kernel
theorem dX11_word_6 : decode cX11_word 6 = .ok (.if_icmp .le 9, 3) := by decide +kernel
theorem dX11_word_9 : decode cX11_word 9 = .ok (.aload_n 0, 1) := by decide +kernel
theorem dX11_word_10 : decode cX11_word 10 = .ok (.iconst 1, 1) := by decide +kernel
theorem dX11_word_11 : decode cX11_word 11 = .ok (.invokevirtual 110, 3) := by decide +kernel
theorem dX11_word_14 : decode cX11_word 14 = .ok (.ireturn, 1) := by decide +kernel
theorem dX11_word_15 : decode cX11_word 15 = .ok (.aload_n 0, 1) := by decide +kernel
theorem dX11_word_16 : decode cX11_word 16 = .ok (.getfield 12, 3) := by decide +kernel
theorem dX11_word_19 : decode cX11_word 19 = .ok (.iload_n 1, 1) := by decide +kernel
theorem dX11_word_20 : decode cX11_word 20 = .ok (.aload_n 0, 1) := by decide +kernel
theorem dX11_word_21 : decode cX11_word 21 = .ok (.getfield 62, 3) := by decide +kernel
theorem dX11_word_24 : decode cX11_word 24 = .ok (.invokevirtual 169, 3) := by decide +kernel
theorem dX11_word_27 : decode cX11_word 27 = .ok (.ifCond .ne 9, 3) := by decide +kernel
theorem dX11_word_30 : decode cX11_word 30 = .ok (.aload_n 0, 1) := by decide +kernel
theorem dX11_word_31 : decode cX11_word 31 = .ok (.iconst 2, 1) := by decide +kernel
theorem dX11_word_32 : decode cX11_word 32 = .ok (.invokevirtual 110, 3) := by decide +kernel
theorem dX11_word_35 : decode cX11_word 35 = .ok (.ireturn, 1) := by decide +kernel
theorem dX11_number_0 : decode cX11_number 0 = .ok (.iload_n 2, 1) := by decide +kernel
theorem dX11_number_1 : decode cX11_number 1 = .ok (.ifCond .ge 9, 3) := by decide +kernel
theorem dX11_number_4 : decode cX11_number 4 = .ok (.aload_n 0, 1) := by decide +kernel
theorem dX11_number_5 : decode cX11_number 5 = .ok (.iconst 1, 1) := by decide +kernel
theorem dX11_number_6 : decode cX11_number 6 = .ok (.invokevirtual 110, 3) := by decide +kernel
theorem dX11_number_9 : decode cX11_number 9 = .ok (.ireturn, 1) := by decide +kernel
theorem dX11_number_10 : decode cX11_number 10 = .ok (.aload_n 0, 1) := by decide +kernel
theorem dX11_number_11 : decode cX11_number 11 = .ok (.getfield 12, 3) := by decide +kernel
theorem dX11_number_14 : decode cX11_number 14 = .ok (.iload_n 1, 1) := by decide +kernel
theorem dX11_number_15 : decode cX11_number 15 = .ok (.aload_n 0, 1) := by decide +kernel
theorem dX11_number_16 : decode cX11_number 16 = .ok (.getfield 62, 3) := by decide +kernel
theorem dX11_number_19 : decode cX11_number 19 = .ok (.invokevirtual 169, 3) := by decide +kernel
theorem dX11_number_22 : decode cX11_number 22 = .ok (.ifCond .ne 9, 3) := by decide +kernel
theorem dX11_number_25 : decode cX11_number 25 = .ok (.aload_n 0, 1) := by decide +kernel
theorem dX11_number_26 : decode cX11_number 26 = .ok (.iconst 2, 1) := by decide +kernel
theorem dX11_number_27 : decode cX11_number 27 = .ok (.invokevirtual 110, 3) := by decide +kernel
theorem dX11_number_30 : decode cX11_number 30 = .ok (.ireturn, 1) := by decide +kernel
theorem dX11_step_0 : decode cX11_step 0 = .ok (.iload_n 2, 1) := by decide +kernel
theorem dX11_step_1 : decode cX11_step 1 = .ok (.ifCond .ge 9, 3) := by decide +kernel
theorem dX11_step_4 : decode cX11_step 4 = .ok (.aload_n 0, 1) := by decide +kernel
theorem dX11_step_5 : decode cX11_step 5 = .ok (.iconst 1, 1) := by decide +kernel
theorem dX11_step_6 : decode cX11_step 6 = .ok (.invokevirtual 110, 3) := by decide +kernel
theorem dX11_step_9 : decode cX11_step 9 = .ok (.ireturn, 1) := by decide +kernel
theorem dX11_step_10 : decode cX11_step 10 = .ok (.aload_n 0, 1) := by decide +kernel
theorem dX11_step_11 : decode cX11_step 11 = .ok (.getfield 12, 3) := by decide +kernel
theorem dX11_step_14 : decode cX11_step 14 = .ok (.iload_n 1, 1) := by decide +kernel
theorem dX11_step_15 : decode cX11_step 15 = .ok (.aload_n 0, 1) := by decide +kernel
theorem dX11_step_16 : decode cX11_step 16 = .ok (.getfield 62, 3) := by decide +kernel
theorem dX11_step_19 : decode cX11_step 19 = .ok (.invokevirtual 169, 3) := by decide +kernel
theorem dX11_step_22 : decode cX11_step 22 = .ok (.ifCond .ne 9, 3) := by decide +kernel
theorem dX11_step_25 : decode cX11_step 25 = .ok (.aload_n 0, 1) := by decide +kernel
theorem dX11_step_26 : decode cX11_step 26 = .ok (.iconst 2, 1) := by decide +kernel
theorem dX11_step_27 : decode cX11_step 27 = .ok (.invokevirtual 110, 3) := by decide +kernel
theorem dX11_step_30 : decode cX11_step 30 = .ok (.ireturn, 1) := by decide +kernel
theorem dX11_take_0 : decode cX11_take 0 = .ok (.iload_n 2, 1) := by decide +kernel
theorem dX11_take_1 : decode cX11_take 1 = .ok (.ifCond .ge 9, 3) := by decide +kernel
theorem dX11_take_4 : decode cX11_take 4 = .ok (.aload_n 0, 1) := by decide +kernel
theorem dX11_take_5 : decode cX11_take 5 = .ok (.iconst 1, 1) := by decide +kernel
theorem dX11_take_6 : decode cX11_take 6 = .ok (.invokevirtual 110, 3) := by decide +kernel
theorem dX11_take_9 : decode cX11_take 9 = .ok (.ireturn, 1) := by decide +kernel
theorem dX11_take_10 : decode cX11_take 10 = .ok (.aload_n 0, 1) := by decide +kernel
theorem dX11_take_11 : decode cX11_take 11 = .ok (.getfield 12, 3) := by decide +kernel
theorem dX11_take_14 : decode cX11_take 14 = .ok (.iload_n 1, 1) := by decide +kernel
theorem dX11_take_15 : decode cX11_take 15 = .ok (.invokevirtual 152, 3) := by decide +kernel
theorem dX11_take_18 : decode cX11_take 18 = .ok (.ifCond .ne 9, 3) := by decide +kernel
theorem dX11_take_21 : decode cX11_take 21 = .ok (.aload_n 0, 1) := by decide +kernel
theorem dX11_take_22 : decode cX11_take 22 = .ok (.iconst 2, 1) := by decide +kernel
theorem dX11_take_23 : decode cX11_take 23 = .ok (.invokevirtual 110, 3) := by decide +kernel
theorem dX11_take_26 : decode cX11_take 26 = .ok (.ireturn, 1) := by decide +kernel
theorem dX11_form_0 : decode cX11_form 0 = .ok (.aload_n 0, 1) := by decide +kernel
theorem dX11_form_1 : decode cX11_form 1 = .ok (.getfield 12, 3) := by decide +kernel
theorem dX11_form_4 : decode cX11_form 4 = .ok (.iload_n 1, 1) := by decide +kernel
theorem dX11_form_5 : decode cX11_form 5 = .ok (.aload_n 0, 1) := by decide +kernel
theorem dX11_form_6 : decode cX11_form 6 = .ok (.getfield 62, 3) := by decide +kernel
theorem dX11_form_9 : decode cX11_form 9 = .ok (.invokevirtual 169, 3) := by decide +kernel
theorem dX11_form_12 : decode cX11_form 12 = .ok (.ifCond .ne 9, 3) := by decide +kernel
theorem dX11_form_15 : decode cX11_form 15 = .ok (.aload_n 0, 1) := by decide +kernel
theorem dX11_form_16 : decode cX11_form 16 = .ok (.iconst 2, 1) := by decide +kernel
theorem dX11_form_17 : decode cX11_form 17 = .ok (.invokevirtual 110, 3) := by decide +kernel
theorem dX11_form_20 : decode cX11_form 20 = .ok (.ireturn, 1) := by decide +kernel
theorem dX11_times_0 : decode cX11_times 0 = .ok (.aload_n 0, 1) := by decide +kernel
theorem dX11_times_1 : decode cX11_times 1 = .ok (.iload_n 1, 1) := by decide +kernel
theorem dX11_times_2 : decode cX11_times 2 = .ok (.iload_n 2, 1) := by decide +kernel
theorem dX11_times_3 : decode cX11_times 3 = .ok (.invokevirtual 219, 3) := by decide +kernel
theorem dX11_times_6 : decode cX11_times 6 = .ok (.ifCond .ne 9, 3) := by decide +kernel
theorem dX11_times_9 : decode cX11_times 9 = .ok (.aload_n 0, 1) := by decide +kernel
theorem dX11_times_10 : decode cX11_times 10 = .ok (.iconst 2, 1) := by decide +kernel
theorem dX11_times_11 : decode cX11_times 11 = .ok (.invokevirtual 110, 3) := by decide +kernel
theorem dX11_times_14 : decode cX11_times 14 = .ok (.ireturn, 1) := by decide +kernel
theorem dX11_turned_0 : decode cX11_turned 0 = .ok (.aload_n 0, 1) := by decide +kernel
theorem dX11_turned_1 : decode cX11_turned 1 = .ok (.getfield 12, 3) := by decide +kernel
theorem dX11_turned_4 : decode cX11_turned 4 = .ok (.iload_n 1, 1) := by decide +kernel
theorem dX11_turned_5 : decode cX11_turned 5 = .ok (.aload_n 0, 1) := by decide +kernel
theorem dX11_turned_6 : decode cX11_turned 6 = .ok (.getfield 62, 3) := by decide +kernel
theorem dX11_turned_9 : decode cX11_turned 9 = .ok (.invokevirtual 169, 3) := by decide +kernel
theorem dX11_turned_12 : decode cX11_turned 12 = .ok (.ifCond .ne 9, 3) := by decide +kernel
theorem dX11_turned_15 : decode cX11_turned 15 = .ok (.aload_n 0, 1) := by decide +kernel
theorem dX11_turned_16 : decode cX11_turned 16 = .ok (.iconst 2, 1) := by decide +kernel
theorem dX11_turned_17 : decode cX11_turned 17 = .ok (.invokevirtual 110, 3) := by decide +kernel
theorem dX11_turned_20 : decode cX11_turned 20 = .ok (.ireturn, 1) := by decide +kernel
theorem dX11_power_0 : decode cX11_power 0 = .ok (.iload_n 2, 1) := by decide +kernel
theorem dX11_power_1 : decode cX11_power 1 = .ok (.bipush (-9), 2) := by decide +kernel
theorem dX11_power_3 : decode cX11_power 3 = .ok (.if_icmp .lt 9, 3) := by decide +kernel
theorem dX11_power_6 : decode cX11_power 6 = .ok (.iload_n 2, 1) := by decide +kernel
theorem dX11_power_7 : decode cX11_power 7 = .ok (.bipush 9, 2) := by decide +kernel
theorem dX11_power_9 : decode cX11_power 9 = .ok (.if_icmp .le 9, 3) := by decide +kernel
theorem dX11_power_12 : decode cX11_power 12 = .ok (.aload_n 0, 1) := by decide +kernel
theorem dX11_power_13 : decode cX11_power 13 = .ok (.iconst 1, 1) := by decide +kernel
theorem dX11_power_14 : decode cX11_power 14 = .ok (.invokevirtual 110, 3) := by decide +kernel
theorem dX11_power_17 : decode cX11_power 17 = .ok (.ireturn, 1) := by decide +kernel
theorem dX11_power_18 : decode cX11_power 18 = .ok (.aload_n 0, 1) := by decide +kernel
theorem dX11_power_19 : decode cX11_power 19 = .ok (.iload_n 1, 1) := by decide +kernel
theorem dX11_power_20 : decode cX11_power 20 = .ok (.invokevirtual 231, 3) := by decide +kernel
theorem dX11_power_23 : decode cX11_power 23 = .ok (.istore_n 3, 1) := by decide +kernel
theorem dX11_power_24 : decode cX11_power 24 = .ok (.iload_n 3, 1) := by decide +kernel
theorem dX11_power_25 : decode cX11_power 25 = .ok (.ifCond .eq 9, 3) := by decide +kernel
theorem dX11_power_28 : decode cX11_power 28 = .ok (.aload_n 0, 1) := by decide +kernel
theorem dX11_power_29 : decode cX11_power 29 = .ok (.iload_n 3, 1) := by decide +kernel
theorem dX11_power_30 : decode cX11_power 30 = .ok (.invokevirtual 110, 3) := by decide +kernel
theorem dX11_power_33 : decode cX11_power 33 = .ok (.ireturn, 1) := by decide +kernel
theorem dX11_core_0 : decode cX11_core 0 = .ok (.aload_n 0, 1) := by decide +kernel
theorem dX11_core_1 : decode cX11_core 1 = .ok (.iload_n 1, 1) := by decide +kernel
theorem dX11_core_2 : decode cX11_core 2 = .ok (.invokevirtual 231, 3) := by decide +kernel
theorem dX11_core_5 : decode cX11_core 5 = .ok (.istore_n 2, 1) := by decide +kernel
theorem dX11_core_6 : decode cX11_core 6 = .ok (.iload_n 2, 1) := by decide +kernel
theorem dX11_core_7 : decode cX11_core 7 = .ok (.ifCond .eq 9, 3) := by decide +kernel
theorem dX11_core_10 : decode cX11_core 10 = .ok (.aload_n 0, 1) := by decide +kernel
theorem dX11_core_11 : decode cX11_core 11 = .ok (.iload_n 2, 1) := by decide +kernel
theorem dX11_core_12 : decode cX11_core 12 = .ok (.invokevirtual 110, 3) := by decide +kernel
theorem dX11_core_15 : decode cX11_core 15 = .ok (.ireturn, 1) := by decide +kernel
theorem dX11_spell_0 : decode cX11_spell 0 = .ok (.iload_n 2, 1) := by decide +kernel
theorem dX11_spell_1 : decode cX11_spell 1 = .ok (.ifCond .lt 13, 3) := by decide +kernel
theorem dX11_spell_4 : decode cX11_spell 4 = .ok (.iload_n 2, 1) := by decide +kernel
theorem dX11_spell_5 : decode cX11_spell 5 = .ok (.bipush 12, 2) := by decide +kernel
theorem dX11_spell_7 : decode cX11_spell 7 = .ok (.if_icmp .gt 7, 3) := by decide +kernel
theorem dX11_spell_10 : decode cX11_spell 10 = .ok (.iload_n 3, 1) := by decide +kernel
theorem dX11_spell_11 : decode cX11_spell 11 = .ok (.ifCond .ge 9, 3) := by decide +kernel
theorem dX11_spell_14 : decode cX11_spell 14 = .ok (.aload_n 0, 1) := by decide +kernel
theorem dX11_spell_15 : decode cX11_spell 15 = .ok (.iconst 1, 1) := by decide +kernel
theorem dX11_spell_16 : decode cX11_spell 16 = .ok (.invokevirtual 110, 3) := by decide +kernel
theorem dX11_spell_19 : decode cX11_spell 19 = .ok (.ireturn, 1) := by decide +kernel
theorem dX11_spell_20 : decode cX11_spell 20 = .ok (.aload_n 0, 1) := by decide +kernel
theorem dX11_spell_21 : decode cX11_spell 21 = .ok (.getfield 12, 3) := by decide +kernel
theorem dX11_spell_24 : decode cX11_spell 24 = .ok (.iload_n 1, 1) := by decide +kernel
theorem dX11_spell_25 : decode cX11_spell 25 = .ok (.invokevirtual 152, 3) := by decide +kernel
theorem dX11_spell_28 : decode cX11_spell 28 = .ok (.ifCond .ne 9, 3) := by decide +kernel
theorem dX11_spell_31 : decode cX11_spell 31 = .ok (.aload_n 0, 1) := by decide +kernel
theorem dX11_spell_32 : decode cX11_spell 32 = .ok (.iconst 2, 1) := by decide +kernel
theorem dX11_spell_33 : decode cX11_spell 33 = .ok (.invokevirtual 110, 3) := by decide +kernel
theorem dX11_spell_36 : decode cX11_spell 36 = .ok (.ireturn, 1) := by decide +kernel
theorem dX11_drop_0 : decode cX11_drop 0 = .ok (.aload_n 0, 1) := by decide +kernel
theorem dX11_drop_1 : decode cX11_drop 1 = .ok (.getfield 12, 3) := by decide +kernel
theorem dX11_drop_4 : decode cX11_drop 4 = .ok (.iload_n 1, 1) := by decide +kernel
theorem dX11_drop_5 : decode cX11_drop 5 = .ok (.invokevirtual 256, 3) := by decide +kernel
theorem dX11_drop_8 : decode cX11_drop 8 = .ok (.ifCond .ne 9, 3) := by decide +kernel
theorem dX11_drop_11 : decode cX11_drop 11 = .ok (.aload_n 0, 1) := by decide +kernel
theorem dX11_drop_12 : decode cX11_drop 12 = .ok (.iconst 2, 1) := by decide +kernel
theorem dX11_drop_13 : decode cX11_drop 13 = .ok (.invokevirtual 110, 3) := by decide +kernel
theorem dX11_drop_16 : decode cX11_drop 16 = .ok (.ireturn, 1) := by decide +kernel
theorem dX11_undo_0 : decode cX11_undo 0 = .ok (.aload_n 0, 1) := by decide +kernel
theorem dX11_undo_1 : decode cX11_undo 1 = .ok (.getfield 19, 3) := by decide +kernel
theorem dX11_undo_4 : decode cX11_undo 4 = .ok (.aload_n 0, 1) := by decide +kernel
theorem dX11_undo_5 : decode cX11_undo 5 = .ok (.getfield 12, 3) := by decide +kernel
theorem dX11_undo_8 : decode cX11_undo 8 = .ok (.invokevirtual 262, 3) := by decide +kernel
theorem dX11_undo_11 : decode cX11_undo 11 = .ok (.ifCond .ne 9, 3) := by decide +kernel
theorem dX11_undo_14 : decode cX11_undo 14 = .ok (.aload_n 0, 1) := by decide +kernel
theorem dX11_undo_15 : decode cX11_undo 15 = .ok (.iconst 5, 1) := by decide +kernel
theorem dX11_undo_16 : decode cX11_undo 16 = .ok (.invokevirtual 110, 3) := by decide +kernel
theorem dX11_undo_19 : decode cX11_undo 19 = .ok (.ireturn, 1) := by decide +kernel
theorem dX11_mark_0 : decode cX11_mark 0 = .ok (.aload_n 0, 1) := by decide +kernel
theorem dX11_mark_1 : decode cX11_mark 1 = .ok (.getfield 31, 3) := by decide +kernel
theorem dX11_mark_4 : decode cX11_mark 4 = .ok (.ifCond .lt 11, 3) := by decide +kernel
theorem dX11_mark_7 : decode cX11_mark 7 = .ok (.aload_n 0, 1) := by decide +kernel
theorem dX11_mark_8 : decode cX11_mark 8 = .ok (.getfield 31, 3) := by decide +kernel
theorem dX11_mark_11 : decode cX11_mark 11 = .ok (.iconst 3, 1) := by decide +kernel
theorem dX11_mark_12 : decode cX11_mark 12 = .ok (.if_icmp .lt 9, 3) := by decide +kernel
theorem dX11_mark_21 : decode cX11_mark 21 = .ok (.aload_n 0, 1) := by decide +kernel
theorem dX11_mark_22 : decode cX11_mark 22 = .ok (.getfield 23, 3) := by decide +kernel
theorem dX11_mark_25 : decode cX11_mark 25 = .ok (.aload_n 0, 1) := by decide +kernel
theorem dX11_mark_26 : decode cX11_mark 26 = .ok (.getfield 31, 3) := by decide +kernel
theorem dX11_mark_29 : decode cX11_mark 29 = .ok (.aaload, 1) := by decide +kernel
theorem dX11_mark_30 : decode cX11_mark 30 = .ok (.astore_n 1, 1) := by decide +kernel
theorem dX11_mark_31 : decode cX11_mark 31 = .ok (.aload_n 0, 1) := by decide +kernel
theorem dX11_mark_32 : decode cX11_mark 32 = .ok (.getfield 27, 3) := by decide +kernel
theorem dX11_mark_35 : decode cX11_mark 35 = .ok (.aload_n 0, 1) := by decide +kernel
theorem dX11_mark_36 : decode cX11_mark 36 = .ok (.getfield 31, 3) := by decide +kernel
theorem dX11_mark_39 : decode cX11_mark 39 = .ok (.aaload, 1) := by decide +kernel
theorem dX11_mark_40 : decode cX11_mark 40 = .ok (.astore_n 2, 1) := by decide +kernel
theorem dX11_mark_41 : decode cX11_mark 41 = .ok (.aload_n 1, 1) := by decide +kernel
theorem dX11_mark_42 : decode cX11_mark 42 = .ok (.ifnull 7, 3) := by decide +kernel
theorem dX11_mark_45 : decode cX11_mark 45 = .ok (.aload_n 2, 1) := by decide +kernel
theorem dX11_mark_46 : decode cX11_mark 46 = .ok (.ifnonnull 9, 3) := by decide +kernel
theorem dX11_mark_55 : decode cX11_mark 55 = .ok (.aload_n 1, 1) := by decide +kernel
theorem dX11_mark_56 : decode cX11_mark 56 = .ok (.aload_n 0, 1) := by decide +kernel
theorem dX11_mark_57 : decode cX11_mark 57 = .ok (.getfield 12, 3) := by decide +kernel
theorem dX11_mark_60 : decode cX11_mark 60 = .ok (.invokevirtual 126, 3) := by decide +kernel
theorem dX11_mark_63 : decode cX11_mark 63 = .ok (.aload_n 2, 1) := by decide +kernel
theorem dX11_mark_64 : decode cX11_mark 64 = .ok (.aload_n 0, 1) := by decide +kernel
theorem dX11_mark_65 : decode cX11_mark 65 = .ok (.getfield 19, 3) := by decide +kernel
theorem dX11_mark_68 : decode cX11_mark 68 = .ok (.invokevirtual 266, 3) := by decide +kernel
theorem dX11_mark_71 : decode cX11_mark 71 = .ok (.aload_n 0, 1) := by decide +kernel
theorem dX11_mark_72 : decode cX11_mark 72 = .ok (.dup, 1) := by decide +kernel
theorem dX11_mark_73 : decode cX11_mark 73 = .ok (.getfield 31, 3) := by decide +kernel
theorem dX11_mark_76 : decode cX11_mark 76 = .ok (.iconst 1, 1) := by decide +kernel
theorem dX11_mark_77 : decode cX11_mark 77 = .ok (.iadd, 1) := by decide +kernel
theorem dX11_mark_78 : decode cX11_mark 78 = .ok (.putfield 31, 3) := by decide +kernel
theorem dX11_mark_81 : decode cX11_mark 81 = .ok (.aload_n 0, 1) := by decide +kernel
theorem dX11_mark_82 : decode cX11_mark 82 = .ok (.aload_n 0, 1) := by decide +kernel
theorem dX11_mark_83 : decode cX11_mark 83 = .ok (.getfield 31, 3) := by decide +kernel
theorem dX11_mark_86 : decode cX11_mark 86 = .ok (.invokevirtual 133, 3) := by decide +kernel
theorem dX11_mark_89 : decode cX11_mark 89 = .ok (.ireturn, 1) := by decide +kernel
theorem dX11_back_0 : decode cX11_back 0 = .ok (.aload_n 0, 1) := by decide +kernel
theorem dX11_back_1 : decode cX11_back 1 = .ok (.getfield 31, 3) := by decide +kernel
theorem dX11_back_4 : decode cX11_back 4 = .ok (.iconst 1, 1) := by decide +kernel
theorem dX11_back_5 : decode cX11_back 5 = .ok (.isub, 1) := by decide +kernel
theorem dX11_back_6 : decode cX11_back 6 = .ok (.istore_n 1, 1) := by decide +kernel
theorem dX11_back_7 : decode cX11_back 7 = .ok (.iload_n 1, 1) := by decide +kernel
theorem dX11_back_8 : decode cX11_back 8 = .ok (.ifCond .lt 8, 3) := by decide +kernel
theorem dX11_back_16 : decode cX11_back 16 = .ok (.aload_n 0, 1) := by decide +kernel
theorem dX11_back_17 : decode cX11_back 17 = .ok (.iconst 5, 1) := by decide +kernel
theorem dX11_back_18 : decode cX11_back 18 = .ok (.invokevirtual 110, 3) := by decide +kernel
theorem dX11_back_21 : decode cX11_back 21 = .ok (.ireturn, 1) := by decide +kernel
theorem dX11_alike_0 : decode cX11_alike 0 = .ok (.aload_n 0, 1) := by decide +kernel
theorem dX11_alike_1 : decode cX11_alike 1 = .ok (.iload_n 1, 1) := by decide +kernel
theorem dX11_alike_2 : decode cX11_alike 2 = .ok (.iload_n 2, 1) := by decide +kernel
theorem dX11_alike_3 : decode cX11_alike 3 = .ok (.invokevirtual 219, 3) := by decide +kernel
theorem dX11_alike_6 : decode cX11_alike 6 = .ok (.ifCond .ne 9, 3) := by decide +kernel
theorem dX11_alike_9 : decode cX11_alike 9 = .ok (.aload_n 0, 1) := by decide +kernel
theorem dX11_alike_10 : decode cX11_alike 10 = .ok (.iconst 2, 1) := by decide +kernel
theorem dX11_alike_11 : decode cX11_alike 11 = .ok (.invokevirtual 110, 3) := by decide +kernel
theorem dX11_alike_14 : decode cX11_alike 14 = .ok (.ireturn, 1) := by decide +kernel
theorem dX11_steps_0 : decode cX11_steps 0 = .ok (.aload_n 0, 1) := by decide +kernel
theorem dX11_steps_1 : decode cX11_steps 1 = .ok (.getfield 12, 3) := by decide +kernel
theorem dX11_steps_4 : decode cX11_steps 4 = .ok (.iload_n 1, 1) := by decide +kernel
theorem dX11_steps_5 : decode cX11_steps 5 = .ok (.aload_n 0, 1) := by decide +kernel
theorem dX11_steps_6 : decode cX11_steps 6 = .ok (.getfield 62, 3) := by decide +kernel
theorem dX11_steps_9 : decode cX11_steps 9 = .ok (.invokevirtual 169, 3) := by decide +kernel
theorem dX11_steps_12 : decode cX11_steps 12 = .ok (.ifCond .ne 9, 3) := by decide +kernel
theorem dX11_steps_15 : decode cX11_steps 15 = .ok (.aload_n 0, 1) := by decide +kernel
theorem dX11_steps_16 : decode cX11_steps 16 = .ok (.iconst 2, 1) := by decide +kernel
theorem dX11_steps_17 : decode cX11_steps 17 = .ok (.invokevirtual 110, 3) := by decide +kernel
theorem dX11_steps_20 : decode cX11_steps 20 = .ok (.ireturn, 1) := by decide +kernel
theorem dX11_length_0 : decode cX11_length 0 = .ok (.aload_n 0, 1) := by decide +kernel
theorem dX11_length_1 : decode cX11_length 1 = .ok (.iload_n 1, 1) := by decide +kernel
theorem dX11_length_2 : decode cX11_length 2 = .ok (.invokevirtual 273, 3) := by decide +kernel
theorem dX11_length_5 : decode cX11_length 5 = .ok (.istore_n 2, 1) := by decide +kernel
theorem dX11_length_6 : decode cX11_length 6 = .ok (.iload_n 2, 1) := by decide +kernel
theorem dX11_length_7 : decode cX11_length 7 = .ok (.ifCond .eq 11, 3) := by decide +kernel
theorem dX11_length_10 : decode cX11_length 10 = .ok (.aload_n 0, 1) := by decide +kernel
theorem dX11_length_11 : decode cX11_length 11 = .ok (.iload_n 2, 1) := by decide +kernel
theorem dX11_length_12 : decode cX11_length 12 = .ok (.invokevirtual 110, 3) := by decide +kernel
theorem dX11_length_15 : decode cX11_length 15 = .ok (.goto 14, 3) := by decide +kernel
theorem dX11_length_29 : decode cX11_length 29 = .ok (.ireturn, 1) := by decide +kernel
theorem dX11_orderOf_0 : decode cX11_orderOf 0 = .ok (.aload_n 0, 1) := by decide +kernel
theorem dX11_orderOf_1 : decode cX11_orderOf 1 = .ok (.iload_n 1, 1) := by decide +kernel
theorem dX11_orderOf_2 : decode cX11_orderOf 2 = .ok (.invokevirtual 273, 3) := by decide +kernel
theorem dX11_orderOf_5 : decode cX11_orderOf 5 = .ok (.istore_n 2, 1) := by decide +kernel
theorem dX11_orderOf_6 : decode cX11_orderOf 6 = .ok (.iload_n 2, 1) := by decide +kernel
theorem dX11_orderOf_7 : decode cX11_orderOf 7 = .ok (.ifCond .eq 9, 3) := by decide +kernel
theorem dX11_orderOf_10 : decode cX11_orderOf 10 = .ok (.aload_n 0, 1) := by decide +kernel
theorem dX11_orderOf_11 : decode cX11_orderOf 11 = .ok (.iload_n 2, 1) := by decide +kernel
theorem dX11_orderOf_12 : decode cX11_orderOf 12 = .ok (.invokevirtual 110, 3) := by decide +kernel
theorem dX11_orderOf_15 : decode cX11_orderOf 15 = .ok (.ireturn, 1) := by decide +kernel
theorem dX11_kin_0 : decode cX11_kin 0 = .ok (.aload_n 0, 1) := by decide +kernel
theorem dX11_kin_1 : decode cX11_kin 1 = .ok (.iload_n 1, 1) := by decide +kernel
theorem dX11_kin_2 : decode cX11_kin 2 = .ok (.iload_n 2, 1) := by decide +kernel
theorem dX11_kin_3 : decode cX11_kin 3 = .ok (.invokevirtual 279, 3) := by decide +kernel
theorem dX11_kin_6 : decode cX11_kin 6 = .ok (.istore_n 3, 1) := by decide +kernel
theorem dX11_kin_7 : decode cX11_kin 7 = .ok (.iload_n 3, 1) := by decide +kernel
theorem dX11_kin_8 : decode cX11_kin 8 = .ok (.ifCond .eq 9, 3) := by decide +kernel
theorem dX11_kin_11 : decode cX11_kin 11 = .ok (.aload_n 0, 1) := by decide +kernel
theorem dX11_kin_12 : decode cX11_kin 12 = .ok (.iload_n 3, 1) := by decide +kernel
theorem dX11_kin_13 : decode cX11_kin 13 = .ok (.invokevirtual 110, 3) := by decide +kernel
theorem dX11_kin_16 : decode cX11_kin 16 = .ok (.ireturn, 1) := by decide +kernel
theorem dX11_kinBy_0 : decode cX11_kinBy 0 = .ok (.iload_n 3, 1) := by decide +kernel
theorem dX11_kinBy_1 : decode cX11_kinBy 1 = .ok (.ifCond .lt 8, 3) := by decide +kernel
theorem dX11_kinBy_4 : decode cX11_kinBy 4 = .ok (.iload_n 3, 1) := by decide +kernel
theorem dX11_kinBy_5 : decode cX11_kinBy 5 = .ok (.iconst 1, 1) := by decide +kernel
theorem dX11_kinBy_6 : decode cX11_kinBy 6 = .ok (.if_icmp .le 9, 3) := by decide +kernel
theorem dX11_kinBy_9 : decode cX11_kinBy 9 = .ok (.aload_n 0, 1) := by decide +kernel
theorem dX11_kinBy_10 : decode cX11_kinBy 10 = .ok (.iconst 1, 1) := by decide +kernel
theorem dX11_kinBy_11 : decode cX11_kinBy 11 = .ok (.invokevirtual 110, 3) := by decide +kernel
theorem dX11_kinBy_14 : decode cX11_kinBy 14 = .ok (.ireturn, 1) := by decide +kernel
theorem dX11_kinBy_15 : decode cX11_kinBy 15 = .ok (.aload_n 0, 1) := by decide +kernel
theorem dX11_kinBy_16 : decode cX11_kinBy 16 = .ok (.iload_n 1, 1) := by decide +kernel
theorem dX11_kinBy_17 : decode cX11_kinBy 17 = .ok (.iload_n 2, 1) := by decide +kernel
theorem dX11_kinBy_18 : decode cX11_kinBy 18 = .ok (.invokevirtual 279, 3) := by decide +kernel
theorem dX11_kinBy_21 : decode cX11_kinBy 21 = .ok (.istore 4, 2) := by decide +kernel
theorem dX11_kinBy_23 : decode cX11_kinBy 23 = .ok (.iload 4, 2) := by decide +kernel
theorem dX11_kinBy_25 : decode cX11_kinBy 25 = .ok (.ifCond .eq 10, 3) := by decide +kernel
theorem dX11_kinBy_28 : decode cX11_kinBy 28 = .ok (.aload_n 0, 1) := by decide +kernel
theorem dX11_kinBy_29 : decode cX11_kinBy 29 = .ok (.iload 4, 2) := by decide +kernel
theorem dX11_kinBy_31 : decode cX11_kinBy 31 = .ok (.invokevirtual 110, 3) := by decide +kernel
theorem dX11_kinBy_34 : decode cX11_kinBy 34 = .ok (.ireturn, 1) := by decide +kernel
theorem dX11_kins_0 : decode cX11_kins 0 = .ok (.aload_n 0, 1) := by decide +kernel
theorem dX11_kins_1 : decode cX11_kins 1 = .ok (.iload_n 1, 1) := by decide +kernel
theorem dX11_kins_2 : decode cX11_kins 2 = .ok (.invokevirtual 295, 3) := by decide +kernel
theorem dX11_kins_5 : decode cX11_kins 5 = .ok (.istore_n 2, 1) := by decide +kernel
theorem dX11_kins_6 : decode cX11_kins 6 = .ok (.iload_n 2, 1) := by decide +kernel
theorem dX11_kins_7 : decode cX11_kins 7 = .ok (.ifCond .eq 9, 3) := by decide +kernel
theorem dX11_kins_10 : decode cX11_kins 10 = .ok (.aload_n 0, 1) := by decide +kernel
theorem dX11_kins_11 : decode cX11_kins 11 = .ok (.iload_n 2, 1) := by decide +kernel
theorem dX11_kins_12 : decode cX11_kins 12 = .ok (.invokevirtual 110, 3) := by decide +kernel
theorem dX11_kins_15 : decode cX11_kins 15 = .ok (.ireturn, 1) := by decide +kernel
theorem dX11_net_0 : decode cX11_net 0 = .ok (.aload_n 0, 1) := by decide +kernel
theorem dX11_net_1 : decode cX11_net 1 = .ok (.getfield 12, 3) := by decide +kernel
theorem dX11_net_4 : decode cX11_net 4 = .ok (.iload_n 2, 1) := by decide +kernel
theorem dX11_net_5 : decode cX11_net 5 = .ok (.invokevirtual 159, 3) := by decide +kernel
theorem dX11_net_8 : decode cX11_net 8 = .ok (.ifCond .eq 18, 3) := by decide +kernel
theorem dX11_net_26 : decode cX11_net 26 = .ok (.aload_n 0, 1) := by decide +kernel
theorem dX11_net_27 : decode cX11_net 27 = .ok (.iconst 2, 1) := by decide +kernel
theorem dX11_net_28 : decode cX11_net 28 = .ok (.invokevirtual 110, 3) := by decide +kernel
theorem dX11_net_31 : decode cX11_net 31 = .ok (.ireturn, 1) := by decide +kernel
theorem dX11_central_0 : decode cX11_central 0 = .ok (.aload_n 0, 1) := by decide +kernel
theorem dX11_central_1 : decode cX11_central 1 = .ok (.getfield 12, 3) := by decide +kernel
theorem dX11_central_4 : decode cX11_central 4 = .ok (.iload_n 1, 1) := by decide +kernel
theorem dX11_central_5 : decode cX11_central 5 = .ok (.invokevirtual 152, 3) := by decide +kernel
theorem dX11_central_8 : decode cX11_central 8 = .ok (.istore_n 3, 1) := by decide +kernel
theorem dX11_central_9 : decode cX11_central 9 = .ok (.iload_n 2, 1) := by decide +kernel
theorem dX11_central_10 : decode cX11_central 10 = .ok (.ifCond .lt 19, 3) := by decide +kernel
theorem dX11_central_13 : decode cX11_central 13 = .ok (.iload_n 3, 1) := by decide +kernel
theorem dX11_central_14 : decode cX11_central 14 = .ok (.ifCond .eq 21, 3) := by decide +kernel
theorem dX11_central_29 : decode cX11_central 29 = .ok (.aload_n 0, 1) := by decide +kernel
theorem dX11_central_30 : decode cX11_central 30 = .ok (.iconst 1, 1) := by decide +kernel
theorem dX11_central_31 : decode cX11_central 31 = .ok (.invokevirtual 110, 3) := by decide +kernel
theorem dX11_central_34 : decode cX11_central 34 = .ok (.ireturn, 1) := by decide +kernel
theorem dX11_central_35 : decode cX11_central 35 = .ok (.iload_n 3, 1) := by decide +kernel
theorem dX11_central_36 : decode cX11_central 36 = .ok (.ifCond .ne 9, 3) := by decide +kernel
theorem dX11_central_39 : decode cX11_central 39 = .ok (.aload_n 0, 1) := by decide +kernel
theorem dX11_central_40 : decode cX11_central 40 = .ok (.iconst 2, 1) := by decide +kernel
theorem dX11_central_41 : decode cX11_central 41 = .ok (.invokevirtual 110, 3) := by decide +kernel
theorem dX11_central_44 : decode cX11_central 44 = .ok (.ireturn, 1) := by decide +kernel
theorem dX11_centre_0 : decode cX11_centre 0 = .ok (.aload_n 0, 1) := by decide +kernel
theorem dX11_centre_1 : decode cX11_centre 1 = .ok (.getfield 12, 3) := by decide +kernel
theorem dX11_centre_4 : decode cX11_centre 4 = .ok (.iload_n 1, 1) := by decide +kernel
theorem dX11_centre_5 : decode cX11_centre 5 = .ok (.invokevirtual 152, 3) := by decide +kernel
theorem dX11_centre_8 : decode cX11_centre 8 = .ok (.ifCond .ne 9, 3) := by decide +kernel
theorem dX11_centre_11 : decode cX11_centre 11 = .ok (.aload_n 0, 1) := by decide +kernel
theorem dX11_centre_12 : decode cX11_centre 12 = .ok (.iconst 2, 1) := by decide +kernel
theorem dX11_centre_13 : decode cX11_centre 13 = .ok (.invokevirtual 110, 3) := by decide +kernel
theorem dX11_centre_16 : decode cX11_centre 16 = .ok (.ireturn, 1) := by decide +kernel
theorem dX11_having_0 : decode cX11_having 0 = .ok (.iload_n 2, 1) := by decide +kernel
theorem dX11_having_1 : decode cX11_having 1 = .ok (.iconst 1, 1) := by decide +kernel
theorem dX11_having_2 : decode cX11_having 2 = .ok (.if_icmp .ge 9, 3) := by decide +kernel
theorem dX11_having_5 : decode cX11_having 5 = .ok (.aload_n 0, 1) := by decide +kernel
theorem dX11_having_6 : decode cX11_having 6 = .ok (.iconst 1, 1) := by decide +kernel
theorem dX11_having_7 : decode cX11_having 7 = .ok (.invokevirtual 110, 3) := by decide +kernel
theorem dX11_having_10 : decode cX11_having 10 = .ok (.ireturn, 1) := by decide +kernel
theorem dX11_having_11 : decode cX11_having 11 = .ok (.aload_n 0, 1) := by decide +kernel
theorem dX11_having_12 : decode cX11_having 12 = .ok (.getfield 12, 3) := by decide +kernel
theorem dX11_having_15 : decode cX11_having 15 = .ok (.iload_n 1, 1) := by decide +kernel
theorem dX11_having_16 : decode cX11_having 16 = .ok (.invokevirtual 152, 3) := by decide +kernel
theorem dX11_having_19 : decode cX11_having 19 = .ok (.ifCond .ne 9, 3) := by decide +kernel
theorem dX11_having_22 : decode cX11_having 22 = .ok (.aload_n 0, 1) := by decide +kernel
theorem dX11_having_23 : decode cX11_having 23 = .ok (.iconst 2, 1) := by decide +kernel
theorem dX11_having_24 : decode cX11_having 24 = .ok (.invokevirtual 110, 3) := by decide +kernel
theorem dX11_having_27 : decode cX11_having 27 = .ok (.ireturn, 1) := by decide +kernel
theorem dX11_root_0 : decode cX11_root 0 = .ok (.aload_n 0, 1) := by decide +kernel
theorem dX11_root_1 : decode cX11_root 1 = .ok (.iload_n 1, 1) := by decide +kernel
theorem dX11_root_2 : decode cX11_root 2 = .ok (.invokevirtual 273, 3) := by decide +kernel
theorem dX11_root_5 : decode cX11_root 5 = .ok (.istore_n 2, 1) := by decide +kernel
theorem dX11_root_6 : decode cX11_root 6 = .ok (.iload_n 2, 1) := by decide +kernel
theorem dX11_root_7 : decode cX11_root 7 = .ok (.ifCond .eq 9, 3) := by decide +kernel
theorem dX11_root_10 : decode cX11_root 10 = .ok (.aload_n 0, 1) := by decide +kernel
theorem dX11_root_11 : decode cX11_root 11 = .ok (.iload_n 2, 1) := by decide +kernel
theorem dX11_root_12 : decode cX11_root 12 = .ok (.invokevirtual 110, 3) := by decide +kernel
theorem dX11_root_15 : decode cX11_root 15 = .ok (.ireturn, 1) := by decide +kernel
theorem dX11_swaps_0 : decode cX11_swaps 0 = .ok (.aload_n 0, 1) := by decide +kernel
theorem dX11_swaps_1 : decode cX11_swaps 1 = .ok (.iload_n 1, 1) := by decide +kernel
theorem dX11_swaps_2 : decode cX11_swaps 2 = .ok (.iload_n 2, 1) := by decide +kernel
theorem dX11_swaps_3 : decode cX11_swaps 3 = .ok (.invokevirtual 279, 3) := by decide +kernel
theorem dX11_swaps_6 : decode cX11_swaps 6 = .ok (.istore_n 3, 1) := by decide +kernel
theorem dX11_swaps_7 : decode cX11_swaps 7 = .ok (.iload_n 3, 1) := by decide +kernel
theorem dX11_swaps_8 : decode cX11_swaps 8 = .ok (.ifCond .eq 9, 3) := by decide +kernel
theorem dX11_swaps_11 : decode cX11_swaps 11 = .ok (.aload_n 0, 1) := by decide +kernel
theorem dX11_swaps_12 : decode cX11_swaps 12 = .ok (.iload_n 3, 1) := by decide +kernel
theorem dX11_swaps_13 : decode cX11_swaps 13 = .ok (.invokevirtual 110, 3) := by decide +kernel
theorem dX11_swaps_16 : decode cX11_swaps 16 = .ok (.ireturn, 1) := by decide +kernel
theorem dX11_alikes_0 : decode cX11_alikes 0 = .ok (.aload_n 0, 1) := by decide +kernel
theorem dX11_alikes_1 : decode cX11_alikes 1 = .ok (.getfield 12, 3) := by decide +kernel
theorem dX11_alikes_4 : decode cX11_alikes 4 = .ok (.iload_n 1, 1) := by decide +kernel
theorem dX11_alikes_5 : decode cX11_alikes 5 = .ok (.aload_n 0, 1) := by decide +kernel
theorem dX11_alikes_6 : decode cX11_alikes 6 = .ok (.getfield 62, 3) := by decide +kernel
theorem dX11_alikes_9 : decode cX11_alikes 9 = .ok (.invokevirtual 169, 3) := by decide +kernel
theorem dX11_alikes_12 : decode cX11_alikes 12 = .ok (.ifCond .ne 9, 3) := by decide +kernel
theorem dX11_alikes_15 : decode cX11_alikes 15 = .ok (.aload_n 0, 1) := by decide +kernel
theorem dX11_alikes_16 : decode cX11_alikes 16 = .ok (.iconst 2, 1) := by decide +kernel
theorem dX11_alikes_17 : decode cX11_alikes 17 = .ok (.invokevirtual 110, 3) := by decide +kernel
theorem dX11_alikes_20 : decode cX11_alikes 20 = .ok (.ireturn, 1) := by decide +kernel
theorem dX11_twin_0 : decode cX11_twin 0 = .ok (.aload_n 0, 1) := by decide +kernel
theorem dX11_twin_1 : decode cX11_twin 1 = .ok (.getfield 12, 3) := by decide +kernel
theorem dX11_twin_4 : decode cX11_twin 4 = .ok (.iload_n 1, 1) := by decide +kernel
theorem dX11_twin_5 : decode cX11_twin 5 = .ok (.aload_n 0, 1) := by decide +kernel
theorem dX11_twin_6 : decode cX11_twin 6 = .ok (.getfield 62, 3) := by decide +kernel
theorem dX11_twin_9 : decode cX11_twin 9 = .ok (.invokevirtual 169, 3) := by decide +kernel
theorem dX11_twin_12 : decode cX11_twin 12 = .ok (.ifCond .ne 9, 3) := by decide +kernel
theorem dX11_twin_15 : decode cX11_twin 15 = .ok (.aload_n 0, 1) := by decide +kernel
theorem dX11_twin_16 : decode cX11_twin 16 = .ok (.iconst 2, 1) := by decide +kernel
theorem dX11_twin_17 : decode cX11_twin 17 = .ok (.invokevirtual 110, 3) := by decide +kernel
theorem dX11_twin_20 : decode cX11_twin 20 = .ok (.ireturn, 1) := by decide +kernel
theorem dX11_apart_0 : decode cX11_apart 0 = .ok (.aload_n 0, 1) := by decide +kernel
theorem dX11_apart_1 : decode cX11_apart 1 = .ok (.iload_n 1, 1) := by decide +kernel
theorem dX11_apart_2 : decode cX11_apart 2 = .ok (.iload_n 2, 1) := by decide +kernel
theorem dX11_apart_3 : decode cX11_apart 3 = .ok (.invokevirtual 312, 3) := by decide +kernel
theorem dX11_apart_6 : decode cX11_apart 6 = .ok (.istore_n 3, 1) := by decide +kernel
theorem dX11_apart_7 : decode cX11_apart 7 = .ok (.iload_n 3, 1) := by decide +kernel
theorem dX11_apart_8 : decode cX11_apart 8 = .ok (.ifCond .eq 11, 3) := by decide +kernel
theorem dX11_apart_11 : decode cX11_apart 11 = .ok (.aload_n 0, 1) := by decide +kernel
theorem dX11_apart_12 : decode cX11_apart 12 = .ok (.iload_n 3, 1) := by decide +kernel
theorem dX11_apart_13 : decode cX11_apart 13 = .ok (.invokevirtual 110, 3) := by decide +kernel
theorem dX11_apart_16 : decode cX11_apart 16 = .ok (.goto 14, 3) := by decide +kernel
theorem dX11_apart_30 : decode cX11_apart 30 = .ok (.ireturn, 1) := by decide +kernel
theorem dX11_moves_0 : decode cX11_moves 0 = .ok (.aload_n 0, 1) := by decide +kernel
theorem dX11_moves_1 : decode cX11_moves 1 = .ok (.iload_n 1, 1) := by decide +kernel
theorem dX11_moves_2 : decode cX11_moves 2 = .ok (.iload_n 2, 1) := by decide +kernel
theorem dX11_moves_3 : decode cX11_moves 3 = .ok (.invokevirtual 219, 3) := by decide +kernel
theorem dX11_moves_6 : decode cX11_moves 6 = .ok (.ifCond .ne 9, 3) := by decide +kernel
theorem dX11_moves_9 : decode cX11_moves 9 = .ok (.aload_n 0, 1) := by decide +kernel
theorem dX11_moves_10 : decode cX11_moves 10 = .ok (.iconst 2, 1) := by decide +kernel
theorem dX11_moves_11 : decode cX11_moves 11 = .ok (.invokevirtual 110, 3) := by decide +kernel
theorem dX11_moves_14 : decode cX11_moves 14 = .ok (.ireturn, 1) := by decide +kernel
theorem dX11_way_0 : decode cX11_way 0 = .ok (.iload_n 3, 1) := by decide +kernel
theorem dX11_way_1 : decode cX11_way 1 = .ok (.ifCond .ge 9, 3) := by decide +kernel
theorem dX11_way_4 : decode cX11_way 4 = .ok (.aload_n 0, 1) := by decide +kernel
theorem dX11_way_5 : decode cX11_way 5 = .ok (.iconst 1, 1) := by decide +kernel
theorem dX11_way_6 : decode cX11_way 6 = .ok (.invokevirtual 110, 3) := by decide +kernel
theorem dX11_way_9 : decode cX11_way 9 = .ok (.ireturn, 1) := by decide +kernel
theorem dX11_way_10 : decode cX11_way 10 = .ok (.aload_n 0, 1) := by decide +kernel
theorem dX11_way_11 : decode cX11_way 11 = .ok (.iload_n 1, 1) := by decide +kernel
theorem dX11_way_12 : decode cX11_way 12 = .ok (.iload_n 2, 1) := by decide +kernel
theorem dX11_way_13 : decode cX11_way 13 = .ok (.invokevirtual 312, 3) := by decide +kernel
theorem dX11_way_16 : decode cX11_way 16 = .ok (.istore 4, 2) := by decide +kernel
theorem dX11_way_18 : decode cX11_way 18 = .ok (.iload 4, 2) := by decide +kernel
theorem dX11_way_20 : decode cX11_way 20 = .ok (.ifCond .eq 10, 3) := by decide +kernel
theorem dX11_way_23 : decode cX11_way 23 = .ok (.aload_n 0, 1) := by decide +kernel
theorem dX11_way_24 : decode cX11_way 24 = .ok (.iload 4, 2) := by decide +kernel
theorem dX11_way_26 : decode cX11_way 26 = .ok (.invokevirtual 110, 3) := by decide +kernel
theorem dX11_way_29 : decode cX11_way 29 = .ok (.ireturn, 1) := by decide +kernel
theorem dX11_holds_0 : decode cX11_holds 0 = .ok (.iload_n 2, 1) := by decide +kernel
theorem dX11_holds_1 : decode cX11_holds 1 = .ok (.ifCond .lt 9, 3) := by decide +kernel
theorem dX11_holds_4 : decode cX11_holds 4 = .ok (.iload_n 2, 1) := by decide +kernel
theorem dX11_holds_5 : decode cX11_holds 5 = .ok (.bipush 12, 2) := by decide +kernel
theorem dX11_holds_7 : decode cX11_holds 7 = .ok (.if_icmp .le 10, 3) := by decide +kernel
theorem dX11_holds_10 : decode cX11_holds 10 = .ok (.aload_n 0, 1) := by decide +kernel
theorem dX11_holds_11 : decode cX11_holds 11 = .ok (.iconst 1, 1) := by decide +kernel
theorem dX11_holds_12 : decode cX11_holds 12 = .ok (.invokevirtual 110, 3) := by decide +kernel
theorem dX11_holds_15 : decode cX11_holds 15 = .ok (.i2l, 1) := by decide +kernel
theorem dX11_holds_16 : decode cX11_holds 16 = .ok (.lreturn, 1) := by decide +kernel
theorem dX11_holds_17 : decode cX11_holds 17 = .ok (.aload_n 0, 1) := by decide +kernel
theorem dX11_holds_18 : decode cX11_holds 18 = .ok (.iload_n 1, 1) := by decide +kernel
theorem dX11_holds_19 : decode cX11_holds 19 = .ok (.invokevirtual 273, 3) := by decide +kernel
theorem dX11_holds_22 : decode cX11_holds 22 = .ok (.istore_n 3, 1) := by decide +kernel
theorem dX11_holds_23 : decode cX11_holds 23 = .ok (.iload_n 3, 1) := by decide +kernel
theorem dX11_holds_24 : decode cX11_holds 24 = .ok (.ifCond .eq 10, 3) := by decide +kernel
theorem dX11_holds_27 : decode cX11_holds 27 = .ok (.aload_n 0, 1) := by decide +kernel
theorem dX11_holds_28 : decode cX11_holds 28 = .ok (.iload_n 3, 1) := by decide +kernel
theorem dX11_holds_29 : decode cX11_holds 29 = .ok (.invokevirtual 110, 3) := by decide +kernel
theorem dX11_holds_32 : decode cX11_holds 32 = .ok (.i2l, 1) := by decide +kernel
theorem dX11_holds_33 : decode cX11_holds 33 = .ok (.lreturn, 1) := by decide +kernel
theorem dX11_axis_0 : decode cX11_axis 0 = .ok (.iload_n 2, 1) := by decide +kernel
theorem dX11_axis_1 : decode cX11_axis 1 = .ok (.ifCond .ge 9, 3) := by decide +kernel
theorem dX11_axis_4 : decode cX11_axis 4 = .ok (.aload_n 0, 1) := by decide +kernel
theorem dX11_axis_5 : decode cX11_axis 5 = .ok (.iconst 1, 1) := by decide +kernel
theorem dX11_axis_6 : decode cX11_axis 6 = .ok (.invokevirtual 110, 3) := by decide +kernel
theorem dX11_axis_9 : decode cX11_axis 9 = .ok (.ireturn, 1) := by decide +kernel
theorem dX11_axis_10 : decode cX11_axis 10 = .ok (.aload_n 0, 1) := by decide +kernel
theorem dX11_axis_11 : decode cX11_axis 11 = .ok (.iload_n 1, 1) := by decide +kernel
theorem dX11_axis_12 : decode cX11_axis 12 = .ok (.invokevirtual 273, 3) := by decide +kernel
theorem dX11_axis_15 : decode cX11_axis 15 = .ok (.istore_n 3, 1) := by decide +kernel
theorem dX11_axis_16 : decode cX11_axis 16 = .ok (.iload_n 3, 1) := by decide +kernel
theorem dX11_axis_17 : decode cX11_axis 17 = .ok (.ifCond .eq 9, 3) := by decide +kernel
theorem dX11_axis_20 : decode cX11_axis 20 = .ok (.aload_n 0, 1) := by decide +kernel
theorem dX11_axis_21 : decode cX11_axis 21 = .ok (.iload_n 3, 1) := by decide +kernel
theorem dX11_axis_22 : decode cX11_axis 22 = .ok (.invokevirtual 110, 3) := by decide +kernel
theorem dX11_axis_25 : decode cX11_axis 25 = .ok (.ireturn, 1) := by decide +kernel
theorem dX11_ball_0 : decode cX11_ball 0 = .ok (.iload_n 2, 1) := by decide +kernel
theorem dX11_ball_1 : decode cX11_ball 1 = .ok (.ifCond .lt 9, 3) := by decide +kernel
theorem dX11_ball_4 : decode cX11_ball 4 = .ok (.iload_n 2, 1) := by decide +kernel
theorem dX11_ball_5 : decode cX11_ball 5 = .ok (.bipush 12, 2) := by decide +kernel
theorem dX11_ball_7 : decode cX11_ball 7 = .ok (.if_icmp .le 10, 3) := by decide +kernel
theorem dX11_ball_10 : decode cX11_ball 10 = .ok (.aload_n 0, 1) := by decide +kernel
theorem dX11_ball_11 : decode cX11_ball 11 = .ok (.iconst 1, 1) := by decide +kernel
theorem dX11_ball_12 : decode cX11_ball 12 = .ok (.invokevirtual 110, 3) := by decide +kernel
theorem dX11_ball_15 : decode cX11_ball 15 = .ok (.i2l, 1) := by decide +kernel
theorem dX11_ball_16 : decode cX11_ball 16 = .ok (.lreturn, 1) := by decide +kernel
theorem dX11_ball_17 : decode cX11_ball 17 = .ok (.aload_n 0, 1) := by decide +kernel
theorem dX11_ball_18 : decode cX11_ball 18 = .ok (.getfield 12, 3) := by decide +kernel
theorem dX11_ball_21 : decode cX11_ball 21 = .ok (.iload_n 1, 1) := by decide +kernel
theorem dX11_ball_22 : decode cX11_ball 22 = .ok (.invokevirtual 152, 3) := by decide +kernel
theorem dX11_ball_25 : decode cX11_ball 25 = .ok (.ifCond .eq 24, 3) := by decide +kernel
theorem dX11_ball_49 : decode cX11_ball 49 = .ok (.aload_n 0, 1) := by decide +kernel
theorem dX11_ball_50 : decode cX11_ball 50 = .ok (.iconst 2, 1) := by decide +kernel
theorem dX11_ball_51 : decode cX11_ball 51 = .ok (.invokevirtual 110, 3) := by decide +kernel
theorem dX11_ball_54 : decode cX11_ball 54 = .ok (.i2l, 1) := by decide +kernel
theorem dX11_ball_55 : decode cX11_ball 55 = .ok (.lreturn, 1) := by decide +kernel
theorem dX11_sphere_0 : decode cX11_sphere 0 = .ok (.iload_n 2, 1) := by decide +kernel
theorem dX11_sphere_1 : decode cX11_sphere 1 = .ok (.ifCond .lt 9, 3) := by decide +kernel
theorem dX11_sphere_4 : decode cX11_sphere 4 = .ok (.iload_n 2, 1) := by decide +kernel
theorem dX11_sphere_5 : decode cX11_sphere 5 = .ok (.bipush 12, 2) := by decide +kernel
theorem dX11_sphere_7 : decode cX11_sphere 7 = .ok (.if_icmp .le 10, 3) := by decide +kernel
theorem dX11_sphere_10 : decode cX11_sphere 10 = .ok (.aload_n 0, 1) := by decide +kernel
theorem dX11_sphere_11 : decode cX11_sphere 11 = .ok (.iconst 1, 1) := by decide +kernel
theorem dX11_sphere_12 : decode cX11_sphere 12 = .ok (.invokevirtual 110, 3) := by decide +kernel
theorem dX11_sphere_15 : decode cX11_sphere 15 = .ok (.i2l, 1) := by decide +kernel
theorem dX11_sphere_16 : decode cX11_sphere 16 = .ok (.lreturn, 1) := by decide +kernel
theorem dX11_sphere_17 : decode cX11_sphere 17 = .ok (.aload_n 0, 1) := by decide +kernel
theorem dX11_sphere_18 : decode cX11_sphere 18 = .ok (.getfield 12, 3) := by decide +kernel
theorem dX11_sphere_21 : decode cX11_sphere 21 = .ok (.iload_n 1, 1) := by decide +kernel
theorem dX11_sphere_22 : decode cX11_sphere 22 = .ok (.invokevirtual 152, 3) := by decide +kernel
theorem dX11_sphere_25 : decode cX11_sphere 25 = .ok (.ifCond .eq 23, 3) := by decide +kernel
theorem dX11_sphere_48 : decode cX11_sphere 48 = .ok (.aload_n 0, 1) := by decide +kernel
theorem dX11_sphere_49 : decode cX11_sphere 49 = .ok (.iconst 2, 1) := by decide +kernel
theorem dX11_sphere_50 : decode cX11_sphere 50 = .ok (.invokevirtual 110, 3) := by decide +kernel
theorem dX11_sphere_53 : decode cX11_sphere 53 = .ok (.i2l, 1) := by decide +kernel
theorem dX11_sphere_54 : decode cX11_sphere 54 = .ok (.lreturn, 1) := by decide +kernel
theorem dX11_listed_0 : decode cX11_listed 0 = .ok (.aload_n 0, 1) := by decide +kernel
theorem dX11_listed_1 : decode cX11_listed 1 = .ok (.iload_n 1, 1) := by decide +kernel
theorem dX11_listed_2 : decode cX11_listed 2 = .ok (.invokevirtual 295, 3) := by decide +kernel
theorem dX11_listed_5 : decode cX11_listed 5 = .ok (.istore_n 2, 1) := by decide +kernel
theorem dX11_listed_6 : decode cX11_listed 6 = .ok (.iload_n 2, 1) := by decide +kernel
theorem dX11_listed_7 : decode cX11_listed 7 = .ok (.ifCond .eq 10, 3) := by decide +kernel
theorem dX11_listed_10 : decode cX11_listed 10 = .ok (.aload_n 0, 1) := by decide +kernel
theorem dX11_listed_11 : decode cX11_listed 11 = .ok (.iload_n 2, 1) := by decide +kernel
theorem dX11_listed_12 : decode cX11_listed 12 = .ok (.invokevirtual 110, 3) := by decide +kernel
theorem dX11_listed_15 : decode cX11_listed 15 = .ok (.i2l, 1) := by decide +kernel
theorem dX11_listed_16 : decode cX11_listed 16 = .ok (.lreturn, 1) := by decide +kernel
theorem dX11_near_0 : decode cX11_near 0 = .ok (.iload_n 2, 1) := by decide +kernel
theorem dX11_near_1 : decode cX11_near 1 = .ok (.ifCond .lt 9, 3) := by decide +kernel
theorem dX11_near_4 : decode cX11_near 4 = .ok (.iload_n 2, 1) := by decide +kernel
theorem dX11_near_5 : decode cX11_near 5 = .ok (.bipush 99, 2) := by decide +kernel
theorem dX11_near_7 : decode cX11_near 7 = .ok (.if_icmp .le 9, 3) := by decide +kernel
theorem dX11_near_10 : decode cX11_near 10 = .ok (.aload_n 0, 1) := by decide +kernel
theorem dX11_near_11 : decode cX11_near 11 = .ok (.iconst 1, 1) := by decide +kernel
theorem dX11_near_12 : decode cX11_near 12 = .ok (.invokevirtual 110, 3) := by decide +kernel
theorem dX11_near_15 : decode cX11_near 15 = .ok (.ireturn, 1) := by decide +kernel
theorem dX11_near_16 : decode cX11_near 16 = .ok (.aload_n 0, 1) := by decide +kernel
theorem dX11_near_17 : decode cX11_near 17 = .ok (.getfield 12, 3) := by decide +kernel
theorem dX11_near_20 : decode cX11_near 20 = .ok (.iload_n 1, 1) := by decide +kernel
theorem dX11_near_21 : decode cX11_near 21 = .ok (.invokevirtual 256, 3) := by decide +kernel
theorem dX11_near_24 : decode cX11_near 24 = .ok (.ifCond .ne 9, 3) := by decide +kernel
theorem dX11_near_27 : decode cX11_near 27 = .ok (.aload_n 0, 1) := by decide +kernel
theorem dX11_near_28 : decode cX11_near 28 = .ok (.iconst 2, 1) := by decide +kernel
theorem dX11_near_29 : decode cX11_near 29 = .ok (.invokevirtual 110, 3) := by decide +kernel
theorem dX11_near_32 : decode cX11_near 32 = .ok (.ireturn, 1) := by decide +kernel
theorem dX11_meet_0 : decode cX11_meet 0 = .ok (.aload_n 0, 1) := by decide +kernel
theorem dX11_meet_1 : decode cX11_meet 1 = .ok (.getfield 12, 3) := by decide +kernel
theorem dX11_meet_4 : decode cX11_meet 4 = .ok (.iload_n 1, 1) := by decide +kernel
theorem dX11_meet_5 : decode cX11_meet 5 = .ok (.invokevirtual 152, 3) := by decide +kernel
theorem dX11_meet_8 : decode cX11_meet 8 = .ok (.ifCond .ne 9, 3) := by decide +kernel
theorem dX11_meet_11 : decode cX11_meet 11 = .ok (.aload_n 0, 1) := by decide +kernel
theorem dX11_meet_12 : decode cX11_meet 12 = .ok (.iconst 2, 1) := by decide +kernel
theorem dX11_meet_13 : decode cX11_meet 13 = .ok (.invokevirtual 110, 3) := by decide +kernel
theorem dX11_meet_16 : decode cX11_meet 16 = .ok (.ireturn, 1) := by decide +kernel
theorem dX11_tell_0 : decode cX11_tell 0 = .ok (.aload_n 0, 1) := by decide +kernel
theorem dX11_tell_1 : decode cX11_tell 1 = .ok (.getfield 12, 3) := by decide +kernel
theorem dX11_tell_4 : decode cX11_tell 4 = .ok (.iload_n 1, 1) := by decide +kernel
theorem dX11_tell_5 : decode cX11_tell 5 = .ok (.aload_n 0, 1) := by decide +kernel
theorem dX11_tell_6 : decode cX11_tell 6 = .ok (.getfield 62, 3) := by decide +kernel
theorem dX11_tell_9 : decode cX11_tell 9 = .ok (.invokevirtual 169, 3) := by decide +kernel
theorem dX11_tell_12 : decode cX11_tell 12 = .ok (.ifCond .ne 9, 3) := by decide +kernel
theorem dX11_tell_15 : decode cX11_tell 15 = .ok (.aload_n 0, 1) := by decide +kernel
theorem dX11_tell_16 : decode cX11_tell 16 = .ok (.iconst 2, 1) := by decide +kernel
theorem dX11_tell_17 : decode cX11_tell 17 = .ok (.invokevirtual 110, 3) := by decide +kernel
theorem dX11_tell_20 : decode cX11_tell 20 = .ok (.ireturn, 1) := by decide +kernel
theorem dX11_out_0 : decode cX11_out 0 = .ok (.iload_n 1, 1) := by decide +kernel
theorem dX11_out_1 : decode cX11_out 1 = .ok (.ifCond .ge 9, 3) := by decide +kernel
theorem dX11_out_4 : decode cX11_out 4 = .ok (.aload_n 0, 1) := by decide +kernel
theorem dX11_out_5 : decode cX11_out 5 = .ok (.iconst 1, 1) := by decide +kernel
theorem dX11_out_6 : decode cX11_out 6 = .ok (.invokevirtual 110, 3) := by decide +kernel
theorem dX11_out_9 : decode cX11_out 9 = .ok (.ireturn, 1) := by decide +kernel
theorem dX11_out_10 : decode cX11_out 10 = .ok (.iload_n 1, 1) := by decide +kernel
theorem dX11_out_11 : decode cX11_out 11 = .ok (.aload_n 0, 1) := by decide +kernel
theorem dX11_out_12 : decode cX11_out 12 = .ok (.getfield 55, 3) := by decide +kernel
theorem dX11_out_15 : decode cX11_out 15 = .ok (.invokevirtual 342, 3) := by decide +kernel
theorem dX11_out_18 : decode cX11_out 18 = .ok (.if_icmp .lt 11, 3) := by decide +kernel
theorem dX11_out_21 : decode cX11_out 21 = .ok (.aload_n 0, 1) := by decide +kernel
theorem dX11_out_22 : decode cX11_out 22 = .ok (.iconst 5, 1) := by decide +kernel
theorem dX11_out_23 : decode cX11_out 23 = .ok (.invokevirtual 110, 3) := by decide +kernel
theorem dX11_out_26 : decode cX11_out 26 = .ok (.goto 15, 3) := by decide +kernel
theorem dX11_out_41 : decode cX11_out 41 = .ok (.ireturn, 1) := by decide +kernel
theorem dX11_chi_0 : decode cX11_chi 0 = .ok (.iload_n 1, 1) := by decide +kernel
theorem dX11_chi_1 : decode cX11_chi 1 = .ok (.ifCond .lt 8, 3) := by decide +kernel
theorem dX11_chi_4 : decode cX11_chi 4 = .ok (.iload_n 1, 1) := by decide +kernel
theorem dX11_chi_5 : decode cX11_chi 5 = .ok (.iconst 1, 1) := by decide +kernel
theorem dX11_chi_6 : decode cX11_chi 6 = .ok (.if_icmp .le 9, 3) := by decide +kernel
theorem dX11_chi_9 : decode cX11_chi 9 = .ok (.aload_n 0, 1) := by decide +kernel
theorem dX11_chi_10 : decode cX11_chi 10 = .ok (.iconst 1, 1) := by decide +kernel
theorem dX11_chi_11 : decode cX11_chi 11 = .ok (.invokevirtual 110, 3) := by decide +kernel
theorem dX11_chi_14 : decode cX11_chi 14 = .ok (.ireturn, 1) := by decide +kernel
theorem dX11_chi_15 : decode cX11_chi 15 = .ok (.aload_n 0, 1) := by decide +kernel
theorem dX11_chi_16 : decode cX11_chi 16 = .ok (.getfield 95, 3) := by decide +kernel
theorem dX11_chi_19 : decode cX11_chi 19 = .ok (.aload_n 0, 1) := by decide +kernel
theorem dX11_chi_20 : decode cX11_chi 20 = .ok (.getfield 12, 3) := by decide +kernel
theorem dX11_chi_23 : decode cX11_chi 23 = .ok (.invokevirtual 346, 3) := by decide +kernel
theorem dX11_chi_26 : decode cX11_chi 26 = .ok (.aload_n 0, 1) := by decide +kernel
theorem dX11_chi_27 : decode cX11_chi 27 = .ok (.iload_n 1, 1) := by decide +kernel
theorem dX11_chi_28 : decode cX11_chi 28 = .ok (.ifCond .ne 13, 3) := by decide +kernel
theorem dX11_chi_31 : decode cX11_chi 31 = .ok (.aload_n 0, 1) := by decide +kernel
theorem dX11_chi_32 : decode cX11_chi 32 = .ok (.getfield 95, 3) := by decide +kernel
theorem dX11_chi_35 : decode cX11_chi 35 = .ok (.invokevirtual 349, 3) := by decide +kernel
theorem dX11_chi_38 : decode cX11_chi 38 = .ok (.goto 10, 3) := by decide +kernel
theorem dX11_chi_41 : decode cX11_chi 41 = .ok (.aload_n 0, 1) := by decide +kernel
theorem dX11_chi_42 : decode cX11_chi 42 = .ok (.getfield 95, 3) := by decide +kernel
theorem dX11_chi_45 : decode cX11_chi 45 = .ok (.invokevirtual 353, 3) := by decide +kernel
theorem dX11_chi_48 : decode cX11_chi 48 = .ok (.l2i, 1) := by decide +kernel
theorem dX11_chi_49 : decode cX11_chi 49 = .ok (.invokevirtual 133, 3) := by decide +kernel
theorem dX11_chi_52 : decode cX11_chi 52 = .ok (.ireturn, 1) := by decide +kernel
theorem dX11_fail_0 : decode cX11_fail 0 = .ok (.aload_n 0, 1) := by decide +kernel
theorem dX11_fail_1 : decode cX11_fail 1 = .ok (.iload_n 1, 1) := by decide +kernel
theorem dX11_fail_2 : decode cX11_fail 2 = .ok (.putfield 35, 3) := by decide +kernel
theorem dX11_fail_5 : decode cX11_fail 5 = .ok (.iconst (-1), 1) := by decide +kernel
theorem dX11_fail_6 : decode cX11_fail 6 = .ok (.ireturn, 1) := by decide +kernel
theorem dX11_answer_0 : decode cX11_answer 0 = .ok (.aload_n 0, 1) := by decide +kernel
theorem dX11_answer_1 : decode cX11_answer 1 = .ok (.iconst 0, 1) := by decide +kernel
theorem dX11_answer_2 : decode cX11_answer 2 = .ok (.putfield 35, 3) := by decide +kernel
theorem dX11_answer_5 : decode cX11_answer 5 = .ok (.iload_n 1, 1) := by decide +kernel
theorem dX11_answer_6 : decode cX11_answer 6 = .ok (.ireturn, 1) := by decide +kernel
theorem dX11_feedFour_0 : decode cX11_feedFour 0 = .ok (.bipush 24, 2) := by decide +kernel
theorem dX11_feedFour_2 : decode cX11_feedFour 2 = .ok (.istore_n 2, 1) := by decide +kernel
theorem dX11_feedFour_3 : decode cX11_feedFour 3 = .ok (.iload_n 2, 1) := by decide +kernel
theorem dX11_feedFour_4 : decode cX11_feedFour 4 = .ok (.ifCond .lt 51, 3) := by decide +kernel
theorem dX11_feedFour_7 : decode cX11_feedFour 7 = .ok (.aload_n 0, 1) := by decide +kernel
theorem dX11_feedFour_8 : decode cX11_feedFour 8 = .ok (.getfield 42, 3) := by decide +kernel
theorem dX11_feedFour_11 : decode cX11_feedFour 11 = .ok (.ifCond .lt 38, 3) := by decide +kernel
theorem dX11_feedFour_14 : decode cX11_feedFour 14 = .ok (.aload_n 0, 1) := by decide +kernel
theorem dX11_feedFour_15 : decode cX11_feedFour 15 = .ok (.getfield 42, 3) := by decide +kernel
theorem dX11_feedFour_18 : decode cX11_feedFour 18 = .ok (.aload_n 0, 1) := by decide +kernel
theorem dX11_feedFour_19 : decode cX11_feedFour 19 = .ok (.getfield 38, 3) := by decide +kernel
theorem dX11_feedFour_22 : decode cX11_feedFour 22 = .ok (.arraylength, 1) := by decide +kernel
theorem dX11_feedFour_23 : decode cX11_feedFour 23 = .ok (.if_icmp .ge 26, 3) := by decide +kernel
theorem dX11_feedFour_26 : decode cX11_feedFour 26 = .ok (.aload_n 0, 1) := by decide +kernel
theorem dX11_feedFour_27 : decode cX11_feedFour 27 = .ok (.getfield 38, 3) := by decide +kernel
theorem dX11_feedFour_30 : decode cX11_feedFour 30 = .ok (.aload_n 0, 1) := by decide +kernel
theorem dX11_feedFour_31 : decode cX11_feedFour 31 = .ok (.getfield 42, 3) := by decide +kernel
theorem dX11_feedFour_34 : decode cX11_feedFour 34 = .ok (.iload_n 1, 1) := by decide +kernel
theorem dX11_feedFour_35 : decode cX11_feedFour 35 = .ok (.iload_n 2, 1) := by decide +kernel
theorem dX11_feedFour_36 : decode cX11_feedFour 36 = .ok (.ishr, 1) := by decide +kernel
theorem dX11_feedFour_37 : decode cX11_feedFour 37 = .ok (.i2b, 1) := by decide +kernel
theorem dX11_feedFour_38 : decode cX11_feedFour 38 = .ok (.bastore, 1) := by decide +kernel
theorem dX11_feedFour_39 : decode cX11_feedFour 39 = .ok (.aload_n 0, 1) := by decide +kernel
theorem dX11_feedFour_40 : decode cX11_feedFour 40 = .ok (.dup, 1) := by decide +kernel
theorem dX11_feedFour_41 : decode cX11_feedFour 41 = .ok (.getfield 42, 3) := by decide +kernel
theorem dX11_feedFour_44 : decode cX11_feedFour 44 = .ok (.iconst 1, 1) := by decide +kernel
theorem dX11_feedFour_45 : decode cX11_feedFour 45 = .ok (.iadd, 1) := by decide +kernel
theorem dX11_feedFour_46 : decode cX11_feedFour 46 = .ok (.putfield 42, 3) := by decide +kernel
theorem dX11_feedFour_49 : decode cX11_feedFour 49 = .ok (.iinc 2 (-8), 3) := by decide +kernel
theorem dX11_feedFour_52 : decode cX11_feedFour 52 = .ok (.goto (-49), 3) := by decide +kernel
theorem dX11_feedFour_55 : decode cX11_feedFour 55 = .ok (.return_, 1) := by decide +kernel
theorem dX11_readTwo_0 : decode cX11_readTwo 0 = .ok (.aload_n 0, 1) := by decide +kernel
theorem dX11_readTwo_1 : decode cX11_readTwo 1 = .ok (.getfield 12, 3) := by decide +kernel
theorem dX11_readTwo_4 : decode cX11_readTwo 4 = .ok (.iload_n 1, 1) := by decide +kernel
theorem dX11_readTwo_5 : decode cX11_readTwo 5 = .ok (.aload_n 0, 1) := by decide +kernel
theorem dX11_readTwo_6 : decode cX11_readTwo 6 = .ok (.getfield 62, 3) := by decide +kernel
theorem dX11_readTwo_9 : decode cX11_readTwo 9 = .ok (.invokevirtual 169, 3) := by decide +kernel
theorem dX11_readTwo_12 : decode cX11_readTwo 12 = .ok (.ifCond .eq 22, 3) := by decide +kernel
theorem dX11_readTwo_34 : decode cX11_readTwo 34 = .ok (.iconst 0, 1) := by decide +kernel
theorem dX11_readTwo_35 : decode cX11_readTwo 35 = .ok (.ireturn, 1) := by decide +kernel
theorem dX11_readLoop_0 : decode cX11_readLoop 0 = .ok (.aload_n 0, 1) := by decide +kernel
theorem dX11_readLoop_1 : decode cX11_readLoop 1 = .ok (.getfield 12, 3) := by decide +kernel
theorem dX11_readLoop_4 : decode cX11_readLoop 4 = .ok (.iload_n 1, 1) := by decide +kernel
theorem dX11_readLoop_5 : decode cX11_readLoop 5 = .ok (.aload_n 0, 1) := by decide +kernel
theorem dX11_readLoop_6 : decode cX11_readLoop 6 = .ok (.getfield 62, 3) := by decide +kernel
theorem dX11_readLoop_9 : decode cX11_readLoop 9 = .ok (.invokevirtual 169, 3) := by decide +kernel
theorem dX11_readLoop_12 : decode cX11_readLoop 12 = .ok (.ifCond .ne 5, 3) := by decide +kernel
theorem dX11_readLoop_15 : decode cX11_readLoop 15 = .ok (.iconst 2, 1) := by decide +kernel
theorem dX11_readLoop_16 : decode cX11_readLoop 16 = .ok (.ireturn, 1) := by decide +kernel
theorem dX11_readTwoLoops_0 : decode cX11_readTwoLoops 0 = .ok (.aload_n 0, 1) := by decide +kernel
theorem dX11_readTwoLoops_1 : decode cX11_readTwoLoops 1 = .ok (.iload_n 1, 1) := by decide +kernel
theorem dX11_readTwoLoops_2 : decode cX11_readTwoLoops 2 = .ok (.iload_n 2, 1) := by decide +kernel
theorem dX11_readTwoLoops_3 : decode cX11_readTwoLoops 3 = .ok (.invokevirtual 219, 3) := by decide +kernel
theorem dX11_readTwoLoops_6 : decode cX11_readTwoLoops 6 = .ok (.ifCond .ne 5, 3) := by decide +kernel
theorem dX11_readTwoLoops_9 : decode cX11_readTwoLoops 9 = .ok (.iconst 2, 1) := by decide +kernel
theorem dX11_readTwoLoops_10 : decode cX11_readTwoLoops 10 = .ok (.ireturn, 1) := by decide +kernel
theorem dX11_cannotGrowFromLoop_0 : decode cX11_cannotGrowFromLoop 0 = .ok (.aload_n 0, 1) := by decide +kernel
theorem dX11_cannotGrowFromLoop_1 : decode cX11_cannotGrowFromLoop 1 = .ok (.iload_n 1, 1) := by decide +kernel
theorem dX11_cannotGrowFromLoop_2 : decode cX11_cannotGrowFromLoop 2 = .ok (.invokevirtual 295, 3) := by decide +kernel
theorem dX11_cannotGrowFromLoop_5 : decode cX11_cannotGrowFromLoop 5 = .ok (.istore_n 2, 1) := by decide +kernel
theorem dX11_cannotGrowFromLoop_6 : decode cX11_cannotGrowFromLoop 6 = .ok (.iload_n 2, 1) := by decide +kernel
theorem dX11_cannotGrowFromLoop_7 : decode cX11_cannotGrowFromLoop 7 = .ok (.iconst 2, 1) := by decide +kernel
theorem dX11_cannotGrowFromLoop_8 : decode cX11_cannotGrowFromLoop 8 = .ok (.if_icmp .eq 17, 3) := by decide +kernel
theorem dX11_cannotGrowFromLoop_25 : decode cX11_cannotGrowFromLoop 25 = .ok (.iload_n 2, 1) := by decide +kernel
theorem dX11_cannotGrowFromLoop_26 : decode cX11_cannotGrowFromLoop 26 = .ok (.ireturn, 1) := by decide +kernel
theorem dX11_readCore_0 : decode cX11_readCore 0 = .ok (.aload_n 0, 1) := by decide +kernel
theorem dX11_readCore_1 : decode cX11_readCore 1 = .ok (.iload_n 1, 1) := by decide +kernel
theorem dX11_readCore_2 : decode cX11_readCore 2 = .ok (.invokevirtual 295, 3) := by decide +kernel
theorem dX11_readCore_5 : decode cX11_readCore 5 = .ok (.istore_n 2, 1) := by decide +kernel
theorem dX11_readCore_6 : decode cX11_readCore 6 = .ok (.iload_n 2, 1) := by decide +kernel
theorem dX11_readCore_7 : decode cX11_readCore 7 = .ok (.ifCond .ne 22, 3) := by decide +kernel
theorem dX11_readCore_29 : decode cX11_readCore 29 = .ok (.iload_n 2, 1) := by decide +kernel
theorem dX11_readCore_30 : decode cX11_readCore 30 = .ok (.ireturn, 1) := by decide +kernel
theorem dX11_readWay_0 : decode cX11_readWay 0 = .ok (.aload_n 0, 1) := by decide +kernel
theorem dX11_readWay_1 : decode cX11_readWay 1 = .ok (.iload_n 1, 1) := by decide +kernel
theorem dX11_readWay_2 : decode cX11_readWay 2 = .ok (.iload_n 2, 1) := by decide +kernel
theorem dX11_readWay_3 : decode cX11_readWay 3 = .ok (.invokevirtual 219, 3) := by decide +kernel
theorem dX11_readWay_6 : decode cX11_readWay 6 = .ok (.ifCond .ne 5, 3) := by decide +kernel
theorem dX11_readWay_9 : decode cX11_readWay 9 = .ok (.iconst 2, 1) := by decide +kernel
theorem dX11_readWay_10 : decode cX11_readWay 10 = .ok (.ireturn, 1) := by decide +kernel
theorem dX11_rest_0 : decode cX11_rest 0 = .ok (.iload_n 1, 1) := by decide +kernel
theorem dX11_rest_1 : decode cX11_rest 1 = .ok (.iconst 1, 1) := by decide +kernel
theorem dX11_rest_2 : decode cX11_rest 2 = .ok (.if_icmp .ge 5, 3) := by decide +kernel
theorem dX11_rest_7 : decode cX11_rest 7 = .ok (.iload_n 0, 1) := by decide +kernel
theorem dX11_rest_8 : decode cX11_rest 8 = .ok (.iload_n 1, 1) := by decide +kernel
theorem dX11_rest_9 : decode cX11_rest 9 = .ok (.irem, 1) := by decide +kernel
theorem dX11_rest_10 : decode cX11_rest 10 = .ok (.istore_n 2, 1) := by decide +kernel
theorem dX11_rest_11 : decode cX11_rest 11 = .ok (.iload_n 2, 1) := by decide +kernel
theorem dX11_rest_12 : decode cX11_rest 12 = .ok (.ifCond .ge 9, 3) := by decide +kernel
theorem dX11_rest_15 : decode cX11_rest 15 = .ok (.iload_n 2, 1) := by decide +kernel
theorem dX11_rest_16 : decode cX11_rest 16 = .ok (.iload_n 1, 1) := by decide +kernel
theorem dX11_rest_17 : decode cX11_rest 17 = .ok (.iadd, 1) := by decide +kernel
theorem dX11_rest_18 : decode cX11_rest 18 = .ok (.goto 4, 3) := by decide +kernel
theorem dX11_rest_21 : decode cX11_rest 21 = .ok (.iload_n 2, 1) := by decide +kernel
theorem dX11_rest_22 : decode cX11_rest 22 = .ok (.ireturn, 1) := by decide +kernel
theorem dX12_init_0 : decode cX12_init 0 = .ok (.aload_n 0, 1) := by decide +kernel
theorem dX12_init_1 : decode cX12_init 1 = .ok (.invokespecial 1, 3) := by decide +kernel
theorem dX12_init_4 : decode cX12_init 4 = .ok (.aload_n 0, 1) := by decide +kernel
theorem dX12_init_5 : decode cX12_init 5 = .ok (.sipush 7202, 3) := by decide +kernel
theorem dX12_init_8 : decode cX12_init 8 = .ok (.newarray .int, 2) := by decide +kernel
theorem dX12_init_10 : decode cX12_init 10 = .ok (.putfield 7, 3) := by decide +kernel
theorem dX12_init_13 : decode cX12_init 13 = .ok (.aload_n 0, 1) := by decide +kernel
theorem dX12_init_14 : decode cX12_init 14 = .ok (.bipush 10, 2) := by decide +kernel
theorem dX12_init_16 : decode cX12_init 16 = .ok (.sipush 200, 3) := by decide +kernel
theorem dX12_init_19 : decode cX12_init 19 = .ok (.multianewarray 13 2, 4) := by decide +kernel
theorem dX12_init_23 : decode cX12_init 23 = .ok (.putfield 15, 3) := by decide +kernel
theorem dX12_init_26 : decode cX12_init 26 = .ok (.aload_n 0, 1) := by decide +kernel
theorem dX12_init_27 : decode cX12_init 27 = .ok (.sipush 200, 3) := by decide +kernel
theorem dX12_init_30 : decode cX12_init 30 = .ok (.newarray .int, 2) := by decide +kernel
theorem dX12_init_32 : decode cX12_init 32 = .ok (.putfield 18, 3) := by decide +kernel
theorem dX12_init_35 : decode cX12_init 35 = .ok (.aload_n 0, 1) := by decide +kernel
theorem dX12_init_36 : decode cX12_init 36 = .ok (.sipush 200, 3) := by decide +kernel
theorem dX12_init_39 : decode cX12_init 39 = .ok (.newarray .int, 2) := by decide +kernel
theorem dX12_init_41 : decode cX12_init 41 = .ok (.putfield 21, 3) := by decide +kernel
theorem dX12_init_44 : decode cX12_init 44 = .ok (.aload_n 0, 1) := by decide +kernel
theorem dX12_init_45 : decode cX12_init 45 = .ok (.sipush 700, 3) := by decide +kernel
theorem dX12_init_48 : decode cX12_init 48 = .ok (.newarray .byte, 2) := by decide +kernel
theorem dX12_init_50 : decode cX12_init 50 = .ok (.putfield 24, 3) := by decide +kernel
theorem dX12_init_53 : decode cX12_init 53 = .ok (.aload_n 0, 1) := by decide +kernel
theorem dX12_init_54 : decode cX12_init 54 = .ok (.sipush 700, 3) := by decide +kernel
theorem dX12_init_57 : decode cX12_init 57 = .ok (.newarray .byte, 2) := by decide +kernel
theorem dX12_init_59 : decode cX12_init 59 = .ok (.putfield 28, 3) := by decide +kernel
theorem dX12_init_62 : decode cX12_init 62 = .ok (.aload_n 0, 1) := by decide +kernel
theorem dX12_init_63 : decode cX12_init 63 = .ok (.iconst (-1), 1) := by decide +kernel
theorem dX12_init_64 : decode cX12_init 64 = .ok (.putfield 31, 3) := by decide +kernel
theorem dX12_init_67 : decode cX12_init 67 = .ok (.aload_n 0, 1) := by decide +kernel
theorem dX12_init_68 : decode cX12_init 68 = .ok (.iconst (-1), 1) := by decide +kernel
theorem dX12_init_69 : decode cX12_init 69 = .ok (.putfield 35, 3) := by decide +kernel
theorem dX12_init_72 : decode cX12_init 72 = .ok (.aload_n 0, 1) := by decide +kernel
theorem dX12_init_73 : decode cX12_init 73 = .ok (.iconst (-1), 1) := by decide +kernel
theorem dX12_init_74 : decode cX12_init 74 = .ok (.putfield 38, 3) := by decide +kernel
theorem dX12_init_77 : decode cX12_init 77 = .ok (.aload_n 0, 1) := by decide +kernel
theorem dX12_init_78 : decode cX12_init 78 = .ok (.sipush 400, 3) := by decide +kernel
theorem dX12_init_81 : decode cX12_init 81 = .ok (.newarray .int, 2) := by decide +kernel
theorem dX12_init_83 : decode cX12_init 83 = .ok (.putfield 41, 3) := by decide +kernel
theorem dX12_init_86 : decode cX12_init 86 = .ok (.aload_n 0, 1) := by decide +kernel
theorem dX12_init_87 : decode cX12_init 87 = .ok (.sipush 400, 3) := by decide +kernel
theorem dX12_init_90 : decode cX12_init 90 = .ok (.newarray .int, 2) := by decide +kernel
theorem dX12_init_92 : decode cX12_init 92 = .ok (.putfield 44, 3) := by decide +kernel
theorem dX12_init_95 : decode cX12_init 95 = .ok (.aload_n 0, 1) := by decide +kernel
theorem dX12_init_96 : decode cX12_init 96 = .ok (.sipush 400, 3) := by decide +kernel
theorem dX12_init_99 : decode cX12_init 99 = .ok (.newarray .boolean, 2) := by decide +kernel
theorem dX12_init_101 : decode cX12_init 101 = .ok (.putfield 47, 3) := by decide +kernel
theorem dX12_init_104 : decode cX12_init 104 = .ok (.aload_n 0, 1) := by decide +kernel
theorem dX12_init_105 : decode cX12_init 105 = .ok (.bipush 6, 2) := by decide +kernel
theorem dX12_init_107 : decode cX12_init 107 = .ok (.newarray .int, 2) := by decide +kernel
theorem dX12_init_109 : decode cX12_init 109 = .ok (.putfield 51, 3) := by decide +kernel
theorem dX12_init_112 : decode cX12_init 112 = .ok (.aload_n 0, 1) := by decide +kernel
theorem dX12_init_113 : decode cX12_init 113 = .ok (.bipush 6, 2) := by decide +kernel
theorem dX12_init_115 : decode cX12_init 115 = .ok (.bipush 13, 2) := by decide +kernel
theorem dX12_init_117 : decode cX12_init 117 = .ok (.bipush 13, 2) := by decide +kernel
theorem dX12_init_119 : decode cX12_init 119 = .ok (.multianewarray 54 3, 4) := by decide +kernel
theorem dX12_init_123 : decode cX12_init 123 = .ok (.putfield 56, 3) := by decide +kernel
theorem dX12_init_126 : decode cX12_init 126 = .ok (.aload_n 0, 1) := by decide +kernel
theorem dX12_init_127 : decode cX12_init 127 = .ok (.ldc 59, 2) := by decide +kernel
theorem dX12_init_129 : decode cX12_init 129 = .ok (.newarray .long, 2) := by decide +kernel
theorem dX12_init_131 : decode cX12_init 131 = .ok (.putfield 60, 3) := by decide +kernel
theorem dX12_init_134 : decode cX12_init 134 = .ok (.aload_n 0, 1) := by decide +kernel
theorem dX12_init_135 : decode cX12_init 135 = .ok (.sipush 400, 3) := by decide +kernel
theorem dX12_init_138 : decode cX12_init 138 = .ok (.newarray .byte, 2) := by decide +kernel
theorem dX12_init_140 : decode cX12_init 140 = .ok (.putfield 64, 3) := by decide +kernel
theorem dX12_init_143 : decode cX12_init 143 = .ok (.return_, 1) := by decide +kernel
theorem dX12_status_0 : decode cX12_status 0 = .ok (.aload_n 0, 1) := by decide +kernel
theorem dX12_status_1 : decode cX12_status 1 = .ok (.getfield 67, 3) := by decide +kernel
theorem dX12_status_4 : decode cX12_status 4 = .ok (.ireturn, 1) := by decide +kernel
theorem dX12_refuse_0 : decode cX12_refuse 0 = .ok (.aload_n 0, 1) := by decide +kernel
theorem dX12_refuse_1 : decode cX12_refuse 1 = .ok (.iload_n 1, 1) := by decide +kernel
theorem dX12_refuse_2 : decode cX12_refuse 2 = .ok (.putfield 67, 3) := by decide +kernel
theorem dX12_refuse_5 : decode cX12_refuse 5 = .ok (.iconst (-1), 1) := by decide +kernel
theorem dX12_refuse_6 : decode cX12_refuse 6 = .ok (.ireturn, 1) := by decide +kernel
theorem dX12_gives_0 : decode cX12_gives 0 = .ok (.aload_n 0, 1) := by decide +kernel
theorem dX12_gives_1 : decode cX12_gives 1 = .ok (.iconst 0, 1) := by decide +kernel
theorem dX12_gives_2 : decode cX12_gives 2 = .ok (.putfield 67, 3) := by decide +kernel
theorem dX12_gives_5 : decode cX12_gives 5 = .ok (.iload_n 1, 1) := by decide +kernel
theorem dX12_gives_6 : decode cX12_gives 6 = .ok (.ireturn, 1) := by decide +kernel
theorem dX12_isFrom_0 : decode cX12_isFrom 0 = .ok (.iload_n 0, 1) := by decide +kernel
theorem dX12_isFrom_1 : decode cX12_isFrom 1 = .ok (.iload_n 1, 1) := by decide +kernel
theorem dX12_isFrom_2 : decode cX12_isFrom 2 = .ok (.if_icmp .lt 12, 3) := by decide +kernel
theorem dX12_isFrom_5 : decode cX12_isFrom 5 = .ok (.iload_n 0, 1) := by decide +kernel
theorem dX12_isFrom_6 : decode cX12_isFrom 6 = .ok (.iload_n 2, 1) := by decide +kernel
theorem dX12_isFrom_7 : decode cX12_isFrom 7 = .ok (.if_icmp .gt 7, 3) := by decide +kernel
theorem dX12_isFrom_10 : decode cX12_isFrom 10 = .ok (.iconst 1, 1) := by decide +kernel
theorem dX12_isFrom_11 : decode cX12_isFrom 11 = .ok (.goto 4, 3) := by decide +kernel
theorem dX12_isFrom_14 : decode cX12_isFrom 14 = .ok (.iconst 0, 1) := by decide +kernel
theorem dX12_isFrom_15 : decode cX12_isFrom 15 = .ok (.ireturn, 1) := by decide +kernel
theorem dX12_of_0 : decode cX12_of 0 = .ok (.aload_n 0, 1) := by decide +kernel
theorem dX12_of_1 : decode cX12_of 1 = .ok (.getfield 7, 3) := by decide +kernel
theorem dX12_of_4 : decode cX12_of 4 = .ok (.iload_n 1, 1) := by decide +kernel
theorem dX12_of_5 : decode cX12_of 5 = .ok (.iaload, 1) := by decide +kernel
theorem dX12_of_6 : decode cX12_of 6 = .ok (.ireturn, 1) := by decide +kernel
theorem dX12_copies_0 : decode cX12_copies 0 = .ok (.iconst 0, 1) := by decide +kernel
theorem dX12_copies_1 : decode cX12_copies 1 = .ok (.istore_n 3, 1) := by decide +kernel
theorem dX12_copies_2 : decode cX12_copies 2 = .ok (.iload_n 3, 1) := by decide +kernel
theorem dX12_copies_3 : decode cX12_copies 3 = .ok (.sipush 554, 3) := by decide +kernel
theorem dX12_copies_6 : decode cX12_copies 6 = .ok (.if_icmp .ge 25, 3) := by decide +kernel
theorem dX12_copies_9 : decode cX12_copies 9 = .ok (.aload_n 0, 1) := by decide +kernel
theorem dX12_copies_10 : decode cX12_copies 10 = .ok (.getfield 7, 3) := by decide +kernel
theorem dX12_copies_13 : decode cX12_copies 13 = .ok (.iload_n 2, 1) := by decide +kernel
theorem dX12_copies_14 : decode cX12_copies 14 = .ok (.iload_n 3, 1) := by decide +kernel
theorem dX12_copies_15 : decode cX12_copies 15 = .ok (.iadd, 1) := by decide +kernel
theorem dX12_copies_16 : decode cX12_copies 16 = .ok (.aload_n 0, 1) := by decide +kernel
theorem dX12_copies_17 : decode cX12_copies 17 = .ok (.getfield 7, 3) := by decide +kernel
theorem dX12_copies_20 : decode cX12_copies 20 = .ok (.iload_n 1, 1) := by decide +kernel
theorem dX12_copies_21 : decode cX12_copies 21 = .ok (.iload_n 3, 1) := by decide +kernel
theorem dX12_copies_22 : decode cX12_copies 22 = .ok (.iadd, 1) := by decide +kernel
theorem dX12_copies_23 : decode cX12_copies 23 = .ok (.iaload, 1) := by decide +kernel
theorem dX12_copies_24 : decode cX12_copies 24 = .ok (.iastore, 1) := by decide +kernel
theorem dX12_copies_25 : decode cX12_copies 25 = .ok (.iinc 3 1, 3) := by decide +kernel
theorem dX12_copies_28 : decode cX12_copies 28 = .ok (.goto (-26), 3) := by decide +kernel
theorem dX12_copies_31 : decode cX12_copies 31 = .ok (.return_, 1) := by decide +kernel
theorem dX12_isVertex_0 : decode cX12_isVertex 0 = .ok (.iload_n 1, 1) := by decide +kernel
theorem dX12_isVertex_1 : decode cX12_isVertex 1 = .ok (.ifCond .lt 16, 3) := by decide +kernel
theorem dX12_isVertex_4 : decode cX12_isVertex 4 = .ok (.iload_n 1, 1) := by decide +kernel
theorem dX12_isVertex_5 : decode cX12_isVertex 5 = .ok (.aload_n 0, 1) := by decide +kernel
theorem dX12_isVertex_6 : decode cX12_isVertex 6 = .ok (.iconst 0, 1) := by decide +kernel
theorem dX12_isVertex_7 : decode cX12_isVertex 7 = .ok (.invokevirtual 70, 3) := by decide +kernel
theorem dX12_isVertex_10 : decode cX12_isVertex 10 = .ok (.if_icmp .ge 7, 3) := by decide +kernel
theorem dX12_isVertex_17 : decode cX12_isVertex 17 = .ok (.iconst 0, 1) := by decide +kernel
theorem dX12_isVertex_18 : decode cX12_isVertex 18 = .ok (.ireturn, 1) := by decide +kernel
theorem dX12_isEdge_0 : decode cX12_isEdge 0 = .ok (.iload_n 1, 1) := by decide +kernel
theorem dX12_isEdge_1 : decode cX12_isEdge 1 = .ok (.ifCond .lt 16, 3) := by decide +kernel
theorem dX12_isEdge_4 : decode cX12_isEdge 4 = .ok (.iload_n 1, 1) := by decide +kernel
theorem dX12_isEdge_5 : decode cX12_isEdge 5 = .ok (.aload_n 0, 1) := by decide +kernel
theorem dX12_isEdge_6 : decode cX12_isEdge 6 = .ok (.iconst 1, 1) := by decide +kernel
theorem dX12_isEdge_7 : decode cX12_isEdge 7 = .ok (.invokevirtual 70, 3) := by decide +kernel
theorem dX12_isEdge_10 : decode cX12_isEdge 10 = .ok (.if_icmp .ge 7, 3) := by decide +kernel
theorem dX12_isEdge_17 : decode cX12_isEdge 17 = .ok (.iconst 0, 1) := by decide +kernel
theorem dX12_isEdge_18 : decode cX12_isEdge 18 = .ok (.ireturn, 1) := by decide +kernel
theorem dX12_isWord_0 : decode cX12_isWord 0 = .ok (.iload_n 1, 1) := by decide +kernel
theorem dX12_isWord_1 : decode cX12_isWord 1 = .ok (.ifCond .lt 16, 3) := by decide +kernel
theorem dX12_isWord_4 : decode cX12_isWord 4 = .ok (.iload_n 1, 1) := by decide +kernel
theorem dX12_isWord_5 : decode cX12_isWord 5 = .ok (.aload_n 0, 1) := by decide +kernel
theorem dX12_isWord_6 : decode cX12_isWord 6 = .ok (.iconst 2, 1) := by decide +kernel
theorem dX12_isWord_7 : decode cX12_isWord 7 = .ok (.invokevirtual 70, 3) := by decide +kernel
theorem dX12_isWord_10 : decode cX12_isWord 10 = .ok (.if_icmp .ge 7, 3) := by decide +kernel
theorem dX12_isWord_17 : decode cX12_isWord 17 = .ok (.iconst 0, 1) := by decide +kernel
theorem dX12_isWord_18 : decode cX12_isWord 18 = .ok (.ireturn, 1) := by decide +kernel
theorem dX12_feed_0 : decode cX12_feed 0 = .ok (.aload_n 0, 1) := by decide +kernel
theorem dX12_feed_1 : decode cX12_feed 1 = .ok (.getfield 135, 3) := by decide +kernel
theorem dX12_feed_4 : decode cX12_feed 4 = .ok (.sipush 680, 3) := by decide +kernel
theorem dX12_feed_7 : decode cX12_feed 7 = .ok (.if_icmp .le 5, 3) := by decide +kernel
theorem dX12_feed_12 : decode cX12_feed 12 = .ok (.aload_n 0, 1) := by decide +kernel
theorem dX12_feed_13 : decode cX12_feed 13 = .ok (.iload_n 1, 1) := by decide +kernel
theorem dX12_feed_14 : decode cX12_feed 14 = .ok (.invokevirtual 138, 3) := by decide +kernel
theorem dX12_feed_17 : decode cX12_feed 17 = .ok (.aload_n 0, 1) := by decide +kernel
theorem dX12_feed_18 : decode cX12_feed 18 = .ok (.iload_n 2, 1) := by decide +kernel
theorem dX12_feed_19 : decode cX12_feed 19 = .ok (.invokevirtual 138, 3) := by decide +kernel
theorem dX12_feed_22 : decode cX12_feed 22 = .ok (.aload_n 0, 1) := by decide +kernel
theorem dX12_feed_23 : decode cX12_feed 23 = .ok (.iload_n 3, 1) := by decide +kernel
theorem dX12_feed_24 : decode cX12_feed 24 = .ok (.invokevirtual 138, 3) := by decide +kernel
theorem dX12_feed_27 : decode cX12_feed 27 = .ok (.aload_n 0, 1) := by decide +kernel
theorem dX12_feed_28 : decode cX12_feed 28 = .ok (.iload 4, 2) := by decide +kernel
theorem dX12_feed_30 : decode cX12_feed 30 = .ok (.invokevirtual 138, 3) := by decide +kernel
theorem dX12_feed_33 : decode cX12_feed 33 = .ok (.aload_n 0, 1) := by decide +kernel
theorem dX12_feed_34 : decode cX12_feed 34 = .ok (.iload 5, 2) := by decide +kernel
theorem dX12_feed_36 : decode cX12_feed 36 = .ok (.invokevirtual 138, 3) := by decide +kernel
theorem dX12_feed_39 : decode cX12_feed 39 = .ok (.aload_n 0, 1) := by decide +kernel
theorem dX12_feed_40 : decode cX12_feed 40 = .ok (.getfield 135, 3) := by decide +kernel
theorem dX12_feed_43 : decode cX12_feed 43 = .ok (.ireturn, 1) := by decide +kernel
theorem dX12_four_0 : decode cX12_four 0 = .ok (.iconst 3, 1) := by decide +kernel
theorem dX12_four_1 : decode cX12_four 1 = .ok (.istore_n 2, 1) := by decide +kernel
theorem dX12_four_2 : decode cX12_four 2 = .ok (.iload_n 2, 1) := by decide +kernel
theorem dX12_four_3 : decode cX12_four 3 = .ok (.ifCond .lt 35, 3) := by decide +kernel
theorem dX12_four_6 : decode cX12_four 6 = .ok (.aload_n 0, 1) := by decide +kernel
theorem dX12_four_7 : decode cX12_four 7 = .ok (.getfield 24, 3) := by decide +kernel
theorem dX12_four_10 : decode cX12_four 10 = .ok (.aload_n 0, 1) := by decide +kernel
theorem dX12_four_11 : decode cX12_four 11 = .ok (.getfield 135, 3) := by decide +kernel
theorem dX12_four_14 : decode cX12_four 14 = .ok (.iload_n 1, 1) := by decide +kernel
theorem dX12_four_15 : decode cX12_four 15 = .ok (.bipush 8, 2) := by decide +kernel
theorem dX12_four_17 : decode cX12_four 17 = .ok (.iload_n 2, 1) := by decide +kernel
theorem dX12_four_18 : decode cX12_four 18 = .ok (.imul, 1) := by decide +kernel
theorem dX12_four_19 : decode cX12_four 19 = .ok (.ishr, 1) := by decide +kernel
theorem dX12_four_20 : decode cX12_four 20 = .ok (.i2b, 1) := by decide +kernel
theorem dX12_four_21 : decode cX12_four 21 = .ok (.bastore, 1) := by decide +kernel
theorem dX12_four_22 : decode cX12_four 22 = .ok (.aload_n 0, 1) := by decide +kernel
theorem dX12_four_23 : decode cX12_four 23 = .ok (.dup, 1) := by decide +kernel
theorem dX12_four_24 : decode cX12_four 24 = .ok (.getfield 135, 3) := by decide +kernel
theorem dX12_four_27 : decode cX12_four 27 = .ok (.iconst 1, 1) := by decide +kernel
theorem dX12_four_28 : decode cX12_four 28 = .ok (.iadd, 1) := by decide +kernel
theorem dX12_four_29 : decode cX12_four 29 = .ok (.putfield 135, 3) := by decide +kernel
theorem dX12_four_32 : decode cX12_four 32 = .ok (.iinc 2 (-1), 3) := by decide +kernel
theorem dX12_four_35 : decode cX12_four 35 = .ok (.goto (-33), 3) := by decide +kernel
theorem dX12_four_38 : decode cX12_four 38 = .ok (.return_, 1) := by decide +kernel
theorem dX12_byteAt_0 : decode cX12_byteAt 0 = .ok (.iload_n 1, 1) := by decide +kernel
theorem dX12_byteAt_1 : decode cX12_byteAt 1 = .ok (.aload_n 0, 1) := by decide +kernel
theorem dX12_byteAt_2 : decode cX12_byteAt 2 = .ok (.getfield 142, 3) := by decide +kernel
theorem dX12_byteAt_5 : decode cX12_byteAt 5 = .ok (.if_icmp .ge 16, 3) := by decide +kernel
theorem dX12_byteAt_21 : decode cX12_byteAt 21 = .ok (.iconst (-1), 1) := by decide +kernel
theorem dX12_byteAt_22 : decode cX12_byteAt 22 = .ok (.ireturn, 1) := by decide +kernel
theorem dX12_ahead_0 : decode cX12_ahead 0 = .ok (.aload_n 0, 1) := by decide +kernel
theorem dX12_ahead_1 : decode cX12_ahead 1 = .ok (.aload_n 0, 1) := by decide +kernel
theorem dX12_ahead_2 : decode cX12_ahead 2 = .ok (.getfield 145, 3) := by decide +kernel
theorem dX12_ahead_5 : decode cX12_ahead 5 = .ok (.invokevirtual 148, 3) := by decide +kernel
theorem dX12_ahead_8 : decode cX12_ahead 8 = .ok (.bipush 32, 2) := by decide +kernel
theorem dX12_ahead_10 : decode cX12_ahead 10 = .ok (.if_icmp .eq 16, 3) := by decide +kernel
theorem dX12_ahead_13 : decode cX12_ahead 13 = .ok (.aload_n 0, 1) := by decide +kernel
theorem dX12_ahead_14 : decode cX12_ahead 14 = .ok (.aload_n 0, 1) := by decide +kernel
theorem dX12_ahead_15 : decode cX12_ahead 15 = .ok (.getfield 145, 3) := by decide +kernel
theorem dX12_ahead_18 : decode cX12_ahead 18 = .ok (.invokevirtual 148, 3) := by decide +kernel
theorem dX12_ahead_21 : decode cX12_ahead 21 = .ok (.bipush 10, 2) := by decide +kernel
theorem dX12_ahead_23 : decode cX12_ahead 23 = .ok (.if_icmp .ne 16, 3) := by decide +kernel
theorem dX12_ahead_39 : decode cX12_ahead 39 = .ok (.aload_n 0, 1) := by decide +kernel
theorem dX12_ahead_40 : decode cX12_ahead 40 = .ok (.aload_n 0, 1) := by decide +kernel
theorem dX12_ahead_41 : decode cX12_ahead 41 = .ok (.getfield 145, 3) := by decide +kernel
theorem dX12_ahead_44 : decode cX12_ahead 44 = .ok (.putfield 151, 3) := by decide +kernel
theorem dX12_ahead_47 : decode cX12_ahead 47 = .ok (.aload_n 0, 1) := by decide +kernel
theorem dX12_ahead_48 : decode cX12_ahead 48 = .ok (.aload_n 0, 1) := by decide +kernel
theorem dX12_ahead_49 : decode cX12_ahead 49 = .ok (.getfield 145, 3) := by decide +kernel
theorem dX12_ahead_52 : decode cX12_ahead 52 = .ok (.invokevirtual 148, 3) := by decide +kernel
theorem dX12_ahead_55 : decode cX12_ahead 55 = .ok (.istore_n 1, 1) := by decide +kernel
theorem dX12_ahead_56 : decode cX12_ahead 56 = .ok (.iload_n 1, 1) := by decide +kernel
theorem dX12_ahead_57 : decode cX12_ahead 57 = .ok (.iconst (-1), 1) := by decide +kernel
theorem dX12_ahead_58 : decode cX12_ahead 58 = .ok (.if_icmp .ne 11, 3) := by decide +kernel
theorem dX12_ahead_61 : decode cX12_ahead 61 = .ok (.aload_n 0, 1) := by decide +kernel
theorem dX12_ahead_62 : decode cX12_ahead 62 = .ok (.iconst 0, 1) := by decide +kernel
theorem dX12_ahead_63 : decode cX12_ahead 63 = .ok (.putfield 154, 3) := by decide +kernel
theorem dX12_ahead_66 : decode cX12_ahead 66 = .ok (.goto 175, 3) := by decide +kernel
theorem dX12_ahead_241 : decode cX12_ahead 241 = .ok (.return_, 1) := by decide +kernel
theorem dX12_load_0 : decode cX12_load 0 = .ok (.iload_n 1, 1) := by decide +kernel
theorem dX12_load_1 : decode cX12_load 1 = .ok (.iconst 0, 1) := by decide +kernel
theorem dX12_load_2 : decode cX12_load 2 = .ok (.aload_n 0, 1) := by decide +kernel
theorem dX12_load_3 : decode cX12_load 3 = .ok (.getfield 135, 3) := by decide +kernel
theorem dX12_load_6 : decode cX12_load 6 = .ok (.invokestatic 200, 3) := by decide +kernel
theorem dX12_load_9 : decode cX12_load 9 = .ok (.ifCond .ne 9, 3) := by decide +kernel
theorem dX12_load_12 : decode cX12_load 12 = .ok (.aload_n 0, 1) := by decide +kernel
theorem dX12_load_13 : decode cX12_load 13 = .ok (.iconst 1, 1) := by decide +kernel
theorem dX12_load_14 : decode cX12_load 14 = .ok (.invokevirtual 238, 3) := by decide +kernel
theorem dX12_load_17 : decode cX12_load 17 = .ok (.ireturn, 1) := by decide +kernel
theorem dX12_load_18 : decode cX12_load 18 = .ok (.aload_n 0, 1) := by decide +kernel
theorem dX12_load_19 : decode cX12_load 19 = .ok (.iload_n 1, 1) := by decide +kernel
theorem dX12_load_20 : decode cX12_load 20 = .ok (.putfield 142, 3) := by decide +kernel
theorem dX12_load_23 : decode cX12_load 23 = .ok (.iconst 0, 1) := by decide +kernel
theorem dX12_load_24 : decode cX12_load 24 = .ok (.istore_n 2, 1) := by decide +kernel
theorem dX12_load_25 : decode cX12_load 25 = .ok (.iload_n 2, 1) := by decide +kernel
theorem dX12_load_26 : decode cX12_load 26 = .ok (.iload_n 1, 1) := by decide +kernel
theorem dX12_load_27 : decode cX12_load 27 = .ok (.if_icmp .ge 21, 3) := by decide +kernel
theorem dX12_load_48 : decode cX12_load 48 = .ok (.aload_n 0, 1) := by decide +kernel
theorem dX12_load_49 : decode cX12_load 49 = .ok (.iconst 0, 1) := by decide +kernel
theorem dX12_load_50 : decode cX12_load 50 = .ok (.putfield 135, 3) := by decide +kernel
theorem dX12_load_53 : decode cX12_load 53 = .ok (.aload_n 0, 1) := by decide +kernel
theorem dX12_load_54 : decode cX12_load 54 = .ok (.iconst 0, 1) := by decide +kernel
theorem dX12_load_55 : decode cX12_load 55 = .ok (.putfield 184, 3) := by decide +kernel
theorem dX12_load_58 : decode cX12_load 58 = .ok (.aload_n 0, 1) := by decide +kernel
theorem dX12_load_59 : decode cX12_load 59 = .ok (.iconst (-1), 1) := by decide +kernel
theorem dX12_load_60 : decode cX12_load 60 = .ok (.putfield 31, 3) := by decide +kernel
theorem dX12_load_63 : decode cX12_load 63 = .ok (.aload_n 0, 1) := by decide +kernel
theorem dX12_load_64 : decode cX12_load 64 = .ok (.iconst (-1), 1) := by decide +kernel
theorem dX12_load_65 : decode cX12_load 65 = .ok (.putfield 35, 3) := by decide +kernel
theorem dX12_load_68 : decode cX12_load 68 = .ok (.aload_n 0, 1) := by decide +kernel
theorem dX12_load_69 : decode cX12_load 69 = .ok (.iconst 0, 1) := by decide +kernel
theorem dX12_load_70 : decode cX12_load 70 = .ok (.putfield 187, 3) := by decide +kernel
theorem dX12_load_73 : decode cX12_load 73 = .ok (.aload_n 0, 1) := by decide +kernel
theorem dX12_load_74 : decode cX12_load 74 = .ok (.iconst 0, 1) := by decide +kernel
theorem dX12_load_75 : decode cX12_load 75 = .ok (.putfield 145, 3) := by decide +kernel
theorem dX12_load_78 : decode cX12_load 78 = .ok (.aload_n 0, 1) := by decide +kernel
theorem dX12_load_79 : decode cX12_load 79 = .ok (.iconst 0, 1) := by decide +kernel
theorem dX12_load_80 : decode cX12_load 80 = .ok (.sipush 554, 3) := by decide +kernel
theorem dX12_load_83 : decode cX12_load 83 = .ok (.invokevirtual 241, 3) := by decide +kernel
theorem dX12_load_86 : decode cX12_load 86 = .ok (.iconst 0, 1) := by decide +kernel
theorem dX12_load_87 : decode cX12_load 87 = .ok (.istore_n 2, 1) := by decide +kernel
theorem dX12_load_88 : decode cX12_load 88 = .ok (.iload_n 2, 1) := by decide +kernel
theorem dX12_load_89 : decode cX12_load 89 = .ok (.sipush 554, 3) := by decide +kernel
theorem dX12_load_92 : decode cX12_load 92 = .ok (.if_icmp .ge 16, 3) := by decide +kernel
theorem dX12_load_95 : decode cX12_load 95 = .ok (.aload_n 0, 1) := by decide +kernel
theorem dX12_load_96 : decode cX12_load 96 = .ok (.getfield 7, 3) := by decide +kernel
theorem dX12_load_99 : decode cX12_load 99 = .ok (.iload_n 2, 1) := by decide +kernel
theorem dX12_load_100 : decode cX12_load 100 = .ok (.iconst 0, 1) := by decide +kernel
theorem dX12_load_101 : decode cX12_load 101 = .ok (.iastore, 1) := by decide +kernel
theorem dX12_load_102 : decode cX12_load 102 = .ok (.iinc 2 1, 3) := by decide +kernel
theorem dX12_load_105 : decode cX12_load 105 = .ok (.goto (-17), 3) := by decide +kernel
theorem dX12_load_108 : decode cX12_load 108 = .ok (.aload_n 0, 1) := by decide +kernel
theorem dX12_load_109 : decode cX12_load 109 = .ok (.invokevirtual 190, 3) := by decide +kernel
theorem dX12_load_112 : decode cX12_load 112 = .ok (.iconst 1, 1) := by decide +kernel
theorem dX12_load_113 : decode cX12_load 113 = .ok (.istore_n 2, 1) := by decide +kernel
theorem dX12_load_114 : decode cX12_load 114 = .ok (.iload_n 2, 1) := by decide +kernel
theorem dX12_load_115 : decode cX12_load 115 = .ok (.ifCond .eq 18, 3) := by decide +kernel
theorem dX12_load_118 : decode cX12_load 118 = .ok (.aload_n 0, 1) := by decide +kernel
theorem dX12_load_119 : decode cX12_load 119 = .ok (.getfield 154, 3) := by decide +kernel
theorem dX12_load_122 : decode cX12_load 122 = .ok (.ifCond .eq 11, 3) := by decide +kernel
theorem dX12_load_133 : decode cX12_load 133 = .ok (.aload_n 0, 1) := by decide +kernel
theorem dX12_load_134 : decode cX12_load 134 = .ok (.aload_n 0, 1) := by decide +kernel
theorem dX12_load_135 : decode cX12_load 135 = .ok (.getfield 184, 3) := by decide +kernel
theorem dX12_load_138 : decode cX12_load 138 = .ok (.putfield 38, 3) := by decide +kernel
theorem dX12_load_141 : decode cX12_load 141 = .ok (.aload_n 0, 1) := by decide +kernel
theorem dX12_load_142 : decode cX12_load 142 = .ok (.getfield 184, 3) := by decide +kernel
theorem dX12_load_145 : decode cX12_load 145 = .ok (.ifCond .le 18, 3) := by decide +kernel
theorem dX12_load_163 : decode cX12_load 163 = .ok (.aload_n 0, 1) := by decide +kernel
theorem dX12_load_164 : decode cX12_load 164 = .ok (.sipush 554, 3) := by decide +kernel
theorem dX12_load_167 : decode cX12_load 167 = .ok (.invokevirtual 248, 3) := by decide +kernel
theorem dX12_load_170 : decode cX12_load 170 = .ok (.aload_n 0, 1) := by decide +kernel
theorem dX12_load_171 : decode cX12_load 171 = .ok (.aload_n 0, 1) := by decide +kernel
theorem dX12_load_172 : decode cX12_load 172 = .ok (.iconst 2, 1) := by decide +kernel
theorem dX12_load_173 : decode cX12_load 173 = .ok (.invokevirtual 70, 3) := by decide +kernel
theorem dX12_load_176 : decode cX12_load 176 = .ok (.invokevirtual 251, 3) := by decide +kernel
theorem dX12_load_179 : decode cX12_load 179 = .ok (.ireturn, 1) := by decide +kernel
theorem dX12_fault_0 : decode cX12_fault 0 = .ok (.iload_n 1, 1) := by decide +kernel
theorem dX12_fault_1 : decode cX12_fault 1 = .ok (.ifCond .ne 10, 3) := by decide +kernel
theorem dX12_fault_4 : decode cX12_fault 4 = .ok (.aload_n 0, 1) := by decide +kernel
theorem dX12_fault_5 : decode cX12_fault 5 = .ok (.getfield 38, 3) := by decide +kernel
theorem dX12_fault_8 : decode cX12_fault 8 = .ok (.goto 28, 3) := by decide +kernel
theorem dX12_fault_11 : decode cX12_fault 11 = .ok (.iload_n 1, 1) := by decide +kernel
theorem dX12_fault_12 : decode cX12_fault 12 = .ok (.iconst 1, 1) := by decide +kernel
theorem dX12_fault_13 : decode cX12_fault 13 = .ok (.if_icmp .ne 10, 3) := by decide +kernel
theorem dX12_fault_16 : decode cX12_fault 16 = .ok (.aload_n 0, 1) := by decide +kernel
theorem dX12_fault_17 : decode cX12_fault 17 = .ok (.getfield 31, 3) := by decide +kernel
theorem dX12_fault_20 : decode cX12_fault 20 = .ok (.goto 16, 3) := by decide +kernel
theorem dX12_fault_23 : decode cX12_fault 23 = .ok (.iload_n 1, 1) := by decide +kernel
theorem dX12_fault_24 : decode cX12_fault 24 = .ok (.iconst 2, 1) := by decide +kernel
theorem dX12_fault_25 : decode cX12_fault 25 = .ok (.if_icmp .ne 10, 3) := by decide +kernel
theorem dX12_fault_28 : decode cX12_fault 28 = .ok (.aload_n 0, 1) := by decide +kernel
theorem dX12_fault_29 : decode cX12_fault 29 = .ok (.getfield 35, 3) := by decide +kernel
theorem dX12_fault_32 : decode cX12_fault 32 = .ok (.goto 4, 3) := by decide +kernel
theorem dX12_fault_35 : decode cX12_fault 35 = .ok (.iconst (-1), 1) := by decide +kernel
theorem dX12_fault_36 : decode cX12_fault 36 = .ok (.ireturn, 1) := by decide +kernel
theorem dX12_parts_0 : decode cX12_parts 0 = .ok (.iconst 0, 1) := by decide +kernel
theorem dX12_parts_1 : decode cX12_parts 1 = .ok (.istore_n 1, 1) := by decide +kernel
theorem dX12_parts_2 : decode cX12_parts 2 = .ok (.iconst 0, 1) := by decide +kernel
theorem dX12_parts_3 : decode cX12_parts 3 = .ok (.istore_n 2, 1) := by decide +kernel
theorem dX12_parts_4 : decode cX12_parts 4 = .ok (.iload_n 2, 1) := by decide +kernel
theorem dX12_parts_5 : decode cX12_parts 5 = .ok (.aload_n 0, 1) := by decide +kernel
theorem dX12_parts_6 : decode cX12_parts 6 = .ok (.iconst 0, 1) := by decide +kernel
theorem dX12_parts_7 : decode cX12_parts 7 = .ok (.invokevirtual 70, 3) := by decide +kernel
theorem dX12_parts_10 : decode cX12_parts 10 = .ok (.if_icmp .ge 31, 3) := by decide +kernel
theorem dX12_parts_41 : decode cX12_parts 41 = .ok (.iload_n 1, 1) := by decide +kernel
theorem dX12_parts_42 : decode cX12_parts 42 = .ok (.ireturn, 1) := by decide +kernel
theorem dX12_many_0 : decode cX12_many 0 = .ok (.iload_n 1, 1) := by decide +kernel
theorem dX12_many_1 : decode cX12_many 1 = .ok (.tableswitch 121 0 6 #[43, 53, 63, 73, 82, 91, 112], 43) := by decide +kernel
theorem dX12_many_44 : decode cX12_many 44 = .ok (.aload_n 0, 1) := by decide +kernel
theorem dX12_many_45 : decode cX12_many 45 = .ok (.aload_n 0, 1) := by decide +kernel
theorem dX12_many_46 : decode cX12_many 46 = .ok (.iconst 0, 1) := by decide +kernel
theorem dX12_many_47 : decode cX12_many 47 = .ok (.invokevirtual 70, 3) := by decide +kernel
theorem dX12_many_50 : decode cX12_many 50 = .ok (.invokevirtual 251, 3) := by decide +kernel
theorem dX12_many_53 : decode cX12_many 53 = .ok (.ireturn, 1) := by decide +kernel
theorem dX12_many_54 : decode cX12_many 54 = .ok (.aload_n 0, 1) := by decide +kernel
theorem dX12_many_55 : decode cX12_many 55 = .ok (.aload_n 0, 1) := by decide +kernel
theorem dX12_many_56 : decode cX12_many 56 = .ok (.iconst 1, 1) := by decide +kernel
theorem dX12_many_57 : decode cX12_many 57 = .ok (.invokevirtual 70, 3) := by decide +kernel
theorem dX12_many_60 : decode cX12_many 60 = .ok (.invokevirtual 251, 3) := by decide +kernel
theorem dX12_many_63 : decode cX12_many 63 = .ok (.ireturn, 1) := by decide +kernel
theorem dX12_many_64 : decode cX12_many 64 = .ok (.aload_n 0, 1) := by decide +kernel
theorem dX12_many_65 : decode cX12_many 65 = .ok (.aload_n 0, 1) := by decide +kernel
theorem dX12_many_66 : decode cX12_many 66 = .ok (.iconst 2, 1) := by decide +kernel
theorem dX12_many_67 : decode cX12_many 67 = .ok (.invokevirtual 70, 3) := by decide +kernel
theorem dX12_many_70 : decode cX12_many 70 = .ok (.invokevirtual 251, 3) := by decide +kernel
theorem dX12_many_73 : decode cX12_many 73 = .ok (.ireturn, 1) := by decide +kernel
theorem dX12_many_74 : decode cX12_many 74 = .ok (.aload_n 0, 1) := by decide +kernel
theorem dX12_many_75 : decode cX12_many 75 = .ok (.aload_n 0, 1) := by decide +kernel
theorem dX12_many_76 : decode cX12_many 76 = .ok (.getfield 257, 3) := by decide +kernel
theorem dX12_many_79 : decode cX12_many 79 = .ok (.invokevirtual 251, 3) := by decide +kernel
theorem dX12_many_82 : decode cX12_many 82 = .ok (.ireturn, 1) := by decide +kernel
theorem dX12_many_83 : decode cX12_many 83 = .ok (.aload_n 0, 1) := by decide +kernel
theorem dX12_many_84 : decode cX12_many 84 = .ok (.aload_n 0, 1) := by decide +kernel
theorem dX12_many_85 : decode cX12_many 85 = .ok (.getfield 260, 3) := by decide +kernel
theorem dX12_many_88 : decode cX12_many 88 = .ok (.invokevirtual 251, 3) := by decide +kernel
theorem dX12_many_91 : decode cX12_many 91 = .ok (.ireturn, 1) := by decide +kernel
theorem dX12_many_92 : decode cX12_many 92 = .ok (.aload_n 0, 1) := by decide +kernel
theorem dX12_many_93 : decode cX12_many 93 = .ok (.aload_n 0, 1) := by decide +kernel
theorem dX12_many_94 : decode cX12_many 94 = .ok (.iconst 1, 1) := by decide +kernel
theorem dX12_many_95 : decode cX12_many 95 = .ok (.invokevirtual 70, 3) := by decide +kernel
theorem dX12_many_98 : decode cX12_many 98 = .ok (.aload_n 0, 1) := by decide +kernel
theorem dX12_many_99 : decode cX12_many 99 = .ok (.iconst 0, 1) := by decide +kernel
theorem dX12_many_100 : decode cX12_many 100 = .ok (.invokevirtual 70, 3) := by decide +kernel
theorem dX12_many_103 : decode cX12_many 103 = .ok (.isub, 1) := by decide +kernel
theorem dX12_many_104 : decode cX12_many 104 = .ok (.aload_n 0, 1) := by decide +kernel
theorem dX12_many_105 : decode cX12_many 105 = .ok (.invokevirtual 263, 3) := by decide +kernel
theorem dX12_many_108 : decode cX12_many 108 = .ok (.iadd, 1) := by decide +kernel
theorem dX12_many_109 : decode cX12_many 109 = .ok (.invokevirtual 251, 3) := by decide +kernel
theorem dX12_many_112 : decode cX12_many 112 = .ok (.ireturn, 1) := by decide +kernel
theorem dX12_many_113 : decode cX12_many 113 = .ok (.aload_n 0, 1) := by decide +kernel
theorem dX12_many_114 : decode cX12_many 114 = .ok (.aload_n 0, 1) := by decide +kernel
theorem dX12_many_115 : decode cX12_many 115 = .ok (.invokevirtual 263, 3) := by decide +kernel
theorem dX12_many_118 : decode cX12_many 118 = .ok (.invokevirtual 251, 3) := by decide +kernel
theorem dX12_many_121 : decode cX12_many 121 = .ok (.ireturn, 1) := by decide +kernel
theorem dX12_many_122 : decode cX12_many 122 = .ok (.aload_n 0, 1) := by decide +kernel
theorem dX12_many_123 : decode cX12_many 123 = .ok (.iconst 1, 1) := by decide +kernel
theorem dX12_many_124 : decode cX12_many 124 = .ok (.invokevirtual 238, 3) := by decide +kernel
theorem dX12_many_127 : decode cX12_many 127 = .ok (.ireturn, 1) := by decide +kernel
theorem dX12_order_0 : decode cX12_order 0 = .ok (.aload_n 0, 1) := by decide +kernel
theorem dX12_order_1 : decode cX12_order 1 = .ok (.iload_n 1, 1) := by decide +kernel
theorem dX12_order_2 : decode cX12_order 2 = .ok (.invokevirtual 207, 3) := by decide +kernel
theorem dX12_order_5 : decode cX12_order 5 = .ok (.ifCond .eq 15, 3) := by decide +kernel
theorem dX12_order_20 : decode cX12_order 20 = .ok (.aload_n 0, 1) := by decide +kernel
theorem dX12_order_21 : decode cX12_order 21 = .ok (.iconst 2, 1) := by decide +kernel
theorem dX12_order_22 : decode cX12_order 22 = .ok (.invokevirtual 238, 3) := by decide +kernel
theorem dX12_order_25 : decode cX12_order 25 = .ok (.ireturn, 1) := by decide +kernel
theorem dX12_edge_0 : decode cX12_edge 0 = .ok (.iload_n 2, 1) := by decide +kernel
theorem dX12_edge_1 : decode cX12_edge 1 = .ok (.iconst 0, 1) := by decide +kernel
theorem dX12_edge_2 : decode cX12_edge 2 = .ok (.iconst 4, 1) := by decide +kernel
theorem dX12_edge_3 : decode cX12_edge 3 = .ok (.invokestatic 200, 3) := by decide +kernel
theorem dX12_edge_6 : decode cX12_edge 6 = .ok (.ifCond .ne 9, 3) := by decide +kernel
theorem dX12_edge_9 : decode cX12_edge 9 = .ok (.aload_n 0, 1) := by decide +kernel
theorem dX12_edge_10 : decode cX12_edge 10 = .ok (.iconst 1, 1) := by decide +kernel
theorem dX12_edge_11 : decode cX12_edge 11 = .ok (.invokevirtual 238, 3) := by decide +kernel
theorem dX12_edge_14 : decode cX12_edge 14 = .ok (.ireturn, 1) := by decide +kernel
theorem dX12_edge_15 : decode cX12_edge 15 = .ok (.aload_n 0, 1) := by decide +kernel
theorem dX12_edge_16 : decode cX12_edge 16 = .ok (.iload_n 1, 1) := by decide +kernel
theorem dX12_edge_17 : decode cX12_edge 17 = .ok (.invokevirtual 213, 3) := by decide +kernel
theorem dX12_edge_20 : decode cX12_edge 20 = .ok (.ifCond .ne 9, 3) := by decide +kernel
theorem dX12_edge_23 : decode cX12_edge 23 = .ok (.aload_n 0, 1) := by decide +kernel
theorem dX12_edge_24 : decode cX12_edge 24 = .ok (.iconst 2, 1) := by decide +kernel
theorem dX12_edge_25 : decode cX12_edge 25 = .ok (.invokevirtual 238, 3) := by decide +kernel
theorem dX12_edge_28 : decode cX12_edge 28 = .ok (.ireturn, 1) := by decide +kernel
theorem dX12_word_0 : decode cX12_word 0 = .ok (.iload_n 2, 1) := by decide +kernel
theorem dX12_word_1 : decode cX12_word 1 = .ok (.iconst 0, 1) := by decide +kernel
theorem dX12_word_2 : decode cX12_word 2 = .ok (.iconst 4, 1) := by decide +kernel
theorem dX12_word_3 : decode cX12_word 3 = .ok (.invokestatic 200, 3) := by decide +kernel
theorem dX12_word_6 : decode cX12_word 6 = .ok (.ifCond .ne 9, 3) := by decide +kernel
theorem dX12_word_9 : decode cX12_word 9 = .ok (.aload_n 0, 1) := by decide +kernel
theorem dX12_word_10 : decode cX12_word 10 = .ok (.iconst 1, 1) := by decide +kernel
theorem dX12_word_11 : decode cX12_word 11 = .ok (.invokevirtual 238, 3) := by decide +kernel
theorem dX12_word_14 : decode cX12_word 14 = .ok (.ireturn, 1) := by decide +kernel
theorem dX12_word_15 : decode cX12_word 15 = .ok (.aload_n 0, 1) := by decide +kernel
theorem dX12_word_16 : decode cX12_word 16 = .ok (.iload_n 1, 1) := by decide +kernel
theorem dX12_word_17 : decode cX12_word 17 = .ok (.invokevirtual 266, 3) := by decide +kernel
theorem dX12_word_20 : decode cX12_word 20 = .ok (.ifCond .ne 9, 3) := by decide +kernel
theorem dX12_word_23 : decode cX12_word 23 = .ok (.aload_n 0, 1) := by decide +kernel
theorem dX12_word_24 : decode cX12_word 24 = .ok (.iconst 2, 1) := by decide +kernel
theorem dX12_word_25 : decode cX12_word 25 = .ok (.invokevirtual 238, 3) := by decide +kernel
theorem dX12_word_28 : decode cX12_word 28 = .ok (.ireturn, 1) := by decide +kernel
theorem dX12_number__0 : decode cX12_number_ 0 = .ok (.iload_n 2, 1) := by decide +kernel
theorem dX12_number__1 : decode cX12_number_ 1 = .ok (.ifCond .ge 9, 3) := by decide +kernel
theorem dX12_number__4 : decode cX12_number_ 4 = .ok (.aload_n 0, 1) := by decide +kernel
theorem dX12_number__5 : decode cX12_number_ 5 = .ok (.iconst 1, 1) := by decide +kernel
theorem dX12_number__6 : decode cX12_number_ 6 = .ok (.invokevirtual 238, 3) := by decide +kernel
theorem dX12_number__9 : decode cX12_number_ 9 = .ok (.ireturn, 1) := by decide +kernel
theorem dX12_number__10 : decode cX12_number_ 10 = .ok (.aload_n 0, 1) := by decide +kernel
theorem dX12_number__11 : decode cX12_number_ 11 = .ok (.iload_n 1, 1) := by decide +kernel
theorem dX12_number__12 : decode cX12_number_ 12 = .ok (.invokevirtual 266, 3) := by decide +kernel
theorem dX12_number__15 : decode cX12_number_ 15 = .ok (.ifCond .ne 9, 3) := by decide +kernel
theorem dX12_number__18 : decode cX12_number_ 18 = .ok (.aload_n 0, 1) := by decide +kernel
theorem dX12_number__19 : decode cX12_number_ 19 = .ok (.iconst 2, 1) := by decide +kernel
theorem dX12_number__20 : decode cX12_number_ 20 = .ok (.invokevirtual 238, 3) := by decide +kernel
theorem dX12_number__23 : decode cX12_number_ 23 = .ok (.ireturn, 1) := by decide +kernel
theorem dX12_step__0 : decode cX12_step_ 0 = .ok (.iload_n 2, 1) := by decide +kernel
theorem dX12_step__1 : decode cX12_step_ 1 = .ok (.ifCond .ge 9, 3) := by decide +kernel
theorem dX12_step__4 : decode cX12_step_ 4 = .ok (.aload_n 0, 1) := by decide +kernel
theorem dX12_step__5 : decode cX12_step_ 5 = .ok (.iconst 1, 1) := by decide +kernel
theorem dX12_step__6 : decode cX12_step_ 6 = .ok (.invokevirtual 238, 3) := by decide +kernel
theorem dX12_step__9 : decode cX12_step_ 9 = .ok (.ireturn, 1) := by decide +kernel
theorem dX12_step__10 : decode cX12_step_ 10 = .ok (.aload_n 0, 1) := by decide +kernel
theorem dX12_step__11 : decode cX12_step_ 11 = .ok (.iload_n 1, 1) := by decide +kernel
theorem dX12_step__12 : decode cX12_step_ 12 = .ok (.invokevirtual 266, 3) := by decide +kernel
theorem dX12_step__15 : decode cX12_step_ 15 = .ok (.ifCond .ne 9, 3) := by decide +kernel
theorem dX12_step__18 : decode cX12_step_ 18 = .ok (.aload_n 0, 1) := by decide +kernel
theorem dX12_step__19 : decode cX12_step_ 19 = .ok (.iconst 2, 1) := by decide +kernel
theorem dX12_step__20 : decode cX12_step_ 20 = .ok (.invokevirtual 238, 3) := by decide +kernel
theorem dX12_step__23 : decode cX12_step_ 23 = .ok (.ireturn, 1) := by decide +kernel
theorem dX12_acted_0 : decode cX12_acted 0 = .ok (.aload_n 0, 1) := by decide +kernel
theorem dX12_acted_1 : decode cX12_acted 1 = .ok (.getfield 257, 3) := by decide +kernel
theorem dX12_acted_4 : decode cX12_acted 4 = .ok (.bipush 8, 2) := by decide +kernel
theorem dX12_acted_6 : decode cX12_acted 6 = .ok (.if_icmp .ne 51, 3) := by decide +kernel
theorem dX12_acted_57 : decode cX12_acted 57 = .ok (.aload_n 0, 1) := by decide +kernel
theorem dX12_acted_58 : decode cX12_acted 58 = .ok (.iload_n 1, 1) := by decide +kernel
theorem dX12_acted_59 : decode cX12_acted 59 = .ok (.sipush 1108, 3) := by decide +kernel
theorem dX12_acted_62 : decode cX12_acted 62 = .ok (.sipush 554, 3) := by decide +kernel
theorem dX12_acted_65 : decode cX12_acted 65 = .ok (.aload_n 0, 1) := by decide +kernel
theorem dX12_acted_66 : decode cX12_acted 66 = .ok (.getfield 257, 3) := by decide +kernel
theorem dX12_acted_69 : decode cX12_acted 69 = .ok (.imul, 1) := by decide +kernel
theorem dX12_acted_70 : decode cX12_acted 70 = .ok (.iadd, 1) := by decide +kernel
theorem dX12_acted_71 : decode cX12_acted 71 = .ok (.invokevirtual 241, 3) := by decide +kernel
theorem dX12_acted_74 : decode cX12_acted 74 = .ok (.aload_n 0, 1) := by decide +kernel
theorem dX12_acted_75 : decode cX12_acted 75 = .ok (.dup, 1) := by decide +kernel
theorem dX12_acted_76 : decode cX12_acted 76 = .ok (.getfield 257, 3) := by decide +kernel
theorem dX12_acted_79 : decode cX12_acted 79 = .ok (.iconst 1, 1) := by decide +kernel
theorem dX12_acted_80 : decode cX12_acted 80 = .ok (.iadd, 1) := by decide +kernel
theorem dX12_acted_81 : decode cX12_acted 81 = .ok (.putfield 257, 3) := by decide +kernel
theorem dX12_acted_84 : decode cX12_acted 84 = .ok (.return_, 1) := by decide +kernel
theorem dX12_take_0 : decode cX12_take 0 = .ok (.iload_n 2, 1) := by decide +kernel
theorem dX12_take_1 : decode cX12_take 1 = .ok (.ifCond .ge 9, 3) := by decide +kernel
theorem dX12_take_4 : decode cX12_take 4 = .ok (.aload_n 0, 1) := by decide +kernel
theorem dX12_take_5 : decode cX12_take 5 = .ok (.iconst 1, 1) := by decide +kernel
theorem dX12_take_6 : decode cX12_take 6 = .ok (.invokevirtual 238, 3) := by decide +kernel
theorem dX12_take_9 : decode cX12_take 9 = .ok (.ireturn, 1) := by decide +kernel
theorem dX12_take_10 : decode cX12_take 10 = .ok (.aload_n 0, 1) := by decide +kernel
theorem dX12_take_11 : decode cX12_take 11 = .ok (.iload_n 1, 1) := by decide +kernel
theorem dX12_take_12 : decode cX12_take 12 = .ok (.invokevirtual 207, 3) := by decide +kernel
theorem dX12_take_15 : decode cX12_take 15 = .ok (.ifCond .ne 9, 3) := by decide +kernel
theorem dX12_take_18 : decode cX12_take 18 = .ok (.aload_n 0, 1) := by decide +kernel
theorem dX12_take_19 : decode cX12_take 19 = .ok (.iconst 2, 1) := by decide +kernel
theorem dX12_take_20 : decode cX12_take 20 = .ok (.invokevirtual 238, 3) := by decide +kernel
theorem dX12_take_23 : decode cX12_take 23 = .ok (.ireturn, 1) := by decide +kernel
theorem dX12_form_0 : decode cX12_form 0 = .ok (.aload_n 0, 1) := by decide +kernel
theorem dX12_form_1 : decode cX12_form 1 = .ok (.iload_n 1, 1) := by decide +kernel
theorem dX12_form_2 : decode cX12_form 2 = .ok (.invokevirtual 266, 3) := by decide +kernel
theorem dX12_form_5 : decode cX12_form 5 = .ok (.ifCond .ne 9, 3) := by decide +kernel
theorem dX12_form_8 : decode cX12_form 8 = .ok (.aload_n 0, 1) := by decide +kernel
theorem dX12_form_9 : decode cX12_form 9 = .ok (.iconst 2, 1) := by decide +kernel
theorem dX12_form_10 : decode cX12_form 10 = .ok (.invokevirtual 238, 3) := by decide +kernel
theorem dX12_form_13 : decode cX12_form 13 = .ok (.ireturn, 1) := by decide +kernel
theorem dX12_times_0 : decode cX12_times 0 = .ok (.aload_n 0, 1) := by decide +kernel
theorem dX12_times_1 : decode cX12_times 1 = .ok (.iload_n 1, 1) := by decide +kernel
theorem dX12_times_2 : decode cX12_times 2 = .ok (.invokevirtual 266, 3) := by decide +kernel
theorem dX12_times_5 : decode cX12_times 5 = .ok (.ifCond .eq 11, 3) := by decide +kernel
theorem dX12_times_16 : decode cX12_times 16 = .ok (.aload_n 0, 1) := by decide +kernel
theorem dX12_times_17 : decode cX12_times 17 = .ok (.iconst 2, 1) := by decide +kernel
theorem dX12_times_18 : decode cX12_times 18 = .ok (.invokevirtual 238, 3) := by decide +kernel
theorem dX12_times_21 : decode cX12_times 21 = .ok (.ireturn, 1) := by decide +kernel
theorem dX12_turned_0 : decode cX12_turned 0 = .ok (.aload_n 0, 1) := by decide +kernel
theorem dX12_turned_1 : decode cX12_turned 1 = .ok (.iload_n 1, 1) := by decide +kernel
theorem dX12_turned_2 : decode cX12_turned 2 = .ok (.invokevirtual 266, 3) := by decide +kernel
theorem dX12_turned_5 : decode cX12_turned 5 = .ok (.ifCond .ne 9, 3) := by decide +kernel
theorem dX12_turned_8 : decode cX12_turned 8 = .ok (.aload_n 0, 1) := by decide +kernel
theorem dX12_turned_9 : decode cX12_turned 9 = .ok (.iconst 2, 1) := by decide +kernel
theorem dX12_turned_10 : decode cX12_turned 10 = .ok (.invokevirtual 238, 3) := by decide +kernel
theorem dX12_turned_13 : decode cX12_turned 13 = .ok (.ireturn, 1) := by decide +kernel
theorem dX12_power_0 : decode cX12_power 0 = .ok (.iload_n 2, 1) := by decide +kernel
theorem dX12_power_1 : decode cX12_power 1 = .ok (.bipush (-9), 2) := by decide +kernel
theorem dX12_power_3 : decode cX12_power 3 = .ok (.bipush 9, 2) := by decide +kernel
theorem dX12_power_5 : decode cX12_power 5 = .ok (.invokestatic 200, 3) := by decide +kernel
theorem dX12_power_8 : decode cX12_power 8 = .ok (.ifCond .ne 9, 3) := by decide +kernel
theorem dX12_power_11 : decode cX12_power 11 = .ok (.aload_n 0, 1) := by decide +kernel
theorem dX12_power_12 : decode cX12_power 12 = .ok (.iconst 1, 1) := by decide +kernel
theorem dX12_power_13 : decode cX12_power 13 = .ok (.invokevirtual 238, 3) := by decide +kernel
theorem dX12_power_16 : decode cX12_power 16 = .ok (.ireturn, 1) := by decide +kernel
theorem dX12_power_17 : decode cX12_power 17 = .ok (.aload_n 0, 1) := by decide +kernel
theorem dX12_power_18 : decode cX12_power 18 = .ok (.iload_n 1, 1) := by decide +kernel
theorem dX12_power_19 : decode cX12_power 19 = .ok (.invokevirtual 266, 3) := by decide +kernel
theorem dX12_power_22 : decode cX12_power 22 = .ok (.ifCond .ne 9, 3) := by decide +kernel
theorem dX12_power_25 : decode cX12_power 25 = .ok (.aload_n 0, 1) := by decide +kernel
theorem dX12_power_26 : decode cX12_power 26 = .ok (.iconst 2, 1) := by decide +kernel
theorem dX12_power_27 : decode cX12_power 27 = .ok (.invokevirtual 238, 3) := by decide +kernel
theorem dX12_power_30 : decode cX12_power 30 = .ok (.ireturn, 1) := by decide +kernel
theorem dX12_wrongLoop_0 : decode cX12_wrongLoop 0 = .ok (.aload_n 0, 1) := by decide +kernel
theorem dX12_wrongLoop_1 : decode cX12_wrongLoop 1 = .ok (.iload_n 1, 1) := by decide +kernel
theorem dX12_wrongLoop_2 : decode cX12_wrongLoop 2 = .ok (.invokevirtual 266, 3) := by decide +kernel
theorem dX12_wrongLoop_5 : decode cX12_wrongLoop 5 = .ok (.ifCond .ne 7, 3) := by decide +kernel
theorem dX12_wrongLoop_8 : decode cX12_wrongLoop 8 = .ok (.iconst 2, 1) := by decide +kernel
theorem dX12_wrongLoop_9 : decode cX12_wrongLoop 9 = .ok (.goto 16, 3) := by decide +kernel
theorem dX12_wrongLoop_25 : decode cX12_wrongLoop 25 = .ok (.ireturn, 1) := by decide +kernel
theorem dX12_core_0 : decode cX12_core 0 = .ok (.aload_n 0, 1) := by decide +kernel
theorem dX12_core_1 : decode cX12_core 1 = .ok (.iload_n 1, 1) := by decide +kernel
theorem dX12_core_2 : decode cX12_core 2 = .ok (.invokevirtual 266, 3) := by decide +kernel
theorem dX12_core_5 : decode cX12_core 5 = .ok (.ifCond .ne 9, 3) := by decide +kernel
theorem dX12_core_8 : decode cX12_core 8 = .ok (.aload_n 0, 1) := by decide +kernel
theorem dX12_core_9 : decode cX12_core 9 = .ok (.iconst 2, 1) := by decide +kernel
theorem dX12_core_10 : decode cX12_core 10 = .ok (.invokevirtual 238, 3) := by decide +kernel
theorem dX12_core_13 : decode cX12_core 13 = .ok (.ireturn, 1) := by decide +kernel
theorem dX12_drop_0 : decode cX12_drop 0 = .ok (.aload_n 0, 1) := by decide +kernel
theorem dX12_drop_1 : decode cX12_drop 1 = .ok (.iload_n 1, 1) := by decide +kernel
theorem dX12_drop_2 : decode cX12_drop 2 = .ok (.invokevirtual 266, 3) := by decide +kernel
theorem dX12_drop_5 : decode cX12_drop 5 = .ok (.ifCond .ne 9, 3) := by decide +kernel
theorem dX12_drop_8 : decode cX12_drop 8 = .ok (.aload_n 0, 1) := by decide +kernel
theorem dX12_drop_9 : decode cX12_drop 9 = .ok (.iconst 2, 1) := by decide +kernel
theorem dX12_drop_10 : decode cX12_drop 10 = .ok (.invokevirtual 238, 3) := by decide +kernel
theorem dX12_drop_13 : decode cX12_drop 13 = .ok (.ireturn, 1) := by decide +kernel
theorem dX12_undo_0 : decode cX12_undo 0 = .ok (.aload_n 0, 1) := by decide +kernel
theorem dX12_undo_1 : decode cX12_undo 1 = .ok (.getfield 257, 3) := by decide +kernel
theorem dX12_undo_4 : decode cX12_undo 4 = .ok (.ifCond .ne 9, 3) := by decide +kernel
theorem dX12_undo_7 : decode cX12_undo 7 = .ok (.aload_n 0, 1) := by decide +kernel
theorem dX12_undo_8 : decode cX12_undo 8 = .ok (.iconst 5, 1) := by decide +kernel
theorem dX12_undo_9 : decode cX12_undo 9 = .ok (.invokevirtual 238, 3) := by decide +kernel
theorem dX12_undo_12 : decode cX12_undo 12 = .ok (.ireturn, 1) := by decide +kernel
theorem dX12_mark_0 : decode cX12_mark 0 = .ok (.aload_n 0, 1) := by decide +kernel
theorem dX12_mark_1 : decode cX12_mark 1 = .ok (.getfield 260, 3) := by decide +kernel
theorem dX12_mark_4 : decode cX12_mark 4 = .ok (.iconst 3, 1) := by decide +kernel
theorem dX12_mark_5 : decode cX12_mark 5 = .ok (.if_icmp .ne 9, 3) := by decide +kernel
theorem dX12_mark_14 : decode cX12_mark 14 = .ok (.aload_n 0, 1) := by decide +kernel
theorem dX12_mark_15 : decode cX12_mark 15 = .ok (.iconst 0, 1) := by decide +kernel
theorem dX12_mark_16 : decode cX12_mark 16 = .ok (.sipush 5540, 3) := by decide +kernel
theorem dX12_mark_19 : decode cX12_mark 19 = .ok (.sipush 554, 3) := by decide +kernel
theorem dX12_mark_22 : decode cX12_mark 22 = .ok (.aload_n 0, 1) := by decide +kernel
theorem dX12_mark_23 : decode cX12_mark 23 = .ok (.getfield 260, 3) := by decide +kernel
theorem dX12_mark_26 : decode cX12_mark 26 = .ok (.imul, 1) := by decide +kernel
theorem dX12_mark_27 : decode cX12_mark 27 = .ok (.iadd, 1) := by decide +kernel
theorem dX12_mark_28 : decode cX12_mark 28 = .ok (.invokevirtual 241, 3) := by decide +kernel
theorem dX12_mark_31 : decode cX12_mark 31 = .ok (.aload_n 0, 1) := by decide +kernel
theorem dX12_mark_32 : decode cX12_mark 32 = .ok (.dup, 1) := by decide +kernel
theorem dX12_mark_33 : decode cX12_mark 33 = .ok (.getfield 260, 3) := by decide +kernel
theorem dX12_mark_36 : decode cX12_mark 36 = .ok (.iconst 1, 1) := by decide +kernel
theorem dX12_mark_37 : decode cX12_mark 37 = .ok (.iadd, 1) := by decide +kernel
theorem dX12_mark_38 : decode cX12_mark 38 = .ok (.putfield 260, 3) := by decide +kernel
theorem dX12_mark_41 : decode cX12_mark 41 = .ok (.aload_n 0, 1) := by decide +kernel
theorem dX12_mark_42 : decode cX12_mark 42 = .ok (.aload_n 0, 1) := by decide +kernel
theorem dX12_mark_43 : decode cX12_mark 43 = .ok (.getfield 260, 3) := by decide +kernel
theorem dX12_mark_46 : decode cX12_mark 46 = .ok (.invokevirtual 251, 3) := by decide +kernel
theorem dX12_mark_49 : decode cX12_mark 49 = .ok (.ireturn, 1) := by decide +kernel
theorem dX12_back_0 : decode cX12_back 0 = .ok (.aload_n 0, 1) := by decide +kernel
theorem dX12_back_1 : decode cX12_back 1 = .ok (.getfield 260, 3) := by decide +kernel
theorem dX12_back_4 : decode cX12_back 4 = .ok (.ifCond .ne 9, 3) := by decide +kernel
theorem dX12_back_7 : decode cX12_back 7 = .ok (.aload_n 0, 1) := by decide +kernel
theorem dX12_back_8 : decode cX12_back 8 = .ok (.iconst 5, 1) := by decide +kernel
theorem dX12_back_9 : decode cX12_back 9 = .ok (.invokevirtual 238, 3) := by decide +kernel
theorem dX12_back_12 : decode cX12_back 12 = .ok (.ireturn, 1) := by decide +kernel
theorem dX12_alike_0 : decode cX12_alike 0 = .ok (.aload_n 0, 1) := by decide +kernel
theorem dX12_alike_1 : decode cX12_alike 1 = .ok (.iload_n 1, 1) := by decide +kernel
theorem dX12_alike_2 : decode cX12_alike 2 = .ok (.invokevirtual 266, 3) := by decide +kernel
theorem dX12_alike_5 : decode cX12_alike 5 = .ok (.ifCond .eq 32, 3) := by decide +kernel
theorem dX12_alike_37 : decode cX12_alike 37 = .ok (.aload_n 0, 1) := by decide +kernel
theorem dX12_alike_38 : decode cX12_alike 38 = .ok (.iconst 2, 1) := by decide +kernel
theorem dX12_alike_39 : decode cX12_alike 39 = .ok (.invokevirtual 238, 3) := by decide +kernel
theorem dX12_alike_42 : decode cX12_alike 42 = .ok (.ireturn, 1) := by decide +kernel
theorem dX12_alikes_0 : decode cX12_alikes 0 = .ok (.aload_n 0, 1) := by decide +kernel
theorem dX12_alikes_1 : decode cX12_alikes 1 = .ok (.iload_n 1, 1) := by decide +kernel
theorem dX12_alikes_2 : decode cX12_alikes 2 = .ok (.invokevirtual 266, 3) := by decide +kernel
theorem dX12_alikes_5 : decode cX12_alikes 5 = .ok (.ifCond .ne 9, 3) := by decide +kernel
theorem dX12_alikes_8 : decode cX12_alikes 8 = .ok (.aload_n 0, 1) := by decide +kernel
theorem dX12_alikes_9 : decode cX12_alikes 9 = .ok (.iconst 2, 1) := by decide +kernel
theorem dX12_alikes_10 : decode cX12_alikes 10 = .ok (.invokevirtual 238, 3) := by decide +kernel
theorem dX12_alikes_13 : decode cX12_alikes 13 = .ok (.ireturn, 1) := by decide +kernel
theorem dX12_twin_0 : decode cX12_twin 0 = .ok (.aload_n 0, 1) := by decide +kernel
theorem dX12_twin_1 : decode cX12_twin 1 = .ok (.iload_n 1, 1) := by decide +kernel
theorem dX12_twin_2 : decode cX12_twin 2 = .ok (.invokevirtual 266, 3) := by decide +kernel
theorem dX12_twin_5 : decode cX12_twin 5 = .ok (.ifCond .ne 9, 3) := by decide +kernel
theorem dX12_twin_8 : decode cX12_twin 8 = .ok (.aload_n 0, 1) := by decide +kernel
theorem dX12_twin_9 : decode cX12_twin 9 = .ok (.iconst 2, 1) := by decide +kernel
theorem dX12_twin_10 : decode cX12_twin 10 = .ok (.invokevirtual 238, 3) := by decide +kernel
theorem dX12_twin_13 : decode cX12_twin 13 = .ok (.ireturn, 1) := by decide +kernel
theorem dX12_steps_0 : decode cX12_steps 0 = .ok (.aload_n 0, 1) := by decide +kernel
theorem dX12_steps_1 : decode cX12_steps 1 = .ok (.iload_n 1, 1) := by decide +kernel
theorem dX12_steps_2 : decode cX12_steps 2 = .ok (.invokevirtual 266, 3) := by decide +kernel
theorem dX12_steps_5 : decode cX12_steps 5 = .ok (.ifCond .ne 9, 3) := by decide +kernel
theorem dX12_steps_8 : decode cX12_steps 8 = .ok (.aload_n 0, 1) := by decide +kernel
theorem dX12_steps_9 : decode cX12_steps 9 = .ok (.iconst 2, 1) := by decide +kernel
theorem dX12_steps_10 : decode cX12_steps 10 = .ok (.invokevirtual 238, 3) := by decide +kernel
theorem dX12_steps_13 : decode cX12_steps 13 = .ok (.ireturn, 1) := by decide +kernel
theorem dX12_length_0 : decode cX12_length 0 = .ok (.aload_n 0, 1) := by decide +kernel
theorem dX12_length_1 : decode cX12_length 1 = .ok (.iload_n 1, 1) := by decide +kernel
theorem dX12_length_2 : decode cX12_length 2 = .ok (.invokevirtual 293, 3) := by decide +kernel
theorem dX12_length_5 : decode cX12_length 5 = .ok (.istore_n 2, 1) := by decide +kernel
theorem dX12_length_6 : decode cX12_length 6 = .ok (.iload_n 2, 1) := by decide +kernel
theorem dX12_length_7 : decode cX12_length 7 = .ok (.ifCond .le 9, 3) := by decide +kernel
theorem dX12_length_10 : decode cX12_length 10 = .ok (.aload_n 0, 1) := by decide +kernel
theorem dX12_length_11 : decode cX12_length 11 = .ok (.iload_n 2, 1) := by decide +kernel
theorem dX12_length_12 : decode cX12_length 12 = .ok (.invokevirtual 238, 3) := by decide +kernel
theorem dX12_length_15 : decode cX12_length 15 = .ok (.ireturn, 1) := by decide +kernel
theorem dX12_orderOf_0 : decode cX12_orderOf 0 = .ok (.aload_n 0, 1) := by decide +kernel
theorem dX12_orderOf_1 : decode cX12_orderOf 1 = .ok (.iload_n 1, 1) := by decide +kernel
theorem dX12_orderOf_2 : decode cX12_orderOf 2 = .ok (.invokevirtual 293, 3) := by decide +kernel
theorem dX12_orderOf_5 : decode cX12_orderOf 5 = .ok (.istore_n 2, 1) := by decide +kernel
theorem dX12_orderOf_6 : decode cX12_orderOf 6 = .ok (.iload_n 2, 1) := by decide +kernel
theorem dX12_orderOf_7 : decode cX12_orderOf 7 = .ok (.ifCond .le 9, 3) := by decide +kernel
theorem dX12_orderOf_10 : decode cX12_orderOf 10 = .ok (.aload_n 0, 1) := by decide +kernel
theorem dX12_orderOf_11 : decode cX12_orderOf 11 = .ok (.iload_n 2, 1) := by decide +kernel
theorem dX12_orderOf_12 : decode cX12_orderOf 12 = .ok (.invokevirtual 238, 3) := by decide +kernel
theorem dX12_orderOf_15 : decode cX12_orderOf 15 = .ok (.ireturn, 1) := by decide +kernel
theorem dX12_wrongLoops_0 : decode cX12_wrongLoops 0 = .ok (.aload_n 0, 1) := by decide +kernel
theorem dX12_wrongLoops_1 : decode cX12_wrongLoops 1 = .ok (.iload_n 1, 1) := by decide +kernel
theorem dX12_wrongLoops_2 : decode cX12_wrongLoops 2 = .ok (.invokevirtual 266, 3) := by decide +kernel
theorem dX12_wrongLoops_5 : decode cX12_wrongLoops 5 = .ok (.ifCond .eq 11, 3) := by decide +kernel
theorem dX12_wrongLoops_16 : decode cX12_wrongLoops 16 = .ok (.iconst 2, 1) := by decide +kernel
theorem dX12_wrongLoops_17 : decode cX12_wrongLoops 17 = .ok (.goto 8, 3) := by decide +kernel
theorem dX12_wrongLoops_25 : decode cX12_wrongLoops 25 = .ok (.istore_n 3, 1) := by decide +kernel
theorem dX12_wrongLoops_26 : decode cX12_wrongLoops 26 = .ok (.iload_n 3, 1) := by decide +kernel
theorem dX12_wrongLoops_27 : decode cX12_wrongLoops 27 = .ok (.ifCond .le 7, 3) := by decide +kernel
theorem dX12_wrongLoops_30 : decode cX12_wrongLoops 30 = .ok (.iload_n 3, 1) := by decide +kernel
theorem dX12_wrongLoops_31 : decode cX12_wrongLoops 31 = .ok (.goto 8, 3) := by decide +kernel
theorem dX12_wrongLoops_39 : decode cX12_wrongLoops 39 = .ok (.ireturn, 1) := by decide +kernel
theorem dX12_kin_0 : decode cX12_kin 0 = .ok (.aload_n 0, 1) := by decide +kernel
theorem dX12_kin_1 : decode cX12_kin 1 = .ok (.iload_n 1, 1) := by decide +kernel
theorem dX12_kin_2 : decode cX12_kin 2 = .ok (.iload_n 2, 1) := by decide +kernel
theorem dX12_kin_3 : decode cX12_kin 3 = .ok (.invokevirtual 316, 3) := by decide +kernel
theorem dX12_kin_6 : decode cX12_kin 6 = .ok (.istore_n 3, 1) := by decide +kernel
theorem dX12_kin_7 : decode cX12_kin 7 = .ok (.iload_n 3, 1) := by decide +kernel
theorem dX12_kin_8 : decode cX12_kin 8 = .ok (.ifCond .le 11, 3) := by decide +kernel
theorem dX12_kin_11 : decode cX12_kin 11 = .ok (.aload_n 0, 1) := by decide +kernel
theorem dX12_kin_12 : decode cX12_kin 12 = .ok (.iload_n 3, 1) := by decide +kernel
theorem dX12_kin_13 : decode cX12_kin 13 = .ok (.invokevirtual 238, 3) := by decide +kernel
theorem dX12_kin_16 : decode cX12_kin 16 = .ok (.goto 21, 3) := by decide +kernel
theorem dX12_kin_37 : decode cX12_kin 37 = .ok (.ireturn, 1) := by decide +kernel
theorem dX12_kinBy_0 : decode cX12_kinBy 0 = .ok (.iload_n 3, 1) := by decide +kernel
theorem dX12_kinBy_1 : decode cX12_kinBy 1 = .ok (.iconst 0, 1) := by decide +kernel
theorem dX12_kinBy_2 : decode cX12_kinBy 2 = .ok (.iconst 1, 1) := by decide +kernel
theorem dX12_kinBy_3 : decode cX12_kinBy 3 = .ok (.invokestatic 200, 3) := by decide +kernel
theorem dX12_kinBy_6 : decode cX12_kinBy 6 = .ok (.ifCond .eq 12, 3) := by decide +kernel
theorem dX12_kinBy_9 : decode cX12_kinBy 9 = .ok (.aload_n 0, 1) := by decide +kernel
theorem dX12_kinBy_10 : decode cX12_kinBy 10 = .ok (.iload_n 1, 1) := by decide +kernel
theorem dX12_kinBy_11 : decode cX12_kinBy 11 = .ok (.iload_n 2, 1) := by decide +kernel
theorem dX12_kinBy_12 : decode cX12_kinBy 12 = .ok (.invokevirtual 316, 3) := by decide +kernel
theorem dX12_kinBy_15 : decode cX12_kinBy 15 = .ok (.goto 4, 3) := by decide +kernel
theorem dX12_kinBy_18 : decode cX12_kinBy 18 = .ok (.iconst 1, 1) := by decide +kernel
theorem dX12_kinBy_19 : decode cX12_kinBy 19 = .ok (.istore 4, 2) := by decide +kernel
theorem dX12_kinBy_21 : decode cX12_kinBy 21 = .ok (.iload 4, 2) := by decide +kernel
theorem dX12_kinBy_23 : decode cX12_kinBy 23 = .ok (.ifCond .ne 15, 3) := by decide +kernel
theorem dX12_kinBy_38 : decode cX12_kinBy 38 = .ok (.iload 4, 2) := by decide +kernel
theorem dX12_kinBy_40 : decode cX12_kinBy 40 = .ok (.ifCond .le 12, 3) := by decide +kernel
theorem dX12_kinBy_43 : decode cX12_kinBy 43 = .ok (.aload_n 0, 1) := by decide +kernel
theorem dX12_kinBy_44 : decode cX12_kinBy 44 = .ok (.iload 4, 2) := by decide +kernel
theorem dX12_kinBy_46 : decode cX12_kinBy 46 = .ok (.invokevirtual 238, 3) := by decide +kernel
theorem dX12_kinBy_49 : decode cX12_kinBy 49 = .ok (.goto 22, 3) := by decide +kernel
theorem dX12_kinBy_71 : decode cX12_kinBy 71 = .ok (.ireturn, 1) := by decide +kernel
theorem dX12_kins_0 : decode cX12_kins 0 = .ok (.aload_n 0, 1) := by decide +kernel
theorem dX12_kins_1 : decode cX12_kins 1 = .ok (.iload_n 1, 1) := by decide +kernel
theorem dX12_kins_2 : decode cX12_kins 2 = .ok (.invokevirtual 293, 3) := by decide +kernel
theorem dX12_kins_5 : decode cX12_kins 5 = .ok (.istore_n 2, 1) := by decide +kernel
theorem dX12_kins_6 : decode cX12_kins 6 = .ok (.iload_n 2, 1) := by decide +kernel
theorem dX12_kins_7 : decode cX12_kins 7 = .ok (.ifCond .le 9, 3) := by decide +kernel
theorem dX12_kins_10 : decode cX12_kins 10 = .ok (.aload_n 0, 1) := by decide +kernel
theorem dX12_kins_11 : decode cX12_kins 11 = .ok (.iload_n 2, 1) := by decide +kernel
theorem dX12_kins_12 : decode cX12_kins 12 = .ok (.invokevirtual 238, 3) := by decide +kernel
theorem dX12_kins_15 : decode cX12_kins 15 = .ok (.ireturn, 1) := by decide +kernel
theorem dX12_net_0 : decode cX12_net 0 = .ok (.aload_n 0, 1) := by decide +kernel
theorem dX12_net_1 : decode cX12_net 1 = .ok (.iload_n 1, 1) := by decide +kernel
theorem dX12_net_2 : decode cX12_net 2 = .ok (.invokevirtual 266, 3) := by decide +kernel
theorem dX12_net_5 : decode cX12_net 5 = .ok (.ifCond .eq 11, 3) := by decide +kernel
theorem dX12_net_16 : decode cX12_net 16 = .ok (.aload_n 0, 1) := by decide +kernel
theorem dX12_net_17 : decode cX12_net 17 = .ok (.iconst 2, 1) := by decide +kernel
theorem dX12_net_18 : decode cX12_net 18 = .ok (.invokevirtual 238, 3) := by decide +kernel
theorem dX12_net_21 : decode cX12_net 21 = .ok (.ireturn, 1) := by decide +kernel
theorem dX12_central_0 : decode cX12_central 0 = .ok (.iload_n 2, 1) := by decide +kernel
theorem dX12_central_1 : decode cX12_central 1 = .ok (.ifCond .ge 9, 3) := by decide +kernel
theorem dX12_central_4 : decode cX12_central 4 = .ok (.aload_n 0, 1) := by decide +kernel
theorem dX12_central_5 : decode cX12_central 5 = .ok (.iconst 1, 1) := by decide +kernel
theorem dX12_central_6 : decode cX12_central 6 = .ok (.invokevirtual 238, 3) := by decide +kernel
theorem dX12_central_9 : decode cX12_central 9 = .ok (.ireturn, 1) := by decide +kernel
theorem dX12_central_10 : decode cX12_central 10 = .ok (.aload_n 0, 1) := by decide +kernel
theorem dX12_central_11 : decode cX12_central 11 = .ok (.iload_n 1, 1) := by decide +kernel
theorem dX12_central_12 : decode cX12_central 12 = .ok (.invokevirtual 207, 3) := by decide +kernel
theorem dX12_central_15 : decode cX12_central 15 = .ok (.ifCond .ne 9, 3) := by decide +kernel
theorem dX12_central_18 : decode cX12_central 18 = .ok (.aload_n 0, 1) := by decide +kernel
theorem dX12_central_19 : decode cX12_central 19 = .ok (.iconst 2, 1) := by decide +kernel
theorem dX12_central_20 : decode cX12_central 20 = .ok (.invokevirtual 238, 3) := by decide +kernel
theorem dX12_central_23 : decode cX12_central 23 = .ok (.ireturn, 1) := by decide +kernel
theorem dX12_centre_0 : decode cX12_centre 0 = .ok (.aload_n 0, 1) := by decide +kernel
theorem dX12_centre_1 : decode cX12_centre 1 = .ok (.iload_n 1, 1) := by decide +kernel
theorem dX12_centre_2 : decode cX12_centre 2 = .ok (.invokevirtual 207, 3) := by decide +kernel
theorem dX12_centre_5 : decode cX12_centre 5 = .ok (.ifCond .ne 9, 3) := by decide +kernel
theorem dX12_centre_8 : decode cX12_centre 8 = .ok (.aload_n 0, 1) := by decide +kernel
theorem dX12_centre_9 : decode cX12_centre 9 = .ok (.iconst 2, 1) := by decide +kernel
theorem dX12_centre_10 : decode cX12_centre 10 = .ok (.invokevirtual 238, 3) := by decide +kernel
theorem dX12_centre_13 : decode cX12_centre 13 = .ok (.ireturn, 1) := by decide +kernel
theorem dX12_having_0 : decode cX12_having 0 = .ok (.iload_n 2, 1) := by decide +kernel
theorem dX12_having_1 : decode cX12_having 1 = .ok (.iconst 1, 1) := by decide +kernel
theorem dX12_having_2 : decode cX12_having 2 = .ok (.if_icmp .ge 9, 3) := by decide +kernel
theorem dX12_having_5 : decode cX12_having 5 = .ok (.aload_n 0, 1) := by decide +kernel
theorem dX12_having_6 : decode cX12_having 6 = .ok (.iconst 1, 1) := by decide +kernel
theorem dX12_having_7 : decode cX12_having 7 = .ok (.invokevirtual 238, 3) := by decide +kernel
theorem dX12_having_10 : decode cX12_having 10 = .ok (.ireturn, 1) := by decide +kernel
theorem dX12_having_11 : decode cX12_having 11 = .ok (.aload_n 0, 1) := by decide +kernel
theorem dX12_having_12 : decode cX12_having 12 = .ok (.iload_n 1, 1) := by decide +kernel
theorem dX12_having_13 : decode cX12_having 13 = .ok (.invokevirtual 207, 3) := by decide +kernel
theorem dX12_having_16 : decode cX12_having 16 = .ok (.ifCond .ne 9, 3) := by decide +kernel
theorem dX12_having_19 : decode cX12_having 19 = .ok (.aload_n 0, 1) := by decide +kernel
theorem dX12_having_20 : decode cX12_having 20 = .ok (.iconst 2, 1) := by decide +kernel
theorem dX12_having_21 : decode cX12_having 21 = .ok (.invokevirtual 238, 3) := by decide +kernel
theorem dX12_having_24 : decode cX12_having 24 = .ok (.ireturn, 1) := by decide +kernel
theorem dX12_root_0 : decode cX12_root 0 = .ok (.aload_n 0, 1) := by decide +kernel
theorem dX12_root_1 : decode cX12_root 1 = .ok (.iload_n 1, 1) := by decide +kernel
theorem dX12_root_2 : decode cX12_root 2 = .ok (.invokevirtual 293, 3) := by decide +kernel
theorem dX12_root_5 : decode cX12_root 5 = .ok (.istore_n 2, 1) := by decide +kernel
theorem dX12_root_6 : decode cX12_root 6 = .ok (.iload_n 2, 1) := by decide +kernel
theorem dX12_root_7 : decode cX12_root 7 = .ok (.ifCond .le 9, 3) := by decide +kernel
theorem dX12_root_10 : decode cX12_root 10 = .ok (.aload_n 0, 1) := by decide +kernel
theorem dX12_root_11 : decode cX12_root 11 = .ok (.iload_n 2, 1) := by decide +kernel
theorem dX12_root_12 : decode cX12_root 12 = .ok (.invokevirtual 238, 3) := by decide +kernel
theorem dX12_root_15 : decode cX12_root 15 = .ok (.ireturn, 1) := by decide +kernel
theorem dX12_swaps_0 : decode cX12_swaps 0 = .ok (.aload_n 0, 1) := by decide +kernel
theorem dX12_swaps_1 : decode cX12_swaps 1 = .ok (.iload_n 1, 1) := by decide +kernel
theorem dX12_swaps_2 : decode cX12_swaps 2 = .ok (.iload_n 2, 1) := by decide +kernel
theorem dX12_swaps_3 : decode cX12_swaps 3 = .ok (.invokevirtual 316, 3) := by decide +kernel
theorem dX12_swaps_6 : decode cX12_swaps 6 = .ok (.istore_n 3, 1) := by decide +kernel
theorem dX12_swaps_7 : decode cX12_swaps 7 = .ok (.iload_n 3, 1) := by decide +kernel
theorem dX12_swaps_8 : decode cX12_swaps 8 = .ok (.ifCond .le 9, 3) := by decide +kernel
theorem dX12_swaps_11 : decode cX12_swaps 11 = .ok (.aload_n 0, 1) := by decide +kernel
theorem dX12_swaps_12 : decode cX12_swaps 12 = .ok (.iload_n 3, 1) := by decide +kernel
theorem dX12_swaps_13 : decode cX12_swaps 13 = .ok (.invokevirtual 238, 3) := by decide +kernel
theorem dX12_swaps_16 : decode cX12_swaps 16 = .ok (.ireturn, 1) := by decide +kernel
theorem dX12_wrongPair_0 : decode cX12_wrongPair 0 = .ok (.aload_n 0, 1) := by decide +kernel
theorem dX12_wrongPair_1 : decode cX12_wrongPair 1 = .ok (.iload_n 1, 1) := by decide +kernel
theorem dX12_wrongPair_2 : decode cX12_wrongPair 2 = .ok (.invokevirtual 266, 3) := by decide +kernel
theorem dX12_wrongPair_5 : decode cX12_wrongPair 5 = .ok (.ifCond .eq 11, 3) := by decide +kernel
theorem dX12_wrongPair_16 : decode cX12_wrongPair 16 = .ok (.iconst 2, 1) := by decide +kernel
theorem dX12_wrongPair_17 : decode cX12_wrongPair 17 = .ok (.ireturn, 1) := by decide +kernel
theorem dX12_apart_0 : decode cX12_apart 0 = .ok (.aload_n 0, 1) := by decide +kernel
theorem dX12_apart_1 : decode cX12_apart 1 = .ok (.iload_n 1, 1) := by decide +kernel
theorem dX12_apart_2 : decode cX12_apart 2 = .ok (.iload_n 2, 1) := by decide +kernel
theorem dX12_apart_3 : decode cX12_apart 3 = .ok (.invokevirtual 332, 3) := by decide +kernel
theorem dX12_apart_6 : decode cX12_apart 6 = .ok (.istore_n 3, 1) := by decide +kernel
theorem dX12_apart_7 : decode cX12_apart 7 = .ok (.iload_n 3, 1) := by decide +kernel
theorem dX12_apart_8 : decode cX12_apart 8 = .ok (.ifCond .le 9, 3) := by decide +kernel
theorem dX12_apart_11 : decode cX12_apart 11 = .ok (.aload_n 0, 1) := by decide +kernel
theorem dX12_apart_12 : decode cX12_apart 12 = .ok (.iload_n 3, 1) := by decide +kernel
theorem dX12_apart_13 : decode cX12_apart 13 = .ok (.invokevirtual 238, 3) := by decide +kernel
theorem dX12_apart_16 : decode cX12_apart 16 = .ok (.ireturn, 1) := by decide +kernel
theorem dX12_moves_0 : decode cX12_moves 0 = .ok (.aload_n 0, 1) := by decide +kernel
theorem dX12_moves_1 : decode cX12_moves 1 = .ok (.iload_n 1, 1) := by decide +kernel
theorem dX12_moves_2 : decode cX12_moves 2 = .ok (.iload_n 2, 1) := by decide +kernel
theorem dX12_moves_3 : decode cX12_moves 3 = .ok (.invokevirtual 332, 3) := by decide +kernel
theorem dX12_moves_6 : decode cX12_moves 6 = .ok (.istore_n 3, 1) := by decide +kernel
theorem dX12_moves_7 : decode cX12_moves 7 = .ok (.iload_n 3, 1) := by decide +kernel
theorem dX12_moves_8 : decode cX12_moves 8 = .ok (.ifCond .ne 13, 3) := by decide +kernel
theorem dX12_moves_21 : decode cX12_moves 21 = .ok (.iload_n 3, 1) := by decide +kernel
theorem dX12_moves_22 : decode cX12_moves 22 = .ok (.ifCond .le 9, 3) := by decide +kernel
theorem dX12_moves_25 : decode cX12_moves 25 = .ok (.aload_n 0, 1) := by decide +kernel
theorem dX12_moves_26 : decode cX12_moves 26 = .ok (.iload_n 3, 1) := by decide +kernel
theorem dX12_moves_27 : decode cX12_moves 27 = .ok (.invokevirtual 238, 3) := by decide +kernel
theorem dX12_moves_30 : decode cX12_moves 30 = .ok (.ireturn, 1) := by decide +kernel
theorem dX12_way_0 : decode cX12_way 0 = .ok (.iload_n 3, 1) := by decide +kernel
theorem dX12_way_1 : decode cX12_way 1 = .ok (.ifCond .ge 7, 3) := by decide +kernel
theorem dX12_way_4 : decode cX12_way 4 = .ok (.iconst 1, 1) := by decide +kernel
theorem dX12_way_5 : decode cX12_way 5 = .ok (.goto 9, 3) := by decide +kernel
theorem dX12_way_8 : decode cX12_way 8 = .ok (.aload_n 0, 1) := by decide +kernel
theorem dX12_way_9 : decode cX12_way 9 = .ok (.iload_n 1, 1) := by decide +kernel
theorem dX12_way_10 : decode cX12_way 10 = .ok (.iload_n 2, 1) := by decide +kernel
theorem dX12_way_11 : decode cX12_way 11 = .ok (.invokevirtual 332, 3) := by decide +kernel
theorem dX12_way_14 : decode cX12_way 14 = .ok (.istore 4, 2) := by decide +kernel
theorem dX12_way_16 : decode cX12_way 16 = .ok (.iload 4, 2) := by decide +kernel
theorem dX12_way_18 : decode cX12_way 18 = .ok (.ifCond .le 10, 3) := by decide +kernel
theorem dX12_way_21 : decode cX12_way 21 = .ok (.aload_n 0, 1) := by decide +kernel
theorem dX12_way_22 : decode cX12_way 22 = .ok (.iload 4, 2) := by decide +kernel
theorem dX12_way_24 : decode cX12_way 24 = .ok (.invokevirtual 238, 3) := by decide +kernel
theorem dX12_way_27 : decode cX12_way 27 = .ok (.ireturn, 1) := by decide +kernel
theorem dX12_near_0 : decode cX12_near 0 = .ok (.iload_n 2, 1) := by decide +kernel
theorem dX12_near_1 : decode cX12_near 1 = .ok (.iconst 0, 1) := by decide +kernel
theorem dX12_near_2 : decode cX12_near 2 = .ok (.bipush 99, 2) := by decide +kernel
theorem dX12_near_4 : decode cX12_near 4 = .ok (.invokestatic 200, 3) := by decide +kernel
theorem dX12_near_7 : decode cX12_near 7 = .ok (.ifCond .ne 9, 3) := by decide +kernel
theorem dX12_near_10 : decode cX12_near 10 = .ok (.aload_n 0, 1) := by decide +kernel
theorem dX12_near_11 : decode cX12_near 11 = .ok (.iconst 1, 1) := by decide +kernel
theorem dX12_near_12 : decode cX12_near 12 = .ok (.invokevirtual 238, 3) := by decide +kernel
theorem dX12_near_15 : decode cX12_near 15 = .ok (.ireturn, 1) := by decide +kernel
theorem dX12_near_16 : decode cX12_near 16 = .ok (.aload_n 0, 1) := by decide +kernel
theorem dX12_near_17 : decode cX12_near 17 = .ok (.iload_n 1, 1) := by decide +kernel
theorem dX12_near_18 : decode cX12_near 18 = .ok (.invokevirtual 266, 3) := by decide +kernel
theorem dX12_near_21 : decode cX12_near 21 = .ok (.ifCond .ne 9, 3) := by decide +kernel
theorem dX12_near_24 : decode cX12_near 24 = .ok (.aload_n 0, 1) := by decide +kernel
theorem dX12_near_25 : decode cX12_near 25 = .ok (.iconst 2, 1) := by decide +kernel
theorem dX12_near_26 : decode cX12_near 26 = .ok (.invokevirtual 238, 3) := by decide +kernel
theorem dX12_near_29 : decode cX12_near 29 = .ok (.ireturn, 1) := by decide +kernel
theorem dX12_holds_0 : decode cX12_holds 0 = .ok (.iload_n 2, 1) := by decide +kernel
theorem dX12_holds_1 : decode cX12_holds 1 = .ok (.iconst 0, 1) := by decide +kernel
theorem dX12_holds_2 : decode cX12_holds 2 = .ok (.bipush 12, 2) := by decide +kernel
theorem dX12_holds_4 : decode cX12_holds 4 = .ok (.invokestatic 200, 3) := by decide +kernel
theorem dX12_holds_7 : decode cX12_holds 7 = .ok (.ifCond .ne 10, 3) := by decide +kernel
theorem dX12_holds_10 : decode cX12_holds 10 = .ok (.aload_n 0, 1) := by decide +kernel
theorem dX12_holds_11 : decode cX12_holds 11 = .ok (.iconst 1, 1) := by decide +kernel
theorem dX12_holds_12 : decode cX12_holds 12 = .ok (.invokevirtual 238, 3) := by decide +kernel
theorem dX12_holds_15 : decode cX12_holds 15 = .ok (.i2l, 1) := by decide +kernel
theorem dX12_holds_16 : decode cX12_holds 16 = .ok (.lreturn, 1) := by decide +kernel
theorem dX12_holds_17 : decode cX12_holds 17 = .ok (.aload_n 0, 1) := by decide +kernel
theorem dX12_holds_18 : decode cX12_holds 18 = .ok (.iload_n 1, 1) := by decide +kernel
theorem dX12_holds_19 : decode cX12_holds 19 = .ok (.invokevirtual 293, 3) := by decide +kernel
theorem dX12_holds_22 : decode cX12_holds 22 = .ok (.istore_n 3, 1) := by decide +kernel
theorem dX12_holds_23 : decode cX12_holds 23 = .ok (.iload_n 3, 1) := by decide +kernel
theorem dX12_holds_24 : decode cX12_holds 24 = .ok (.ifCond .le 10, 3) := by decide +kernel
theorem dX12_holds_27 : decode cX12_holds 27 = .ok (.aload_n 0, 1) := by decide +kernel
theorem dX12_holds_28 : decode cX12_holds 28 = .ok (.iload_n 3, 1) := by decide +kernel
theorem dX12_holds_29 : decode cX12_holds 29 = .ok (.invokevirtual 238, 3) := by decide +kernel
theorem dX12_holds_32 : decode cX12_holds 32 = .ok (.i2l, 1) := by decide +kernel
theorem dX12_holds_33 : decode cX12_holds 33 = .ok (.lreturn, 1) := by decide +kernel
theorem dX12_ball_0 : decode cX12_ball 0 = .ok (.iload_n 2, 1) := by decide +kernel
theorem dX12_ball_1 : decode cX12_ball 1 = .ok (.iconst 0, 1) := by decide +kernel
theorem dX12_ball_2 : decode cX12_ball 2 = .ok (.bipush 12, 2) := by decide +kernel
theorem dX12_ball_4 : decode cX12_ball 4 = .ok (.invokestatic 200, 3) := by decide +kernel
theorem dX12_ball_7 : decode cX12_ball 7 = .ok (.ifCond .ne 10, 3) := by decide +kernel
theorem dX12_ball_10 : decode cX12_ball 10 = .ok (.aload_n 0, 1) := by decide +kernel
theorem dX12_ball_11 : decode cX12_ball 11 = .ok (.iconst 1, 1) := by decide +kernel
theorem dX12_ball_12 : decode cX12_ball 12 = .ok (.invokevirtual 238, 3) := by decide +kernel
theorem dX12_ball_15 : decode cX12_ball 15 = .ok (.i2l, 1) := by decide +kernel
theorem dX12_ball_16 : decode cX12_ball 16 = .ok (.lreturn, 1) := by decide +kernel
theorem dX12_ball_17 : decode cX12_ball 17 = .ok (.aload_n 0, 1) := by decide +kernel
theorem dX12_ball_18 : decode cX12_ball 18 = .ok (.iload_n 1, 1) := by decide +kernel
theorem dX12_ball_19 : decode cX12_ball 19 = .ok (.invokevirtual 207, 3) := by decide +kernel
theorem dX12_ball_22 : decode cX12_ball 22 = .ok (.ifCond .eq 17, 3) := by decide +kernel
theorem dX12_ball_39 : decode cX12_ball 39 = .ok (.aload_n 0, 1) := by decide +kernel
theorem dX12_ball_40 : decode cX12_ball 40 = .ok (.iconst 2, 1) := by decide +kernel
theorem dX12_ball_41 : decode cX12_ball 41 = .ok (.invokevirtual 238, 3) := by decide +kernel
theorem dX12_ball_44 : decode cX12_ball 44 = .ok (.i2l, 1) := by decide +kernel
theorem dX12_ball_45 : decode cX12_ball 45 = .ok (.lreturn, 1) := by decide +kernel
theorem dX12_sphere_0 : decode cX12_sphere 0 = .ok (.iload_n 2, 1) := by decide +kernel
theorem dX12_sphere_1 : decode cX12_sphere 1 = .ok (.iconst 0, 1) := by decide +kernel
theorem dX12_sphere_2 : decode cX12_sphere 2 = .ok (.bipush 12, 2) := by decide +kernel
theorem dX12_sphere_4 : decode cX12_sphere 4 = .ok (.invokestatic 200, 3) := by decide +kernel
theorem dX12_sphere_7 : decode cX12_sphere 7 = .ok (.ifCond .ne 10, 3) := by decide +kernel
theorem dX12_sphere_10 : decode cX12_sphere 10 = .ok (.aload_n 0, 1) := by decide +kernel
theorem dX12_sphere_11 : decode cX12_sphere 11 = .ok (.iconst 1, 1) := by decide +kernel
theorem dX12_sphere_12 : decode cX12_sphere 12 = .ok (.invokevirtual 238, 3) := by decide +kernel
theorem dX12_sphere_15 : decode cX12_sphere 15 = .ok (.i2l, 1) := by decide +kernel
theorem dX12_sphere_16 : decode cX12_sphere 16 = .ok (.lreturn, 1) := by decide +kernel
theorem dX12_sphere_17 : decode cX12_sphere 17 = .ok (.aload_n 0, 1) := by decide +kernel
theorem dX12_sphere_18 : decode cX12_sphere 18 = .ok (.iload_n 1, 1) := by decide +kernel
theorem dX12_sphere_19 : decode cX12_sphere 19 = .ok (.invokevirtual 207, 3) := by decide +kernel
theorem dX12_sphere_22 : decode cX12_sphere 22 = .ok (.ifCond .ne 10, 3) := by decide +kernel
theorem dX12_sphere_25 : decode cX12_sphere 25 = .ok (.aload_n 0, 1) := by decide +kernel
theorem dX12_sphere_26 : decode cX12_sphere 26 = .ok (.iconst 2, 1) := by decide +kernel
theorem dX12_sphere_27 : decode cX12_sphere 27 = .ok (.invokevirtual 238, 3) := by decide +kernel
theorem dX12_sphere_30 : decode cX12_sphere 30 = .ok (.i2l, 1) := by decide +kernel
theorem dX12_sphere_31 : decode cX12_sphere 31 = .ok (.lreturn, 1) := by decide +kernel
theorem dX12_spell_0 : decode cX12_spell 0 = .ok (.iload_n 2, 1) := by decide +kernel
theorem dX12_spell_1 : decode cX12_spell 1 = .ok (.iconst 0, 1) := by decide +kernel
theorem dX12_spell_2 : decode cX12_spell 2 = .ok (.bipush 12, 2) := by decide +kernel
theorem dX12_spell_4 : decode cX12_spell 4 = .ok (.invokestatic 200, 3) := by decide +kernel
theorem dX12_spell_7 : decode cX12_spell 7 = .ok (.ifCond .eq 7, 3) := by decide +kernel
theorem dX12_spell_10 : decode cX12_spell 10 = .ok (.iload_n 3, 1) := by decide +kernel
theorem dX12_spell_11 : decode cX12_spell 11 = .ok (.ifCond .ge 9, 3) := by decide +kernel
theorem dX12_spell_14 : decode cX12_spell 14 = .ok (.aload_n 0, 1) := by decide +kernel
theorem dX12_spell_15 : decode cX12_spell 15 = .ok (.iconst 1, 1) := by decide +kernel
theorem dX12_spell_16 : decode cX12_spell 16 = .ok (.invokevirtual 238, 3) := by decide +kernel
theorem dX12_spell_19 : decode cX12_spell 19 = .ok (.ireturn, 1) := by decide +kernel
theorem dX12_spell_20 : decode cX12_spell 20 = .ok (.aload_n 0, 1) := by decide +kernel
theorem dX12_spell_21 : decode cX12_spell 21 = .ok (.iload_n 1, 1) := by decide +kernel
theorem dX12_spell_22 : decode cX12_spell 22 = .ok (.invokevirtual 207, 3) := by decide +kernel
theorem dX12_spell_25 : decode cX12_spell 25 = .ok (.ifCond .ne 9, 3) := by decide +kernel
theorem dX12_spell_28 : decode cX12_spell 28 = .ok (.aload_n 0, 1) := by decide +kernel
theorem dX12_spell_29 : decode cX12_spell 29 = .ok (.iconst 2, 1) := by decide +kernel
theorem dX12_spell_30 : decode cX12_spell 30 = .ok (.invokevirtual 238, 3) := by decide +kernel
theorem dX12_spell_33 : decode cX12_spell 33 = .ok (.ireturn, 1) := by decide +kernel
theorem dX12_listed_0 : decode cX12_listed 0 = .ok (.aload_n 0, 1) := by decide +kernel
theorem dX12_listed_1 : decode cX12_listed 1 = .ok (.iload_n 1, 1) := by decide +kernel
theorem dX12_listed_2 : decode cX12_listed 2 = .ok (.invokevirtual 293, 3) := by decide +kernel
theorem dX12_listed_5 : decode cX12_listed 5 = .ok (.istore_n 2, 1) := by decide +kernel
theorem dX12_listed_6 : decode cX12_listed 6 = .ok (.iload_n 2, 1) := by decide +kernel
theorem dX12_listed_7 : decode cX12_listed 7 = .ok (.ifCond .le 10, 3) := by decide +kernel
theorem dX12_listed_10 : decode cX12_listed 10 = .ok (.aload_n 0, 1) := by decide +kernel
theorem dX12_listed_11 : decode cX12_listed 11 = .ok (.iload_n 2, 1) := by decide +kernel
theorem dX12_listed_12 : decode cX12_listed 12 = .ok (.invokevirtual 238, 3) := by decide +kernel
theorem dX12_listed_15 : decode cX12_listed 15 = .ok (.i2l, 1) := by decide +kernel
theorem dX12_listed_16 : decode cX12_listed 16 = .ok (.lreturn, 1) := by decide +kernel
theorem dX12_axis_0 : decode cX12_axis 0 = .ok (.iload_n 2, 1) := by decide +kernel
theorem dX12_axis_1 : decode cX12_axis 1 = .ok (.ifCond .ge 9, 3) := by decide +kernel
theorem dX12_axis_4 : decode cX12_axis 4 = .ok (.aload_n 0, 1) := by decide +kernel
theorem dX12_axis_5 : decode cX12_axis 5 = .ok (.iconst 1, 1) := by decide +kernel
theorem dX12_axis_6 : decode cX12_axis 6 = .ok (.invokevirtual 238, 3) := by decide +kernel
theorem dX12_axis_9 : decode cX12_axis 9 = .ok (.ireturn, 1) := by decide +kernel
theorem dX12_axis_10 : decode cX12_axis 10 = .ok (.aload_n 0, 1) := by decide +kernel
theorem dX12_axis_11 : decode cX12_axis 11 = .ok (.iload_n 1, 1) := by decide +kernel
theorem dX12_axis_12 : decode cX12_axis 12 = .ok (.invokevirtual 293, 3) := by decide +kernel
theorem dX12_axis_15 : decode cX12_axis 15 = .ok (.istore_n 3, 1) := by decide +kernel
theorem dX12_axis_16 : decode cX12_axis 16 = .ok (.iload_n 3, 1) := by decide +kernel
theorem dX12_axis_17 : decode cX12_axis 17 = .ok (.ifCond .le 9, 3) := by decide +kernel
theorem dX12_axis_20 : decode cX12_axis 20 = .ok (.aload_n 0, 1) := by decide +kernel
theorem dX12_axis_21 : decode cX12_axis 21 = .ok (.iload_n 3, 1) := by decide +kernel
theorem dX12_axis_22 : decode cX12_axis 22 = .ok (.invokevirtual 238, 3) := by decide +kernel
theorem dX12_axis_25 : decode cX12_axis 25 = .ok (.ireturn, 1) := by decide +kernel
theorem dX12_meet_0 : decode cX12_meet 0 = .ok (.aload_n 0, 1) := by decide +kernel
theorem dX12_meet_1 : decode cX12_meet 1 = .ok (.iload_n 1, 1) := by decide +kernel
theorem dX12_meet_2 : decode cX12_meet 2 = .ok (.invokevirtual 207, 3) := by decide +kernel
theorem dX12_meet_5 : decode cX12_meet 5 = .ok (.ifCond .ne 9, 3) := by decide +kernel
theorem dX12_meet_8 : decode cX12_meet 8 = .ok (.aload_n 0, 1) := by decide +kernel
theorem dX12_meet_9 : decode cX12_meet 9 = .ok (.iconst 2, 1) := by decide +kernel
theorem dX12_meet_10 : decode cX12_meet 10 = .ok (.invokevirtual 238, 3) := by decide +kernel
theorem dX12_meet_13 : decode cX12_meet 13 = .ok (.ireturn, 1) := by decide +kernel
theorem dX12_tell_0 : decode cX12_tell 0 = .ok (.aload_n 0, 1) := by decide +kernel
theorem dX12_tell_1 : decode cX12_tell 1 = .ok (.iload_n 1, 1) := by decide +kernel
theorem dX12_tell_2 : decode cX12_tell 2 = .ok (.invokevirtual 266, 3) := by decide +kernel
theorem dX12_tell_5 : decode cX12_tell 5 = .ok (.ifCond .ne 9, 3) := by decide +kernel
theorem dX12_tell_8 : decode cX12_tell 8 = .ok (.aload_n 0, 1) := by decide +kernel
theorem dX12_tell_9 : decode cX12_tell 9 = .ok (.iconst 2, 1) := by decide +kernel
theorem dX12_tell_10 : decode cX12_tell 10 = .ok (.invokevirtual 238, 3) := by decide +kernel
theorem dX12_tell_13 : decode cX12_tell 13 = .ok (.ireturn, 1) := by decide +kernel
theorem dX12_out_0 : decode cX12_out 0 = .ok (.iload_n 1, 1) := by decide +kernel
theorem dX12_out_1 : decode cX12_out 1 = .ok (.ifCond .ge 9, 3) := by decide +kernel
theorem dX12_out_4 : decode cX12_out 4 = .ok (.aload_n 0, 1) := by decide +kernel
theorem dX12_out_5 : decode cX12_out 5 = .ok (.iconst 1, 1) := by decide +kernel
theorem dX12_out_6 : decode cX12_out 6 = .ok (.invokevirtual 238, 3) := by decide +kernel
theorem dX12_out_9 : decode cX12_out 9 = .ok (.ireturn, 1) := by decide +kernel
theorem dX12_out_10 : decode cX12_out 10 = .ok (.iload_n 1, 1) := by decide +kernel
theorem dX12_out_11 : decode cX12_out 11 = .ok (.aload_n 0, 1) := by decide +kernel
theorem dX12_out_12 : decode cX12_out 12 = .ok (.getfield 368, 3) := by decide +kernel
theorem dX12_out_15 : decode cX12_out 15 = .ok (.if_icmp .ge 16, 3) := by decide +kernel
theorem dX12_out_31 : decode cX12_out 31 = .ok (.aload_n 0, 1) := by decide +kernel
theorem dX12_out_32 : decode cX12_out 32 = .ok (.iconst 5, 1) := by decide +kernel
theorem dX12_out_33 : decode cX12_out 33 = .ok (.invokevirtual 238, 3) := by decide +kernel
theorem dX12_out_36 : decode cX12_out 36 = .ok (.ireturn, 1) := by decide +kernel
theorem dX12_chi_0 : decode cX12_chi 0 = .ok (.iload_n 1, 1) := by decide +kernel
theorem dX12_chi_1 : decode cX12_chi 1 = .ok (.iconst 0, 1) := by decide +kernel
theorem dX12_chi_2 : decode cX12_chi 2 = .ok (.iconst 1, 1) := by decide +kernel
theorem dX12_chi_3 : decode cX12_chi 3 = .ok (.invokestatic 200, 3) := by decide +kernel
theorem dX12_chi_6 : decode cX12_chi 6 = .ok (.ifCond .ne 9, 3) := by decide +kernel
theorem dX12_chi_9 : decode cX12_chi 9 = .ok (.aload_n 0, 1) := by decide +kernel
theorem dX12_chi_10 : decode cX12_chi 10 = .ok (.iconst 1, 1) := by decide +kernel
theorem dX12_chi_11 : decode cX12_chi 11 = .ok (.invokevirtual 238, 3) := by decide +kernel
theorem dX12_chi_14 : decode cX12_chi 14 = .ok (.ireturn, 1) := by decide +kernel
theorem dX12_chi_15 : decode cX12_chi 15 = .ok (.lconst 0, 1) := by decide +kernel
theorem dX12_chi_16 : decode cX12_chi 16 = .ok (.lstore_n 2, 1) := by decide +kernel
theorem dX12_chi_17 : decode cX12_chi 17 = .ok (.lconst 1, 1) := by decide +kernel
theorem dX12_chi_18 : decode cX12_chi 18 = .ok (.lstore 4, 2) := by decide +kernel
theorem dX12_chi_20 : decode cX12_chi 20 = .ok (.iconst 0, 1) := by decide +kernel
theorem dX12_chi_21 : decode cX12_chi 21 = .ok (.istore 6, 2) := by decide +kernel
theorem dX12_chi_23 : decode cX12_chi 23 = .ok (.iload 6, 2) := by decide +kernel
theorem dX12_chi_25 : decode cX12_chi 25 = .ok (.aload_n 0, 1) := by decide +kernel
theorem dX12_chi_26 : decode cX12_chi 26 = .ok (.iconst 0, 1) := by decide +kernel
theorem dX12_chi_27 : decode cX12_chi 27 = .ok (.invokevirtual 70, 3) := by decide +kernel
theorem dX12_chi_30 : decode cX12_chi 30 = .ok (.aload_n 0, 1) := by decide +kernel
theorem dX12_chi_31 : decode cX12_chi 31 = .ok (.iconst 1, 1) := by decide +kernel
theorem dX12_chi_32 : decode cX12_chi 32 = .ok (.invokevirtual 70, 3) := by decide +kernel
theorem dX12_chi_35 : decode cX12_chi 35 = .ok (.iadd, 1) := by decide +kernel
theorem dX12_chi_36 : decode cX12_chi 36 = .ok (.if_icmp .ge 102, 3) := by decide +kernel
theorem dX12_chi_138 : decode cX12_chi 138 = .ok (.aload_n 0, 1) := by decide +kernel
theorem dX12_chi_139 : decode cX12_chi 139 = .ok (.iload_n 1, 1) := by decide +kernel
theorem dX12_chi_140 : decode cX12_chi 140 = .ok (.ifCond .ne 7, 3) := by decide +kernel
theorem dX12_chi_143 : decode cX12_chi 143 = .ok (.lload_n 2, 1) := by decide +kernel
theorem dX12_chi_144 : decode cX12_chi 144 = .ok (.goto 5, 3) := by decide +kernel
theorem dX12_chi_147 : decode cX12_chi 147 = .ok (.lload 4, 2) := by decide +kernel
theorem dX12_chi_149 : decode cX12_chi 149 = .ok (.l2i, 1) := by decide +kernel
theorem dX12_chi_150 : decode cX12_chi 150 = .ok (.invokevirtual 251, 3) := by decide +kernel
theorem dX12_chi_153 : decode cX12_chi 153 = .ok (.ireturn, 1) := by decide +kernel
theorem dJ7_fill_53178_0 : decode cJ7_fill_53178 0 = .ok (.iconst 0, 1) := by decide +kernel
theorem dJ7_fill_53178_1 : decode cJ7_fill_53178 1 = .ok (.istore_n 2, 1) := by decide +kernel
theorem dJ7_fill_53178_2 : decode cJ7_fill_53178 2 = .ok (.aload_n 0, 1) := by decide +kernel
theorem dJ7_fill_53178_3 : decode cJ7_fill_53178 3 = .ok (.arraylength, 1) := by decide +kernel
theorem dJ7_fill_53178_4 : decode cJ7_fill_53178 4 = .ok (.istore_n 3, 1) := by decide +kernel
theorem dJ7_fill_53178_5 : decode cJ7_fill_53178 5 = .ok (.iload_n 2, 1) := by decide +kernel
theorem dJ7_fill_53178_6 : decode cJ7_fill_53178 6 = .ok (.iload_n 3, 1) := by decide +kernel
theorem dJ7_fill_53178_7 : decode cJ7_fill_53178 7 = .ok (.if_icmp .ge 13, 3) := by decide +kernel
theorem dJ7_fill_53178_10 : decode cJ7_fill_53178 10 = .ok (.aload_n 0, 1) := by decide +kernel
theorem dJ7_fill_53178_11 : decode cJ7_fill_53178 11 = .ok (.iload_n 2, 1) := by decide +kernel
theorem dJ7_fill_53178_12 : decode cJ7_fill_53178 12 = .ok (.iload_n 1, 1) := by decide +kernel
theorem dJ7_fill_53178_13 : decode cJ7_fill_53178 13 = .ok (.iastore, 1) := by decide +kernel
theorem dJ7_fill_53178_14 : decode cJ7_fill_53178 14 = .ok (.iinc 2 1, 3) := by decide +kernel
theorem dJ7_fill_53178_17 : decode cJ7_fill_53178 17 = .ok (.goto (-12), 3) := by decide +kernel
theorem dJ7_fill_53178_20 : decode cJ7_fill_53178 20 = .ok (.return_, 1) := by decide +kernel
theorem dL_law_0 : decode cL_law 0 = .ok (.new 7, 3) := by decide +kernel
theorem dL_law_3 : decode cL_law 3 = .ok (.dup, 1) := by decide +kernel
theorem dL_law_4 : decode cL_law 4 = .ok (.invokespecial 9, 3) := by decide +kernel
theorem dL_law_7 : decode cL_law 7 = .ok (.astore_n 1, 1) := by decide +kernel
theorem dL_law_8 : decode cL_law 8 = .ok (.new 10, 3) := by decide +kernel
theorem dL_law_11 : decode cL_law 11 = .ok (.dup, 1) := by decide +kernel
theorem dL_law_12 : decode cL_law 12 = .ok (.invokespecial 12, 3) := by decide +kernel
theorem dL_law_15 : decode cL_law 15 = .ok (.astore_n 2, 1) := by decide +kernel
theorem dL_law_16 : decode cL_law 16 = .ok (.iconst 0, 1) := by decide +kernel
theorem dL_law_17 : decode cL_law 17 = .ok (.istore_n 3, 1) := by decide +kernel
theorem dL_law_18 : decode cL_law 18 = .ok (.iload_n 3, 1) := by decide +kernel
theorem dL_law_19 : decode cL_law 19 = .ok (.aload_n 0, 1) := by decide +kernel
theorem dL_law_20 : decode cL_law 20 = .ok (.arraylength, 1) := by decide +kernel
theorem dL_law_21 : decode cL_law 21 = .ok (.bipush 6, 2) := by decide +kernel
theorem dL_law_23 : decode cL_law 23 = .ok (.isub, 1) := by decide +kernel
theorem dL_law_24 : decode cL_law 24 = .ok (.if_icmp .gt 1617, 3) := by decide +kernel
theorem dL_law_27 : decode cL_law 27 = .ok (.aload_n 0, 1) := by decide +kernel
theorem dL_law_28 : decode cL_law 28 = .ok (.iload_n 3, 1) := by decide +kernel
theorem dL_law_29 : decode cL_law 29 = .ok (.iaload, 1) := by decide +kernel
theorem dL_law_30 : decode cL_law 30 = .ok (.bipush 63, 2) := by decide +kernel
theorem dL_law_32 : decode cL_law 32 = .ok (.iand, 1) := by decide +kernel
theorem dL_law_33 : decode cL_law 33 = .ok (.tableswitch 1602 0 48 #[211, 224, 287, 310, 333, 356, 379, 412, 445, 478, 511, 544, 567, 600, 623, 656, 679, 722, 745, 758, 771, 784, 817, 840, 863, 886, 919, 962, 985, 1018, 1051, 1074, 1107, 1130, 1163, 1186, 1209, 1242, 1275, 1318, 1352, 1385, 1419, 1453, 1477, 1510, 1533, 1556, 1579], 211) := by decide +kernel
theorem dL_law_244 : decode cL_law 244 = .ok (.aload_n 1, 1) := by decide +kernel
theorem dL_law_245 : decode cL_law 245 = .ok (.invokevirtual 13, 3) := by decide +kernel
theorem dL_law_248 : decode cL_law 248 = .ok (.aload_n 2, 1) := by decide +kernel
theorem dL_law_249 : decode cL_law 249 = .ok (.invokevirtual 17, 3) := by decide +kernel
theorem dL_law_252 : decode cL_law 252 = .ok (.if_icmp .eq 1383, 3) := by decide +kernel
theorem dL_law_257 : decode cL_law 257 = .ok (.aload_n 1, 1) := by decide +kernel
theorem dL_law_258 : decode cL_law 258 = .ok (.aload_n 0, 1) := by decide +kernel
theorem dL_law_259 : decode cL_law 259 = .ok (.iload_n 3, 1) := by decide +kernel
theorem dL_law_260 : decode cL_law 260 = .ok (.iconst 1, 1) := by decide +kernel
theorem dL_law_261 : decode cL_law 261 = .ok (.iadd, 1) := by decide +kernel
theorem dL_law_262 : decode cL_law 262 = .ok (.iaload, 1) := by decide +kernel
theorem dL_law_263 : decode cL_law 263 = .ok (.aload_n 0, 1) := by decide +kernel
theorem dL_law_264 : decode cL_law 264 = .ok (.iload_n 3, 1) := by decide +kernel
theorem dL_law_265 : decode cL_law 265 = .ok (.iconst 2, 1) := by decide +kernel
theorem dL_law_266 : decode cL_law 266 = .ok (.iadd, 1) := by decide +kernel
theorem dL_law_267 : decode cL_law 267 = .ok (.iaload, 1) := by decide +kernel
theorem dL_law_268 : decode cL_law 268 = .ok (.aload_n 0, 1) := by decide +kernel
theorem dL_law_269 : decode cL_law 269 = .ok (.iload_n 3, 1) := by decide +kernel
theorem dL_law_270 : decode cL_law 270 = .ok (.iconst 3, 1) := by decide +kernel
theorem dL_law_271 : decode cL_law 271 = .ok (.iadd, 1) := by decide +kernel
theorem dL_law_272 : decode cL_law 272 = .ok (.iaload, 1) := by decide +kernel
theorem dL_law_273 : decode cL_law 273 = .ok (.aload_n 0, 1) := by decide +kernel
theorem dL_law_274 : decode cL_law 274 = .ok (.iload_n 3, 1) := by decide +kernel
theorem dL_law_275 : decode cL_law 275 = .ok (.iconst 4, 1) := by decide +kernel
theorem dL_law_276 : decode cL_law 276 = .ok (.iadd, 1) := by decide +kernel
theorem dL_law_277 : decode cL_law 277 = .ok (.iaload, 1) := by decide +kernel
theorem dL_law_278 : decode cL_law 278 = .ok (.aload_n 0, 1) := by decide +kernel
theorem dL_law_279 : decode cL_law 279 = .ok (.iload_n 3, 1) := by decide +kernel
theorem dL_law_280 : decode cL_law 280 = .ok (.iconst 5, 1) := by decide +kernel
theorem dL_law_281 : decode cL_law 281 = .ok (.iadd, 1) := by decide +kernel
theorem dL_law_282 : decode cL_law 282 = .ok (.iaload, 1) := by decide +kernel
theorem dL_law_283 : decode cL_law 283 = .ok (.invokevirtual 18, 3) := by decide +kernel
theorem dL_law_286 : decode cL_law 286 = .ok (.aload_n 2, 1) := by decide +kernel
theorem dL_law_287 : decode cL_law 287 = .ok (.aload_n 0, 1) := by decide +kernel
theorem dL_law_288 : decode cL_law 288 = .ok (.iload_n 3, 1) := by decide +kernel
theorem dL_law_289 : decode cL_law 289 = .ok (.iconst 1, 1) := by decide +kernel
theorem dL_law_290 : decode cL_law 290 = .ok (.iadd, 1) := by decide +kernel
theorem dL_law_291 : decode cL_law 291 = .ok (.iaload, 1) := by decide +kernel
theorem dL_law_292 : decode cL_law 292 = .ok (.aload_n 0, 1) := by decide +kernel
theorem dL_law_293 : decode cL_law 293 = .ok (.iload_n 3, 1) := by decide +kernel
theorem dL_law_294 : decode cL_law 294 = .ok (.iconst 2, 1) := by decide +kernel
theorem dL_law_295 : decode cL_law 295 = .ok (.iadd, 1) := by decide +kernel
theorem dL_law_296 : decode cL_law 296 = .ok (.iaload, 1) := by decide +kernel
theorem dL_law_297 : decode cL_law 297 = .ok (.aload_n 0, 1) := by decide +kernel
theorem dL_law_298 : decode cL_law 298 = .ok (.iload_n 3, 1) := by decide +kernel
theorem dL_law_299 : decode cL_law 299 = .ok (.iconst 3, 1) := by decide +kernel
theorem dL_law_300 : decode cL_law 300 = .ok (.iadd, 1) := by decide +kernel
theorem dL_law_301 : decode cL_law 301 = .ok (.iaload, 1) := by decide +kernel
theorem dL_law_302 : decode cL_law 302 = .ok (.aload_n 0, 1) := by decide +kernel
theorem dL_law_303 : decode cL_law 303 = .ok (.iload_n 3, 1) := by decide +kernel
theorem dL_law_304 : decode cL_law 304 = .ok (.iconst 4, 1) := by decide +kernel
theorem dL_law_305 : decode cL_law 305 = .ok (.iadd, 1) := by decide +kernel
theorem dL_law_306 : decode cL_law 306 = .ok (.iaload, 1) := by decide +kernel
theorem dL_law_307 : decode cL_law 307 = .ok (.aload_n 0, 1) := by decide +kernel
theorem dL_law_308 : decode cL_law 308 = .ok (.iload_n 3, 1) := by decide +kernel
theorem dL_law_309 : decode cL_law 309 = .ok (.iconst 5, 1) := by decide +kernel
theorem dL_law_310 : decode cL_law 310 = .ok (.iadd, 1) := by decide +kernel
theorem dL_law_311 : decode cL_law 311 = .ok (.iaload, 1) := by decide +kernel
theorem dL_law_312 : decode cL_law 312 = .ok (.invokevirtual 22, 3) := by decide +kernel
theorem dL_law_315 : decode cL_law 315 = .ok (.if_icmp .eq 1320, 3) := by decide +kernel
theorem dL_law_320 : decode cL_law 320 = .ok (.aload_n 1, 1) := by decide +kernel
theorem dL_law_321 : decode cL_law 321 = .ok (.aload_n 0, 1) := by decide +kernel
theorem dL_law_322 : decode cL_law 322 = .ok (.iload_n 3, 1) := by decide +kernel
theorem dL_law_323 : decode cL_law 323 = .ok (.iconst 1, 1) := by decide +kernel
theorem dL_law_324 : decode cL_law 324 = .ok (.iadd, 1) := by decide +kernel
theorem dL_law_325 : decode cL_law 325 = .ok (.iaload, 1) := by decide +kernel
theorem dL_law_326 : decode cL_law 326 = .ok (.invokevirtual 23, 3) := by decide +kernel
theorem dL_law_329 : decode cL_law 329 = .ok (.aload_n 2, 1) := by decide +kernel
theorem dL_law_330 : decode cL_law 330 = .ok (.aload_n 0, 1) := by decide +kernel
theorem dL_law_331 : decode cL_law 331 = .ok (.iload_n 3, 1) := by decide +kernel
theorem dL_law_332 : decode cL_law 332 = .ok (.iconst 1, 1) := by decide +kernel
theorem dL_law_333 : decode cL_law 333 = .ok (.iadd, 1) := by decide +kernel
theorem dL_law_334 : decode cL_law 334 = .ok (.iaload, 1) := by decide +kernel
theorem dL_law_335 : decode cL_law 335 = .ok (.invokevirtual 27, 3) := by decide +kernel
theorem dL_law_338 : decode cL_law 338 = .ok (.if_icmp .eq 1297, 3) := by decide +kernel
theorem dL_law_343 : decode cL_law 343 = .ok (.aload_n 1, 1) := by decide +kernel
theorem dL_law_344 : decode cL_law 344 = .ok (.aload_n 0, 1) := by decide +kernel
theorem dL_law_345 : decode cL_law 345 = .ok (.iload_n 3, 1) := by decide +kernel
theorem dL_law_346 : decode cL_law 346 = .ok (.iconst 1, 1) := by decide +kernel
theorem dL_law_347 : decode cL_law 347 = .ok (.iadd, 1) := by decide +kernel
theorem dL_law_348 : decode cL_law 348 = .ok (.iaload, 1) := by decide +kernel
theorem dL_law_349 : decode cL_law 349 = .ok (.invokevirtual 28, 3) := by decide +kernel
theorem dL_law_352 : decode cL_law 352 = .ok (.aload_n 2, 1) := by decide +kernel
theorem dL_law_353 : decode cL_law 353 = .ok (.aload_n 0, 1) := by decide +kernel
theorem dL_law_354 : decode cL_law 354 = .ok (.iload_n 3, 1) := by decide +kernel
theorem dL_law_355 : decode cL_law 355 = .ok (.iconst 1, 1) := by decide +kernel
theorem dL_law_356 : decode cL_law 356 = .ok (.iadd, 1) := by decide +kernel
theorem dL_law_357 : decode cL_law 357 = .ok (.iaload, 1) := by decide +kernel
theorem dL_law_358 : decode cL_law 358 = .ok (.invokevirtual 31, 3) := by decide +kernel
theorem dL_law_361 : decode cL_law 361 = .ok (.if_icmp .eq 1274, 3) := by decide +kernel
theorem dL_law_366 : decode cL_law 366 = .ok (.aload_n 1, 1) := by decide +kernel
theorem dL_law_367 : decode cL_law 367 = .ok (.aload_n 0, 1) := by decide +kernel
theorem dL_law_368 : decode cL_law 368 = .ok (.iload_n 3, 1) := by decide +kernel
theorem dL_law_369 : decode cL_law 369 = .ok (.iconst 1, 1) := by decide +kernel
theorem dL_law_370 : decode cL_law 370 = .ok (.iadd, 1) := by decide +kernel
theorem dL_law_371 : decode cL_law 371 = .ok (.iaload, 1) := by decide +kernel
theorem dL_law_372 : decode cL_law 372 = .ok (.invokevirtual 32, 3) := by decide +kernel
theorem dL_law_375 : decode cL_law 375 = .ok (.aload_n 2, 1) := by decide +kernel
theorem dL_law_376 : decode cL_law 376 = .ok (.aload_n 0, 1) := by decide +kernel
theorem dL_law_377 : decode cL_law 377 = .ok (.iload_n 3, 1) := by decide +kernel
theorem dL_law_378 : decode cL_law 378 = .ok (.iconst 1, 1) := by decide +kernel
theorem dL_law_379 : decode cL_law 379 = .ok (.iadd, 1) := by decide +kernel
theorem dL_law_380 : decode cL_law 380 = .ok (.iaload, 1) := by decide +kernel
theorem dL_law_381 : decode cL_law 381 = .ok (.invokevirtual 35, 3) := by decide +kernel
theorem dL_law_384 : decode cL_law 384 = .ok (.if_icmp .eq 1251, 3) := by decide +kernel
theorem dL_law_389 : decode cL_law 389 = .ok (.aload_n 1, 1) := by decide +kernel
theorem dL_law_390 : decode cL_law 390 = .ok (.aload_n 0, 1) := by decide +kernel
theorem dL_law_391 : decode cL_law 391 = .ok (.iload_n 3, 1) := by decide +kernel
theorem dL_law_392 : decode cL_law 392 = .ok (.iconst 1, 1) := by decide +kernel
theorem dL_law_393 : decode cL_law 393 = .ok (.iadd, 1) := by decide +kernel
theorem dL_law_394 : decode cL_law 394 = .ok (.iaload, 1) := by decide +kernel
theorem dL_law_395 : decode cL_law 395 = .ok (.invokevirtual 36, 3) := by decide +kernel
theorem dL_law_398 : decode cL_law 398 = .ok (.aload_n 2, 1) := by decide +kernel
theorem dL_law_399 : decode cL_law 399 = .ok (.aload_n 0, 1) := by decide +kernel
theorem dL_law_400 : decode cL_law 400 = .ok (.iload_n 3, 1) := by decide +kernel
theorem dL_law_401 : decode cL_law 401 = .ok (.iconst 1, 1) := by decide +kernel
theorem dL_law_402 : decode cL_law 402 = .ok (.iadd, 1) := by decide +kernel
theorem dL_law_403 : decode cL_law 403 = .ok (.iaload, 1) := by decide +kernel
theorem dL_law_404 : decode cL_law 404 = .ok (.invokevirtual 39, 3) := by decide +kernel
theorem dL_law_407 : decode cL_law 407 = .ok (.if_icmp .eq 1228, 3) := by decide +kernel
theorem dL_law_412 : decode cL_law 412 = .ok (.aload_n 1, 1) := by decide +kernel
theorem dL_law_413 : decode cL_law 413 = .ok (.aload_n 0, 1) := by decide +kernel
theorem dL_law_414 : decode cL_law 414 = .ok (.iload_n 3, 1) := by decide +kernel
theorem dL_law_415 : decode cL_law 415 = .ok (.iconst 1, 1) := by decide +kernel
theorem dL_law_416 : decode cL_law 416 = .ok (.iadd, 1) := by decide +kernel
theorem dL_law_417 : decode cL_law 417 = .ok (.iaload, 1) := by decide +kernel
theorem dL_law_418 : decode cL_law 418 = .ok (.aload_n 0, 1) := by decide +kernel
theorem dL_law_419 : decode cL_law 419 = .ok (.iload_n 3, 1) := by decide +kernel
theorem dL_law_420 : decode cL_law 420 = .ok (.iconst 2, 1) := by decide +kernel
theorem dL_law_421 : decode cL_law 421 = .ok (.iadd, 1) := by decide +kernel
theorem dL_law_422 : decode cL_law 422 = .ok (.iaload, 1) := by decide +kernel
theorem dL_law_423 : decode cL_law 423 = .ok (.invokevirtual 40, 3) := by decide +kernel
theorem dL_law_426 : decode cL_law 426 = .ok (.aload_n 2, 1) := by decide +kernel
theorem dL_law_427 : decode cL_law 427 = .ok (.aload_n 0, 1) := by decide +kernel
theorem dL_law_428 : decode cL_law 428 = .ok (.iload_n 3, 1) := by decide +kernel
theorem dL_law_429 : decode cL_law 429 = .ok (.iconst 1, 1) := by decide +kernel
theorem dL_law_430 : decode cL_law 430 = .ok (.iadd, 1) := by decide +kernel
theorem dL_law_431 : decode cL_law 431 = .ok (.iaload, 1) := by decide +kernel
theorem dL_law_432 : decode cL_law 432 = .ok (.aload_n 0, 1) := by decide +kernel
theorem dL_law_433 : decode cL_law 433 = .ok (.iload_n 3, 1) := by decide +kernel
theorem dL_law_434 : decode cL_law 434 = .ok (.iconst 2, 1) := by decide +kernel
theorem dL_law_435 : decode cL_law 435 = .ok (.iadd, 1) := by decide +kernel
theorem dL_law_436 : decode cL_law 436 = .ok (.iaload, 1) := by decide +kernel
theorem dL_law_437 : decode cL_law 437 = .ok (.invokevirtual 44, 3) := by decide +kernel
theorem dL_law_440 : decode cL_law 440 = .ok (.if_icmp .eq 1195, 3) := by decide +kernel
theorem dL_law_445 : decode cL_law 445 = .ok (.aload_n 1, 1) := by decide +kernel
theorem dL_law_446 : decode cL_law 446 = .ok (.aload_n 0, 1) := by decide +kernel
theorem dL_law_447 : decode cL_law 447 = .ok (.iload_n 3, 1) := by decide +kernel
theorem dL_law_448 : decode cL_law 448 = .ok (.iconst 1, 1) := by decide +kernel
theorem dL_law_449 : decode cL_law 449 = .ok (.iadd, 1) := by decide +kernel
theorem dL_law_450 : decode cL_law 450 = .ok (.iaload, 1) := by decide +kernel
theorem dL_law_451 : decode cL_law 451 = .ok (.aload_n 0, 1) := by decide +kernel
theorem dL_law_452 : decode cL_law 452 = .ok (.iload_n 3, 1) := by decide +kernel
theorem dL_law_453 : decode cL_law 453 = .ok (.iconst 2, 1) := by decide +kernel
theorem dL_law_454 : decode cL_law 454 = .ok (.iadd, 1) := by decide +kernel
theorem dL_law_455 : decode cL_law 455 = .ok (.iaload, 1) := by decide +kernel
theorem dL_law_456 : decode cL_law 456 = .ok (.invokevirtual 45, 3) := by decide +kernel
theorem dL_law_459 : decode cL_law 459 = .ok (.aload_n 2, 1) := by decide +kernel
theorem dL_law_460 : decode cL_law 460 = .ok (.aload_n 0, 1) := by decide +kernel
theorem dL_law_461 : decode cL_law 461 = .ok (.iload_n 3, 1) := by decide +kernel
theorem dL_law_462 : decode cL_law 462 = .ok (.iconst 1, 1) := by decide +kernel
theorem dL_law_463 : decode cL_law 463 = .ok (.iadd, 1) := by decide +kernel
theorem dL_law_464 : decode cL_law 464 = .ok (.iaload, 1) := by decide +kernel
theorem dL_law_465 : decode cL_law 465 = .ok (.aload_n 0, 1) := by decide +kernel
theorem dL_law_466 : decode cL_law 466 = .ok (.iload_n 3, 1) := by decide +kernel
theorem dL_law_467 : decode cL_law 467 = .ok (.iconst 2, 1) := by decide +kernel
theorem dL_law_468 : decode cL_law 468 = .ok (.iadd, 1) := by decide +kernel
theorem dL_law_469 : decode cL_law 469 = .ok (.iaload, 1) := by decide +kernel
theorem dL_law_470 : decode cL_law 470 = .ok (.invokevirtual 48, 3) := by decide +kernel
theorem dL_law_473 : decode cL_law 473 = .ok (.if_icmp .eq 1162, 3) := by decide +kernel
theorem dL_law_478 : decode cL_law 478 = .ok (.aload_n 1, 1) := by decide +kernel
theorem dL_law_479 : decode cL_law 479 = .ok (.aload_n 0, 1) := by decide +kernel
theorem dL_law_480 : decode cL_law 480 = .ok (.iload_n 3, 1) := by decide +kernel
theorem dL_law_481 : decode cL_law 481 = .ok (.iconst 1, 1) := by decide +kernel
theorem dL_law_482 : decode cL_law 482 = .ok (.iadd, 1) := by decide +kernel
theorem dL_law_483 : decode cL_law 483 = .ok (.iaload, 1) := by decide +kernel
theorem dL_law_484 : decode cL_law 484 = .ok (.aload_n 0, 1) := by decide +kernel
theorem dL_law_485 : decode cL_law 485 = .ok (.iload_n 3, 1) := by decide +kernel
theorem dL_law_486 : decode cL_law 486 = .ok (.iconst 2, 1) := by decide +kernel
theorem dL_law_487 : decode cL_law 487 = .ok (.iadd, 1) := by decide +kernel
theorem dL_law_488 : decode cL_law 488 = .ok (.iaload, 1) := by decide +kernel
theorem dL_law_489 : decode cL_law 489 = .ok (.invokevirtual 49, 3) := by decide +kernel
theorem dL_law_492 : decode cL_law 492 = .ok (.aload_n 2, 1) := by decide +kernel
theorem dL_law_493 : decode cL_law 493 = .ok (.aload_n 0, 1) := by decide +kernel
theorem dL_law_494 : decode cL_law 494 = .ok (.iload_n 3, 1) := by decide +kernel
theorem dL_law_495 : decode cL_law 495 = .ok (.iconst 1, 1) := by decide +kernel
theorem dL_law_496 : decode cL_law 496 = .ok (.iadd, 1) := by decide +kernel
theorem dL_law_497 : decode cL_law 497 = .ok (.iaload, 1) := by decide +kernel
theorem dL_law_498 : decode cL_law 498 = .ok (.aload_n 0, 1) := by decide +kernel
theorem dL_law_499 : decode cL_law 499 = .ok (.iload_n 3, 1) := by decide +kernel
theorem dL_law_500 : decode cL_law 500 = .ok (.iconst 2, 1) := by decide +kernel
theorem dL_law_501 : decode cL_law 501 = .ok (.iadd, 1) := by decide +kernel
theorem dL_law_502 : decode cL_law 502 = .ok (.iaload, 1) := by decide +kernel
theorem dL_law_503 : decode cL_law 503 = .ok (.invokevirtual 52, 3) := by decide +kernel
theorem dL_law_506 : decode cL_law 506 = .ok (.if_icmp .eq 1129, 3) := by decide +kernel
theorem dL_law_511 : decode cL_law 511 = .ok (.aload_n 1, 1) := by decide +kernel
theorem dL_law_512 : decode cL_law 512 = .ok (.aload_n 0, 1) := by decide +kernel
theorem dL_law_513 : decode cL_law 513 = .ok (.iload_n 3, 1) := by decide +kernel
theorem dL_law_514 : decode cL_law 514 = .ok (.iconst 1, 1) := by decide +kernel
theorem dL_law_515 : decode cL_law 515 = .ok (.iadd, 1) := by decide +kernel
theorem dL_law_516 : decode cL_law 516 = .ok (.iaload, 1) := by decide +kernel
theorem dL_law_517 : decode cL_law 517 = .ok (.aload_n 0, 1) := by decide +kernel
theorem dL_law_518 : decode cL_law 518 = .ok (.iload_n 3, 1) := by decide +kernel
theorem dL_law_519 : decode cL_law 519 = .ok (.iconst 2, 1) := by decide +kernel
theorem dL_law_520 : decode cL_law 520 = .ok (.iadd, 1) := by decide +kernel
theorem dL_law_521 : decode cL_law 521 = .ok (.iaload, 1) := by decide +kernel
theorem dL_law_522 : decode cL_law 522 = .ok (.invokevirtual 53, 3) := by decide +kernel
theorem dL_law_525 : decode cL_law 525 = .ok (.aload_n 2, 1) := by decide +kernel
theorem dL_law_526 : decode cL_law 526 = .ok (.aload_n 0, 1) := by decide +kernel
theorem dL_law_527 : decode cL_law 527 = .ok (.iload_n 3, 1) := by decide +kernel
theorem dL_law_528 : decode cL_law 528 = .ok (.iconst 1, 1) := by decide +kernel
theorem dL_law_529 : decode cL_law 529 = .ok (.iadd, 1) := by decide +kernel
theorem dL_law_530 : decode cL_law 530 = .ok (.iaload, 1) := by decide +kernel
theorem dL_law_531 : decode cL_law 531 = .ok (.aload_n 0, 1) := by decide +kernel
theorem dL_law_532 : decode cL_law 532 = .ok (.iload_n 3, 1) := by decide +kernel
theorem dL_law_533 : decode cL_law 533 = .ok (.iconst 2, 1) := by decide +kernel
theorem dL_law_534 : decode cL_law 534 = .ok (.iadd, 1) := by decide +kernel
theorem dL_law_535 : decode cL_law 535 = .ok (.iaload, 1) := by decide +kernel
theorem dL_law_536 : decode cL_law 536 = .ok (.invokevirtual 56, 3) := by decide +kernel
theorem dL_law_539 : decode cL_law 539 = .ok (.if_icmp .eq 1096, 3) := by decide +kernel
theorem dL_law_544 : decode cL_law 544 = .ok (.aload_n 1, 1) := by decide +kernel
theorem dL_law_545 : decode cL_law 545 = .ok (.aload_n 0, 1) := by decide +kernel
theorem dL_law_546 : decode cL_law 546 = .ok (.iload_n 3, 1) := by decide +kernel
theorem dL_law_547 : decode cL_law 547 = .ok (.iconst 1, 1) := by decide +kernel
theorem dL_law_548 : decode cL_law 548 = .ok (.iadd, 1) := by decide +kernel
theorem dL_law_549 : decode cL_law 549 = .ok (.iaload, 1) := by decide +kernel
theorem dL_law_550 : decode cL_law 550 = .ok (.aload_n 0, 1) := by decide +kernel
theorem dL_law_551 : decode cL_law 551 = .ok (.iload_n 3, 1) := by decide +kernel
theorem dL_law_552 : decode cL_law 552 = .ok (.iconst 2, 1) := by decide +kernel
theorem dL_law_553 : decode cL_law 553 = .ok (.iadd, 1) := by decide +kernel
theorem dL_law_554 : decode cL_law 554 = .ok (.iaload, 1) := by decide +kernel
theorem dL_law_555 : decode cL_law 555 = .ok (.invokevirtual 57, 3) := by decide +kernel
theorem dL_law_558 : decode cL_law 558 = .ok (.aload_n 2, 1) := by decide +kernel
theorem dL_law_559 : decode cL_law 559 = .ok (.aload_n 0, 1) := by decide +kernel
theorem dL_law_560 : decode cL_law 560 = .ok (.iload_n 3, 1) := by decide +kernel
theorem dL_law_561 : decode cL_law 561 = .ok (.iconst 1, 1) := by decide +kernel
theorem dL_law_562 : decode cL_law 562 = .ok (.iadd, 1) := by decide +kernel
theorem dL_law_563 : decode cL_law 563 = .ok (.iaload, 1) := by decide +kernel
theorem dL_law_564 : decode cL_law 564 = .ok (.aload_n 0, 1) := by decide +kernel
theorem dL_law_565 : decode cL_law 565 = .ok (.iload_n 3, 1) := by decide +kernel
theorem dL_law_566 : decode cL_law 566 = .ok (.iconst 2, 1) := by decide +kernel
theorem dL_law_567 : decode cL_law 567 = .ok (.iadd, 1) := by decide +kernel
theorem dL_law_568 : decode cL_law 568 = .ok (.iaload, 1) := by decide +kernel
theorem dL_law_569 : decode cL_law 569 = .ok (.invokevirtual 60, 3) := by decide +kernel
theorem dL_law_572 : decode cL_law 572 = .ok (.if_icmp .eq 1063, 3) := by decide +kernel
theorem dL_law_577 : decode cL_law 577 = .ok (.aload_n 1, 1) := by decide +kernel
theorem dL_law_578 : decode cL_law 578 = .ok (.aload_n 0, 1) := by decide +kernel
theorem dL_law_579 : decode cL_law 579 = .ok (.iload_n 3, 1) := by decide +kernel
theorem dL_law_580 : decode cL_law 580 = .ok (.iconst 1, 1) := by decide +kernel
theorem dL_law_581 : decode cL_law 581 = .ok (.iadd, 1) := by decide +kernel
theorem dL_law_582 : decode cL_law 582 = .ok (.iaload, 1) := by decide +kernel
theorem dL_law_583 : decode cL_law 583 = .ok (.invokevirtual 61, 3) := by decide +kernel
theorem dL_law_586 : decode cL_law 586 = .ok (.aload_n 2, 1) := by decide +kernel
theorem dL_law_587 : decode cL_law 587 = .ok (.aload_n 0, 1) := by decide +kernel
theorem dL_law_588 : decode cL_law 588 = .ok (.iload_n 3, 1) := by decide +kernel
theorem dL_law_589 : decode cL_law 589 = .ok (.iconst 1, 1) := by decide +kernel
theorem dL_law_590 : decode cL_law 590 = .ok (.iadd, 1) := by decide +kernel
theorem dL_law_591 : decode cL_law 591 = .ok (.iaload, 1) := by decide +kernel
theorem dL_law_592 : decode cL_law 592 = .ok (.invokevirtual 64, 3) := by decide +kernel
theorem dL_law_595 : decode cL_law 595 = .ok (.if_icmp .eq 1040, 3) := by decide +kernel
theorem dL_law_600 : decode cL_law 600 = .ok (.aload_n 1, 1) := by decide +kernel
theorem dL_law_601 : decode cL_law 601 = .ok (.aload_n 0, 1) := by decide +kernel
theorem dL_law_602 : decode cL_law 602 = .ok (.iload_n 3, 1) := by decide +kernel
theorem dL_law_603 : decode cL_law 603 = .ok (.iconst 1, 1) := by decide +kernel
theorem dL_law_604 : decode cL_law 604 = .ok (.iadd, 1) := by decide +kernel
theorem dL_law_605 : decode cL_law 605 = .ok (.iaload, 1) := by decide +kernel
theorem dL_law_606 : decode cL_law 606 = .ok (.aload_n 0, 1) := by decide +kernel
theorem dL_law_607 : decode cL_law 607 = .ok (.iload_n 3, 1) := by decide +kernel
theorem dL_law_608 : decode cL_law 608 = .ok (.iconst 2, 1) := by decide +kernel
theorem dL_law_609 : decode cL_law 609 = .ok (.iadd, 1) := by decide +kernel
theorem dL_law_610 : decode cL_law 610 = .ok (.iaload, 1) := by decide +kernel
theorem dL_law_611 : decode cL_law 611 = .ok (.invokevirtual 65, 3) := by decide +kernel
theorem dL_law_614 : decode cL_law 614 = .ok (.aload_n 2, 1) := by decide +kernel
theorem dL_law_615 : decode cL_law 615 = .ok (.aload_n 0, 1) := by decide +kernel
theorem dL_law_616 : decode cL_law 616 = .ok (.iload_n 3, 1) := by decide +kernel
theorem dL_law_617 : decode cL_law 617 = .ok (.iconst 1, 1) := by decide +kernel
theorem dL_law_618 : decode cL_law 618 = .ok (.iadd, 1) := by decide +kernel
theorem dL_law_619 : decode cL_law 619 = .ok (.iaload, 1) := by decide +kernel
theorem dL_law_620 : decode cL_law 620 = .ok (.aload_n 0, 1) := by decide +kernel
theorem dL_law_621 : decode cL_law 621 = .ok (.iload_n 3, 1) := by decide +kernel
theorem dL_law_622 : decode cL_law 622 = .ok (.iconst 2, 1) := by decide +kernel
theorem dL_law_623 : decode cL_law 623 = .ok (.iadd, 1) := by decide +kernel
theorem dL_law_624 : decode cL_law 624 = .ok (.iaload, 1) := by decide +kernel
theorem dL_law_625 : decode cL_law 625 = .ok (.invokevirtual 68, 3) := by decide +kernel
theorem dL_law_628 : decode cL_law 628 = .ok (.if_icmp .eq 1007, 3) := by decide +kernel
theorem dL_law_633 : decode cL_law 633 = .ok (.aload_n 1, 1) := by decide +kernel
theorem dL_law_634 : decode cL_law 634 = .ok (.aload_n 0, 1) := by decide +kernel
theorem dL_law_635 : decode cL_law 635 = .ok (.iload_n 3, 1) := by decide +kernel
theorem dL_law_636 : decode cL_law 636 = .ok (.iconst 1, 1) := by decide +kernel
theorem dL_law_637 : decode cL_law 637 = .ok (.iadd, 1) := by decide +kernel
theorem dL_law_638 : decode cL_law 638 = .ok (.iaload, 1) := by decide +kernel
theorem dL_law_639 : decode cL_law 639 = .ok (.invokevirtual 69, 3) := by decide +kernel
theorem dL_law_642 : decode cL_law 642 = .ok (.aload_n 2, 1) := by decide +kernel
theorem dL_law_643 : decode cL_law 643 = .ok (.aload_n 0, 1) := by decide +kernel
theorem dL_law_644 : decode cL_law 644 = .ok (.iload_n 3, 1) := by decide +kernel
theorem dL_law_645 : decode cL_law 645 = .ok (.iconst 1, 1) := by decide +kernel
theorem dL_law_646 : decode cL_law 646 = .ok (.iadd, 1) := by decide +kernel
theorem dL_law_647 : decode cL_law 647 = .ok (.iaload, 1) := by decide +kernel
theorem dL_law_648 : decode cL_law 648 = .ok (.invokevirtual 72, 3) := by decide +kernel
theorem dL_law_651 : decode cL_law 651 = .ok (.if_icmp .eq 984, 3) := by decide +kernel
theorem dL_law_656 : decode cL_law 656 = .ok (.aload_n 1, 1) := by decide +kernel
theorem dL_law_657 : decode cL_law 657 = .ok (.aload_n 0, 1) := by decide +kernel
theorem dL_law_658 : decode cL_law 658 = .ok (.iload_n 3, 1) := by decide +kernel
theorem dL_law_659 : decode cL_law 659 = .ok (.iconst 1, 1) := by decide +kernel
theorem dL_law_660 : decode cL_law 660 = .ok (.iadd, 1) := by decide +kernel
theorem dL_law_661 : decode cL_law 661 = .ok (.iaload, 1) := by decide +kernel
theorem dL_law_662 : decode cL_law 662 = .ok (.aload_n 0, 1) := by decide +kernel
theorem dL_law_663 : decode cL_law 663 = .ok (.iload_n 3, 1) := by decide +kernel
theorem dL_law_664 : decode cL_law 664 = .ok (.iconst 2, 1) := by decide +kernel
theorem dL_law_665 : decode cL_law 665 = .ok (.iadd, 1) := by decide +kernel
theorem dL_law_666 : decode cL_law 666 = .ok (.iaload, 1) := by decide +kernel
theorem dL_law_667 : decode cL_law 667 = .ok (.invokevirtual 73, 3) := by decide +kernel
theorem dL_law_670 : decode cL_law 670 = .ok (.aload_n 2, 1) := by decide +kernel
theorem dL_law_671 : decode cL_law 671 = .ok (.aload_n 0, 1) := by decide +kernel
theorem dL_law_672 : decode cL_law 672 = .ok (.iload_n 3, 1) := by decide +kernel
theorem dL_law_673 : decode cL_law 673 = .ok (.iconst 1, 1) := by decide +kernel
theorem dL_law_674 : decode cL_law 674 = .ok (.iadd, 1) := by decide +kernel
theorem dL_law_675 : decode cL_law 675 = .ok (.iaload, 1) := by decide +kernel
theorem dL_law_676 : decode cL_law 676 = .ok (.aload_n 0, 1) := by decide +kernel
theorem dL_law_677 : decode cL_law 677 = .ok (.iload_n 3, 1) := by decide +kernel
theorem dL_law_678 : decode cL_law 678 = .ok (.iconst 2, 1) := by decide +kernel
theorem dL_law_679 : decode cL_law 679 = .ok (.iadd, 1) := by decide +kernel
theorem dL_law_680 : decode cL_law 680 = .ok (.iaload, 1) := by decide +kernel
theorem dL_law_681 : decode cL_law 681 = .ok (.invokevirtual 76, 3) := by decide +kernel
theorem dL_law_684 : decode cL_law 684 = .ok (.if_icmp .eq 951, 3) := by decide +kernel
theorem dL_law_689 : decode cL_law 689 = .ok (.aload_n 1, 1) := by decide +kernel
theorem dL_law_690 : decode cL_law 690 = .ok (.aload_n 0, 1) := by decide +kernel
theorem dL_law_691 : decode cL_law 691 = .ok (.iload_n 3, 1) := by decide +kernel
theorem dL_law_692 : decode cL_law 692 = .ok (.iconst 1, 1) := by decide +kernel
theorem dL_law_693 : decode cL_law 693 = .ok (.iadd, 1) := by decide +kernel
theorem dL_law_694 : decode cL_law 694 = .ok (.iaload, 1) := by decide +kernel
theorem dL_law_695 : decode cL_law 695 = .ok (.invokevirtual 77, 3) := by decide +kernel
theorem dL_law_698 : decode cL_law 698 = .ok (.aload_n 2, 1) := by decide +kernel
theorem dL_law_699 : decode cL_law 699 = .ok (.aload_n 0, 1) := by decide +kernel
theorem dL_law_700 : decode cL_law 700 = .ok (.iload_n 3, 1) := by decide +kernel
theorem dL_law_701 : decode cL_law 701 = .ok (.iconst 1, 1) := by decide +kernel
theorem dL_law_702 : decode cL_law 702 = .ok (.iadd, 1) := by decide +kernel
theorem dL_law_703 : decode cL_law 703 = .ok (.iaload, 1) := by decide +kernel
theorem dL_law_704 : decode cL_law 704 = .ok (.invokevirtual 80, 3) := by decide +kernel
theorem dL_law_707 : decode cL_law 707 = .ok (.if_icmp .eq 928, 3) := by decide +kernel
theorem dL_law_712 : decode cL_law 712 = .ok (.aload_n 1, 1) := by decide +kernel
theorem dL_law_713 : decode cL_law 713 = .ok (.aload_n 0, 1) := by decide +kernel
theorem dL_law_714 : decode cL_law 714 = .ok (.iload_n 3, 1) := by decide +kernel
theorem dL_law_715 : decode cL_law 715 = .ok (.iconst 1, 1) := by decide +kernel
theorem dL_law_716 : decode cL_law 716 = .ok (.iadd, 1) := by decide +kernel
theorem dL_law_717 : decode cL_law 717 = .ok (.iaload, 1) := by decide +kernel
theorem dL_law_718 : decode cL_law 718 = .ok (.aload_n 0, 1) := by decide +kernel
theorem dL_law_719 : decode cL_law 719 = .ok (.iload_n 3, 1) := by decide +kernel
theorem dL_law_720 : decode cL_law 720 = .ok (.iconst 2, 1) := by decide +kernel
theorem dL_law_721 : decode cL_law 721 = .ok (.iadd, 1) := by decide +kernel
theorem dL_law_722 : decode cL_law 722 = .ok (.iaload, 1) := by decide +kernel
theorem dL_law_723 : decode cL_law 723 = .ok (.aload_n 0, 1) := by decide +kernel
theorem dL_law_724 : decode cL_law 724 = .ok (.iload_n 3, 1) := by decide +kernel
theorem dL_law_725 : decode cL_law 725 = .ok (.iconst 3, 1) := by decide +kernel
theorem dL_law_726 : decode cL_law 726 = .ok (.iadd, 1) := by decide +kernel
theorem dL_law_727 : decode cL_law 727 = .ok (.iaload, 1) := by decide +kernel
theorem dL_law_728 : decode cL_law 728 = .ok (.invokevirtual 81, 3) := by decide +kernel
theorem dL_law_731 : decode cL_law 731 = .ok (.aload_n 2, 1) := by decide +kernel
theorem dL_law_732 : decode cL_law 732 = .ok (.aload_n 0, 1) := by decide +kernel
theorem dL_law_733 : decode cL_law 733 = .ok (.iload_n 3, 1) := by decide +kernel
theorem dL_law_734 : decode cL_law 734 = .ok (.iconst 1, 1) := by decide +kernel
theorem dL_law_735 : decode cL_law 735 = .ok (.iadd, 1) := by decide +kernel
theorem dL_law_736 : decode cL_law 736 = .ok (.iaload, 1) := by decide +kernel
theorem dL_law_737 : decode cL_law 737 = .ok (.aload_n 0, 1) := by decide +kernel
theorem dL_law_738 : decode cL_law 738 = .ok (.iload_n 3, 1) := by decide +kernel
theorem dL_law_739 : decode cL_law 739 = .ok (.iconst 2, 1) := by decide +kernel
theorem dL_law_740 : decode cL_law 740 = .ok (.iadd, 1) := by decide +kernel
theorem dL_law_741 : decode cL_law 741 = .ok (.iaload, 1) := by decide +kernel
theorem dL_law_742 : decode cL_law 742 = .ok (.aload_n 0, 1) := by decide +kernel
theorem dL_law_743 : decode cL_law 743 = .ok (.iload_n 3, 1) := by decide +kernel
theorem dL_law_744 : decode cL_law 744 = .ok (.iconst 3, 1) := by decide +kernel
theorem dL_law_745 : decode cL_law 745 = .ok (.iadd, 1) := by decide +kernel
theorem dL_law_746 : decode cL_law 746 = .ok (.iaload, 1) := by decide +kernel
theorem dL_law_747 : decode cL_law 747 = .ok (.invokevirtual 85, 3) := by decide +kernel
theorem dL_law_750 : decode cL_law 750 = .ok (.if_icmp .eq 885, 3) := by decide +kernel
theorem dL_law_755 : decode cL_law 755 = .ok (.aload_n 1, 1) := by decide +kernel
theorem dL_law_756 : decode cL_law 756 = .ok (.aload_n 0, 1) := by decide +kernel
theorem dL_law_757 : decode cL_law 757 = .ok (.iload_n 3, 1) := by decide +kernel
theorem dL_law_758 : decode cL_law 758 = .ok (.iconst 1, 1) := by decide +kernel
theorem dL_law_759 : decode cL_law 759 = .ok (.iadd, 1) := by decide +kernel
theorem dL_law_760 : decode cL_law 760 = .ok (.iaload, 1) := by decide +kernel
theorem dL_law_761 : decode cL_law 761 = .ok (.invokevirtual 86, 3) := by decide +kernel
theorem dL_law_764 : decode cL_law 764 = .ok (.aload_n 2, 1) := by decide +kernel
theorem dL_law_765 : decode cL_law 765 = .ok (.aload_n 0, 1) := by decide +kernel
theorem dL_law_766 : decode cL_law 766 = .ok (.iload_n 3, 1) := by decide +kernel
theorem dL_law_767 : decode cL_law 767 = .ok (.iconst 1, 1) := by decide +kernel
theorem dL_law_768 : decode cL_law 768 = .ok (.iadd, 1) := by decide +kernel
theorem dL_law_769 : decode cL_law 769 = .ok (.iaload, 1) := by decide +kernel
theorem dL_law_770 : decode cL_law 770 = .ok (.invokevirtual 89, 3) := by decide +kernel
theorem dL_law_773 : decode cL_law 773 = .ok (.if_icmp .eq 862, 3) := by decide +kernel
theorem dL_law_778 : decode cL_law 778 = .ok (.aload_n 1, 1) := by decide +kernel
theorem dL_law_779 : decode cL_law 779 = .ok (.invokevirtual 90, 3) := by decide +kernel
theorem dL_law_782 : decode cL_law 782 = .ok (.aload_n 2, 1) := by decide +kernel
theorem dL_law_783 : decode cL_law 783 = .ok (.invokevirtual 93, 3) := by decide +kernel
theorem dL_law_786 : decode cL_law 786 = .ok (.if_icmp .eq 849, 3) := by decide +kernel
theorem dL_law_791 : decode cL_law 791 = .ok (.aload_n 1, 1) := by decide +kernel
theorem dL_law_792 : decode cL_law 792 = .ok (.invokevirtual 94, 3) := by decide +kernel
theorem dL_law_795 : decode cL_law 795 = .ok (.aload_n 2, 1) := by decide +kernel
theorem dL_law_796 : decode cL_law 796 = .ok (.invokevirtual 97, 3) := by decide +kernel
theorem dL_law_799 : decode cL_law 799 = .ok (.if_icmp .eq 836, 3) := by decide +kernel
theorem dL_law_804 : decode cL_law 804 = .ok (.aload_n 1, 1) := by decide +kernel
theorem dL_law_805 : decode cL_law 805 = .ok (.invokevirtual 98, 3) := by decide +kernel
theorem dL_law_808 : decode cL_law 808 = .ok (.aload_n 2, 1) := by decide +kernel
theorem dL_law_809 : decode cL_law 809 = .ok (.invokevirtual 101, 3) := by decide +kernel
theorem dL_law_812 : decode cL_law 812 = .ok (.if_icmp .eq 823, 3) := by decide +kernel
theorem dL_law_817 : decode cL_law 817 = .ok (.aload_n 1, 1) := by decide +kernel
theorem dL_law_818 : decode cL_law 818 = .ok (.aload_n 0, 1) := by decide +kernel
theorem dL_law_819 : decode cL_law 819 = .ok (.iload_n 3, 1) := by decide +kernel
theorem dL_law_820 : decode cL_law 820 = .ok (.iconst 1, 1) := by decide +kernel
theorem dL_law_821 : decode cL_law 821 = .ok (.iadd, 1) := by decide +kernel
theorem dL_law_822 : decode cL_law 822 = .ok (.iaload, 1) := by decide +kernel
theorem dL_law_823 : decode cL_law 823 = .ok (.aload_n 0, 1) := by decide +kernel
theorem dL_law_824 : decode cL_law 824 = .ok (.iload_n 3, 1) := by decide +kernel
theorem dL_law_825 : decode cL_law 825 = .ok (.iconst 2, 1) := by decide +kernel
theorem dL_law_826 : decode cL_law 826 = .ok (.iadd, 1) := by decide +kernel
theorem dL_law_827 : decode cL_law 827 = .ok (.iaload, 1) := by decide +kernel
theorem dL_law_828 : decode cL_law 828 = .ok (.invokevirtual 102, 3) := by decide +kernel
theorem dL_law_831 : decode cL_law 831 = .ok (.aload_n 2, 1) := by decide +kernel
theorem dL_law_832 : decode cL_law 832 = .ok (.aload_n 0, 1) := by decide +kernel
theorem dL_law_833 : decode cL_law 833 = .ok (.iload_n 3, 1) := by decide +kernel
theorem dL_law_834 : decode cL_law 834 = .ok (.iconst 1, 1) := by decide +kernel
theorem dL_law_835 : decode cL_law 835 = .ok (.iadd, 1) := by decide +kernel
theorem dL_law_836 : decode cL_law 836 = .ok (.iaload, 1) := by decide +kernel
theorem dL_law_837 : decode cL_law 837 = .ok (.aload_n 0, 1) := by decide +kernel
theorem dL_law_838 : decode cL_law 838 = .ok (.iload_n 3, 1) := by decide +kernel
theorem dL_law_839 : decode cL_law 839 = .ok (.iconst 2, 1) := by decide +kernel
theorem dL_law_840 : decode cL_law 840 = .ok (.iadd, 1) := by decide +kernel
theorem dL_law_841 : decode cL_law 841 = .ok (.iaload, 1) := by decide +kernel
theorem dL_law_842 : decode cL_law 842 = .ok (.invokevirtual 105, 3) := by decide +kernel
theorem dL_law_845 : decode cL_law 845 = .ok (.if_icmp .eq 790, 3) := by decide +kernel
theorem dL_law_850 : decode cL_law 850 = .ok (.aload_n 1, 1) := by decide +kernel
theorem dL_law_851 : decode cL_law 851 = .ok (.aload_n 0, 1) := by decide +kernel
theorem dL_law_852 : decode cL_law 852 = .ok (.iload_n 3, 1) := by decide +kernel
theorem dL_law_853 : decode cL_law 853 = .ok (.iconst 1, 1) := by decide +kernel
theorem dL_law_854 : decode cL_law 854 = .ok (.iadd, 1) := by decide +kernel
theorem dL_law_855 : decode cL_law 855 = .ok (.iaload, 1) := by decide +kernel
theorem dL_law_856 : decode cL_law 856 = .ok (.invokevirtual 106, 3) := by decide +kernel
theorem dL_law_859 : decode cL_law 859 = .ok (.aload_n 2, 1) := by decide +kernel
theorem dL_law_860 : decode cL_law 860 = .ok (.aload_n 0, 1) := by decide +kernel
theorem dL_law_861 : decode cL_law 861 = .ok (.iload_n 3, 1) := by decide +kernel
theorem dL_law_862 : decode cL_law 862 = .ok (.iconst 1, 1) := by decide +kernel
theorem dL_law_863 : decode cL_law 863 = .ok (.iadd, 1) := by decide +kernel
theorem dL_law_864 : decode cL_law 864 = .ok (.iaload, 1) := by decide +kernel
theorem dL_law_865 : decode cL_law 865 = .ok (.invokevirtual 109, 3) := by decide +kernel
theorem dL_law_868 : decode cL_law 868 = .ok (.if_icmp .eq 767, 3) := by decide +kernel
theorem dL_law_873 : decode cL_law 873 = .ok (.aload_n 1, 1) := by decide +kernel
theorem dL_law_874 : decode cL_law 874 = .ok (.aload_n 0, 1) := by decide +kernel
theorem dL_law_875 : decode cL_law 875 = .ok (.iload_n 3, 1) := by decide +kernel
theorem dL_law_876 : decode cL_law 876 = .ok (.iconst 1, 1) := by decide +kernel
theorem dL_law_877 : decode cL_law 877 = .ok (.iadd, 1) := by decide +kernel
theorem dL_law_878 : decode cL_law 878 = .ok (.iaload, 1) := by decide +kernel
theorem dL_law_879 : decode cL_law 879 = .ok (.invokevirtual 110, 3) := by decide +kernel
theorem dL_law_882 : decode cL_law 882 = .ok (.aload_n 2, 1) := by decide +kernel
theorem dL_law_883 : decode cL_law 883 = .ok (.aload_n 0, 1) := by decide +kernel
theorem dL_law_884 : decode cL_law 884 = .ok (.iload_n 3, 1) := by decide +kernel
theorem dL_law_885 : decode cL_law 885 = .ok (.iconst 1, 1) := by decide +kernel
theorem dL_law_886 : decode cL_law 886 = .ok (.iadd, 1) := by decide +kernel
theorem dL_law_887 : decode cL_law 887 = .ok (.iaload, 1) := by decide +kernel
theorem dL_law_888 : decode cL_law 888 = .ok (.invokevirtual 113, 3) := by decide +kernel
theorem dL_law_891 : decode cL_law 891 = .ok (.if_icmp .eq 744, 3) := by decide +kernel
theorem dL_law_896 : decode cL_law 896 = .ok (.aload_n 1, 1) := by decide +kernel
theorem dL_law_897 : decode cL_law 897 = .ok (.aload_n 0, 1) := by decide +kernel
theorem dL_law_898 : decode cL_law 898 = .ok (.iload_n 3, 1) := by decide +kernel
theorem dL_law_899 : decode cL_law 899 = .ok (.iconst 1, 1) := by decide +kernel
theorem dL_law_900 : decode cL_law 900 = .ok (.iadd, 1) := by decide +kernel
theorem dL_law_901 : decode cL_law 901 = .ok (.iaload, 1) := by decide +kernel
theorem dL_law_902 : decode cL_law 902 = .ok (.invokevirtual 114, 3) := by decide +kernel
theorem dL_law_905 : decode cL_law 905 = .ok (.aload_n 2, 1) := by decide +kernel
theorem dL_law_906 : decode cL_law 906 = .ok (.aload_n 0, 1) := by decide +kernel
theorem dL_law_907 : decode cL_law 907 = .ok (.iload_n 3, 1) := by decide +kernel
theorem dL_law_908 : decode cL_law 908 = .ok (.iconst 1, 1) := by decide +kernel
theorem dL_law_909 : decode cL_law 909 = .ok (.iadd, 1) := by decide +kernel
theorem dL_law_910 : decode cL_law 910 = .ok (.iaload, 1) := by decide +kernel
theorem dL_law_911 : decode cL_law 911 = .ok (.invokevirtual 117, 3) := by decide +kernel
theorem dL_law_914 : decode cL_law 914 = .ok (.if_icmp .eq 721, 3) := by decide +kernel
theorem dL_law_919 : decode cL_law 919 = .ok (.aload_n 1, 1) := by decide +kernel
theorem dL_law_920 : decode cL_law 920 = .ok (.aload_n 0, 1) := by decide +kernel
theorem dL_law_921 : decode cL_law 921 = .ok (.iload_n 3, 1) := by decide +kernel
theorem dL_law_922 : decode cL_law 922 = .ok (.iconst 1, 1) := by decide +kernel
theorem dL_law_923 : decode cL_law 923 = .ok (.iadd, 1) := by decide +kernel
theorem dL_law_924 : decode cL_law 924 = .ok (.iaload, 1) := by decide +kernel
theorem dL_law_925 : decode cL_law 925 = .ok (.aload_n 0, 1) := by decide +kernel
theorem dL_law_926 : decode cL_law 926 = .ok (.iload_n 3, 1) := by decide +kernel
theorem dL_law_927 : decode cL_law 927 = .ok (.iconst 2, 1) := by decide +kernel
theorem dL_law_928 : decode cL_law 928 = .ok (.iadd, 1) := by decide +kernel
theorem dL_law_929 : decode cL_law 929 = .ok (.iaload, 1) := by decide +kernel
theorem dL_law_930 : decode cL_law 930 = .ok (.invokevirtual 118, 3) := by decide +kernel
theorem dL_law_933 : decode cL_law 933 = .ok (.aload_n 2, 1) := by decide +kernel
theorem dL_law_934 : decode cL_law 934 = .ok (.aload_n 0, 1) := by decide +kernel
theorem dL_law_935 : decode cL_law 935 = .ok (.iload_n 3, 1) := by decide +kernel
theorem dL_law_936 : decode cL_law 936 = .ok (.iconst 1, 1) := by decide +kernel
theorem dL_law_937 : decode cL_law 937 = .ok (.iadd, 1) := by decide +kernel
theorem dL_law_938 : decode cL_law 938 = .ok (.iaload, 1) := by decide +kernel
theorem dL_law_939 : decode cL_law 939 = .ok (.aload_n 0, 1) := by decide +kernel
theorem dL_law_940 : decode cL_law 940 = .ok (.iload_n 3, 1) := by decide +kernel
theorem dL_law_941 : decode cL_law 941 = .ok (.iconst 2, 1) := by decide +kernel
theorem dL_law_942 : decode cL_law 942 = .ok (.iadd, 1) := by decide +kernel
theorem dL_law_943 : decode cL_law 943 = .ok (.iaload, 1) := by decide +kernel
theorem dL_law_944 : decode cL_law 944 = .ok (.invokevirtual 121, 3) := by decide +kernel
theorem dL_law_947 : decode cL_law 947 = .ok (.if_icmp .eq 688, 3) := by decide +kernel
theorem dL_law_952 : decode cL_law 952 = .ok (.aload_n 1, 1) := by decide +kernel
theorem dL_law_953 : decode cL_law 953 = .ok (.aload_n 0, 1) := by decide +kernel
theorem dL_law_954 : decode cL_law 954 = .ok (.iload_n 3, 1) := by decide +kernel
theorem dL_law_955 : decode cL_law 955 = .ok (.iconst 1, 1) := by decide +kernel
theorem dL_law_956 : decode cL_law 956 = .ok (.iadd, 1) := by decide +kernel
theorem dL_law_957 : decode cL_law 957 = .ok (.iaload, 1) := by decide +kernel
theorem dL_law_958 : decode cL_law 958 = .ok (.aload_n 0, 1) := by decide +kernel
theorem dL_law_959 : decode cL_law 959 = .ok (.iload_n 3, 1) := by decide +kernel
theorem dL_law_960 : decode cL_law 960 = .ok (.iconst 2, 1) := by decide +kernel
theorem dL_law_961 : decode cL_law 961 = .ok (.iadd, 1) := by decide +kernel
theorem dL_law_962 : decode cL_law 962 = .ok (.iaload, 1) := by decide +kernel
theorem dL_law_963 : decode cL_law 963 = .ok (.aload_n 0, 1) := by decide +kernel
theorem dL_law_964 : decode cL_law 964 = .ok (.iload_n 3, 1) := by decide +kernel
theorem dL_law_965 : decode cL_law 965 = .ok (.iconst 3, 1) := by decide +kernel
theorem dL_law_966 : decode cL_law 966 = .ok (.iadd, 1) := by decide +kernel
theorem dL_law_967 : decode cL_law 967 = .ok (.iaload, 1) := by decide +kernel
theorem dL_law_968 : decode cL_law 968 = .ok (.invokevirtual 122, 3) := by decide +kernel
theorem dL_law_971 : decode cL_law 971 = .ok (.aload_n 2, 1) := by decide +kernel
theorem dL_law_972 : decode cL_law 972 = .ok (.aload_n 0, 1) := by decide +kernel
theorem dL_law_973 : decode cL_law 973 = .ok (.iload_n 3, 1) := by decide +kernel
theorem dL_law_974 : decode cL_law 974 = .ok (.iconst 1, 1) := by decide +kernel
theorem dL_law_975 : decode cL_law 975 = .ok (.iadd, 1) := by decide +kernel
theorem dL_law_976 : decode cL_law 976 = .ok (.iaload, 1) := by decide +kernel
theorem dL_law_977 : decode cL_law 977 = .ok (.aload_n 0, 1) := by decide +kernel
theorem dL_law_978 : decode cL_law 978 = .ok (.iload_n 3, 1) := by decide +kernel
theorem dL_law_979 : decode cL_law 979 = .ok (.iconst 2, 1) := by decide +kernel
theorem dL_law_980 : decode cL_law 980 = .ok (.iadd, 1) := by decide +kernel
theorem dL_law_981 : decode cL_law 981 = .ok (.iaload, 1) := by decide +kernel
theorem dL_law_982 : decode cL_law 982 = .ok (.aload_n 0, 1) := by decide +kernel
theorem dL_law_983 : decode cL_law 983 = .ok (.iload_n 3, 1) := by decide +kernel
theorem dL_law_984 : decode cL_law 984 = .ok (.iconst 3, 1) := by decide +kernel
theorem dL_law_985 : decode cL_law 985 = .ok (.iadd, 1) := by decide +kernel
theorem dL_law_986 : decode cL_law 986 = .ok (.iaload, 1) := by decide +kernel
theorem dL_law_987 : decode cL_law 987 = .ok (.invokevirtual 125, 3) := by decide +kernel
theorem dL_law_990 : decode cL_law 990 = .ok (.if_icmp .eq 645, 3) := by decide +kernel
theorem dL_law_995 : decode cL_law 995 = .ok (.aload_n 1, 1) := by decide +kernel
theorem dL_law_996 : decode cL_law 996 = .ok (.aload_n 0, 1) := by decide +kernel
theorem dL_law_997 : decode cL_law 997 = .ok (.iload_n 3, 1) := by decide +kernel
theorem dL_law_998 : decode cL_law 998 = .ok (.iconst 1, 1) := by decide +kernel
theorem dL_law_999 : decode cL_law 999 = .ok (.iadd, 1) := by decide +kernel
theorem dL_law_1000 : decode cL_law 1000 = .ok (.iaload, 1) := by decide +kernel
theorem dL_law_1001 : decode cL_law 1001 = .ok (.invokevirtual 126, 3) := by decide +kernel
theorem dL_law_1004 : decode cL_law 1004 = .ok (.aload_n 2, 1) := by decide +kernel
theorem dL_law_1005 : decode cL_law 1005 = .ok (.aload_n 0, 1) := by decide +kernel
theorem dL_law_1006 : decode cL_law 1006 = .ok (.iload_n 3, 1) := by decide +kernel
theorem dL_law_1007 : decode cL_law 1007 = .ok (.iconst 1, 1) := by decide +kernel
theorem dL_law_1008 : decode cL_law 1008 = .ok (.iadd, 1) := by decide +kernel
theorem dL_law_1009 : decode cL_law 1009 = .ok (.iaload, 1) := by decide +kernel
theorem dL_law_1010 : decode cL_law 1010 = .ok (.invokevirtual 129, 3) := by decide +kernel
theorem dL_law_1013 : decode cL_law 1013 = .ok (.if_icmp .eq 622, 3) := by decide +kernel
theorem dL_law_1018 : decode cL_law 1018 = .ok (.aload_n 1, 1) := by decide +kernel
theorem dL_law_1019 : decode cL_law 1019 = .ok (.aload_n 0, 1) := by decide +kernel
theorem dL_law_1020 : decode cL_law 1020 = .ok (.iload_n 3, 1) := by decide +kernel
theorem dL_law_1021 : decode cL_law 1021 = .ok (.iconst 1, 1) := by decide +kernel
theorem dL_law_1022 : decode cL_law 1022 = .ok (.iadd, 1) := by decide +kernel
theorem dL_law_1023 : decode cL_law 1023 = .ok (.iaload, 1) := by decide +kernel
theorem dL_law_1024 : decode cL_law 1024 = .ok (.aload_n 0, 1) := by decide +kernel
theorem dL_law_1025 : decode cL_law 1025 = .ok (.iload_n 3, 1) := by decide +kernel
theorem dL_law_1026 : decode cL_law 1026 = .ok (.iconst 2, 1) := by decide +kernel
theorem dL_law_1027 : decode cL_law 1027 = .ok (.iadd, 1) := by decide +kernel
theorem dL_law_1028 : decode cL_law 1028 = .ok (.iaload, 1) := by decide +kernel
theorem dL_law_1029 : decode cL_law 1029 = .ok (.invokevirtual 130, 3) := by decide +kernel
theorem dL_law_1032 : decode cL_law 1032 = .ok (.aload_n 2, 1) := by decide +kernel
theorem dL_law_1033 : decode cL_law 1033 = .ok (.aload_n 0, 1) := by decide +kernel
theorem dL_law_1034 : decode cL_law 1034 = .ok (.iload_n 3, 1) := by decide +kernel
theorem dL_law_1035 : decode cL_law 1035 = .ok (.iconst 1, 1) := by decide +kernel
theorem dL_law_1036 : decode cL_law 1036 = .ok (.iadd, 1) := by decide +kernel
theorem dL_law_1037 : decode cL_law 1037 = .ok (.iaload, 1) := by decide +kernel
theorem dL_law_1038 : decode cL_law 1038 = .ok (.aload_n 0, 1) := by decide +kernel
theorem dL_law_1039 : decode cL_law 1039 = .ok (.iload_n 3, 1) := by decide +kernel
theorem dL_law_1040 : decode cL_law 1040 = .ok (.iconst 2, 1) := by decide +kernel
theorem dL_law_1041 : decode cL_law 1041 = .ok (.iadd, 1) := by decide +kernel
theorem dL_law_1042 : decode cL_law 1042 = .ok (.iaload, 1) := by decide +kernel
theorem dL_law_1043 : decode cL_law 1043 = .ok (.invokevirtual 133, 3) := by decide +kernel
theorem dL_law_1046 : decode cL_law 1046 = .ok (.if_icmp .eq 589, 3) := by decide +kernel
theorem dL_law_1051 : decode cL_law 1051 = .ok (.aload_n 1, 1) := by decide +kernel
theorem dL_law_1052 : decode cL_law 1052 = .ok (.aload_n 0, 1) := by decide +kernel
theorem dL_law_1053 : decode cL_law 1053 = .ok (.iload_n 3, 1) := by decide +kernel
theorem dL_law_1054 : decode cL_law 1054 = .ok (.iconst 1, 1) := by decide +kernel
theorem dL_law_1055 : decode cL_law 1055 = .ok (.iadd, 1) := by decide +kernel
theorem dL_law_1056 : decode cL_law 1056 = .ok (.iaload, 1) := by decide +kernel
theorem dL_law_1057 : decode cL_law 1057 = .ok (.aload_n 0, 1) := by decide +kernel
theorem dL_law_1058 : decode cL_law 1058 = .ok (.iload_n 3, 1) := by decide +kernel
theorem dL_law_1059 : decode cL_law 1059 = .ok (.iconst 2, 1) := by decide +kernel
theorem dL_law_1060 : decode cL_law 1060 = .ok (.iadd, 1) := by decide +kernel
theorem dL_law_1061 : decode cL_law 1061 = .ok (.iaload, 1) := by decide +kernel
theorem dL_law_1062 : decode cL_law 1062 = .ok (.invokevirtual 134, 3) := by decide +kernel
theorem dL_law_1065 : decode cL_law 1065 = .ok (.aload_n 2, 1) := by decide +kernel
theorem dL_law_1066 : decode cL_law 1066 = .ok (.aload_n 0, 1) := by decide +kernel
theorem dL_law_1067 : decode cL_law 1067 = .ok (.iload_n 3, 1) := by decide +kernel
theorem dL_law_1068 : decode cL_law 1068 = .ok (.iconst 1, 1) := by decide +kernel
theorem dL_law_1069 : decode cL_law 1069 = .ok (.iadd, 1) := by decide +kernel
theorem dL_law_1070 : decode cL_law 1070 = .ok (.iaload, 1) := by decide +kernel
theorem dL_law_1071 : decode cL_law 1071 = .ok (.aload_n 0, 1) := by decide +kernel
theorem dL_law_1072 : decode cL_law 1072 = .ok (.iload_n 3, 1) := by decide +kernel
theorem dL_law_1073 : decode cL_law 1073 = .ok (.iconst 2, 1) := by decide +kernel
theorem dL_law_1074 : decode cL_law 1074 = .ok (.iadd, 1) := by decide +kernel
theorem dL_law_1075 : decode cL_law 1075 = .ok (.iaload, 1) := by decide +kernel
theorem dL_law_1076 : decode cL_law 1076 = .ok (.invokevirtual 137, 3) := by decide +kernel
theorem dL_law_1079 : decode cL_law 1079 = .ok (.if_icmp .eq 556, 3) := by decide +kernel
theorem dL_law_1084 : decode cL_law 1084 = .ok (.aload_n 1, 1) := by decide +kernel
theorem dL_law_1085 : decode cL_law 1085 = .ok (.aload_n 0, 1) := by decide +kernel
theorem dL_law_1086 : decode cL_law 1086 = .ok (.iload_n 3, 1) := by decide +kernel
theorem dL_law_1087 : decode cL_law 1087 = .ok (.iconst 1, 1) := by decide +kernel
theorem dL_law_1088 : decode cL_law 1088 = .ok (.iadd, 1) := by decide +kernel
theorem dL_law_1089 : decode cL_law 1089 = .ok (.iaload, 1) := by decide +kernel
theorem dL_law_1090 : decode cL_law 1090 = .ok (.invokevirtual 138, 3) := by decide +kernel
theorem dL_law_1093 : decode cL_law 1093 = .ok (.aload_n 2, 1) := by decide +kernel
theorem dL_law_1094 : decode cL_law 1094 = .ok (.aload_n 0, 1) := by decide +kernel
theorem dL_law_1095 : decode cL_law 1095 = .ok (.iload_n 3, 1) := by decide +kernel
theorem dL_law_1096 : decode cL_law 1096 = .ok (.iconst 1, 1) := by decide +kernel
theorem dL_law_1097 : decode cL_law 1097 = .ok (.iadd, 1) := by decide +kernel
theorem dL_law_1098 : decode cL_law 1098 = .ok (.iaload, 1) := by decide +kernel
theorem dL_law_1099 : decode cL_law 1099 = .ok (.invokevirtual 141, 3) := by decide +kernel
theorem dL_law_1102 : decode cL_law 1102 = .ok (.if_icmp .eq 533, 3) := by decide +kernel
theorem dL_law_1107 : decode cL_law 1107 = .ok (.aload_n 1, 1) := by decide +kernel
theorem dL_law_1108 : decode cL_law 1108 = .ok (.aload_n 0, 1) := by decide +kernel
theorem dL_law_1109 : decode cL_law 1109 = .ok (.iload_n 3, 1) := by decide +kernel
theorem dL_law_1110 : decode cL_law 1110 = .ok (.iconst 1, 1) := by decide +kernel
theorem dL_law_1111 : decode cL_law 1111 = .ok (.iadd, 1) := by decide +kernel
theorem dL_law_1112 : decode cL_law 1112 = .ok (.iaload, 1) := by decide +kernel
theorem dL_law_1113 : decode cL_law 1113 = .ok (.aload_n 0, 1) := by decide +kernel
theorem dL_law_1114 : decode cL_law 1114 = .ok (.iload_n 3, 1) := by decide +kernel
theorem dL_law_1115 : decode cL_law 1115 = .ok (.iconst 2, 1) := by decide +kernel
theorem dL_law_1116 : decode cL_law 1116 = .ok (.iadd, 1) := by decide +kernel
theorem dL_law_1117 : decode cL_law 1117 = .ok (.iaload, 1) := by decide +kernel
theorem dL_law_1118 : decode cL_law 1118 = .ok (.invokevirtual 142, 3) := by decide +kernel
theorem dL_law_1121 : decode cL_law 1121 = .ok (.aload_n 2, 1) := by decide +kernel
theorem dL_law_1122 : decode cL_law 1122 = .ok (.aload_n 0, 1) := by decide +kernel
theorem dL_law_1123 : decode cL_law 1123 = .ok (.iload_n 3, 1) := by decide +kernel
theorem dL_law_1124 : decode cL_law 1124 = .ok (.iconst 1, 1) := by decide +kernel
theorem dL_law_1125 : decode cL_law 1125 = .ok (.iadd, 1) := by decide +kernel
theorem dL_law_1126 : decode cL_law 1126 = .ok (.iaload, 1) := by decide +kernel
theorem dL_law_1127 : decode cL_law 1127 = .ok (.aload_n 0, 1) := by decide +kernel
theorem dL_law_1128 : decode cL_law 1128 = .ok (.iload_n 3, 1) := by decide +kernel
theorem dL_law_1129 : decode cL_law 1129 = .ok (.iconst 2, 1) := by decide +kernel
theorem dL_law_1130 : decode cL_law 1130 = .ok (.iadd, 1) := by decide +kernel
theorem dL_law_1131 : decode cL_law 1131 = .ok (.iaload, 1) := by decide +kernel
theorem dL_law_1132 : decode cL_law 1132 = .ok (.invokevirtual 145, 3) := by decide +kernel
theorem dL_law_1135 : decode cL_law 1135 = .ok (.if_icmp .eq 500, 3) := by decide +kernel
theorem dL_law_1140 : decode cL_law 1140 = .ok (.aload_n 1, 1) := by decide +kernel
theorem dL_law_1141 : decode cL_law 1141 = .ok (.aload_n 0, 1) := by decide +kernel
theorem dL_law_1142 : decode cL_law 1142 = .ok (.iload_n 3, 1) := by decide +kernel
theorem dL_law_1143 : decode cL_law 1143 = .ok (.iconst 1, 1) := by decide +kernel
theorem dL_law_1144 : decode cL_law 1144 = .ok (.iadd, 1) := by decide +kernel
theorem dL_law_1145 : decode cL_law 1145 = .ok (.iaload, 1) := by decide +kernel
theorem dL_law_1146 : decode cL_law 1146 = .ok (.invokevirtual 146, 3) := by decide +kernel
theorem dL_law_1149 : decode cL_law 1149 = .ok (.aload_n 2, 1) := by decide +kernel
theorem dL_law_1150 : decode cL_law 1150 = .ok (.aload_n 0, 1) := by decide +kernel
theorem dL_law_1151 : decode cL_law 1151 = .ok (.iload_n 3, 1) := by decide +kernel
theorem dL_law_1152 : decode cL_law 1152 = .ok (.iconst 1, 1) := by decide +kernel
theorem dL_law_1153 : decode cL_law 1153 = .ok (.iadd, 1) := by decide +kernel
theorem dL_law_1154 : decode cL_law 1154 = .ok (.iaload, 1) := by decide +kernel
theorem dL_law_1155 : decode cL_law 1155 = .ok (.invokevirtual 149, 3) := by decide +kernel
theorem dL_law_1158 : decode cL_law 1158 = .ok (.if_icmp .eq 477, 3) := by decide +kernel
theorem dL_law_1163 : decode cL_law 1163 = .ok (.aload_n 1, 1) := by decide +kernel
theorem dL_law_1164 : decode cL_law 1164 = .ok (.aload_n 0, 1) := by decide +kernel
theorem dL_law_1165 : decode cL_law 1165 = .ok (.iload_n 3, 1) := by decide +kernel
theorem dL_law_1166 : decode cL_law 1166 = .ok (.iconst 1, 1) := by decide +kernel
theorem dL_law_1167 : decode cL_law 1167 = .ok (.iadd, 1) := by decide +kernel
theorem dL_law_1168 : decode cL_law 1168 = .ok (.iaload, 1) := by decide +kernel
theorem dL_law_1169 : decode cL_law 1169 = .ok (.aload_n 0, 1) := by decide +kernel
theorem dL_law_1170 : decode cL_law 1170 = .ok (.iload_n 3, 1) := by decide +kernel
theorem dL_law_1171 : decode cL_law 1171 = .ok (.iconst 2, 1) := by decide +kernel
theorem dL_law_1172 : decode cL_law 1172 = .ok (.iadd, 1) := by decide +kernel
theorem dL_law_1173 : decode cL_law 1173 = .ok (.iaload, 1) := by decide +kernel
theorem dL_law_1174 : decode cL_law 1174 = .ok (.invokevirtual 150, 3) := by decide +kernel
theorem dL_law_1177 : decode cL_law 1177 = .ok (.aload_n 2, 1) := by decide +kernel
theorem dL_law_1178 : decode cL_law 1178 = .ok (.aload_n 0, 1) := by decide +kernel
theorem dL_law_1179 : decode cL_law 1179 = .ok (.iload_n 3, 1) := by decide +kernel
theorem dL_law_1180 : decode cL_law 1180 = .ok (.iconst 1, 1) := by decide +kernel
theorem dL_law_1181 : decode cL_law 1181 = .ok (.iadd, 1) := by decide +kernel
theorem dL_law_1182 : decode cL_law 1182 = .ok (.iaload, 1) := by decide +kernel
theorem dL_law_1183 : decode cL_law 1183 = .ok (.aload_n 0, 1) := by decide +kernel
theorem dL_law_1184 : decode cL_law 1184 = .ok (.iload_n 3, 1) := by decide +kernel
theorem dL_law_1185 : decode cL_law 1185 = .ok (.iconst 2, 1) := by decide +kernel
theorem dL_law_1186 : decode cL_law 1186 = .ok (.iadd, 1) := by decide +kernel
theorem dL_law_1187 : decode cL_law 1187 = .ok (.iaload, 1) := by decide +kernel
theorem dL_law_1188 : decode cL_law 1188 = .ok (.invokevirtual 153, 3) := by decide +kernel
theorem dL_law_1191 : decode cL_law 1191 = .ok (.if_icmp .eq 444, 3) := by decide +kernel
theorem dL_law_1196 : decode cL_law 1196 = .ok (.aload_n 1, 1) := by decide +kernel
theorem dL_law_1197 : decode cL_law 1197 = .ok (.aload_n 0, 1) := by decide +kernel
theorem dL_law_1198 : decode cL_law 1198 = .ok (.iload_n 3, 1) := by decide +kernel
theorem dL_law_1199 : decode cL_law 1199 = .ok (.iconst 1, 1) := by decide +kernel
theorem dL_law_1200 : decode cL_law 1200 = .ok (.iadd, 1) := by decide +kernel
theorem dL_law_1201 : decode cL_law 1201 = .ok (.iaload, 1) := by decide +kernel
theorem dL_law_1202 : decode cL_law 1202 = .ok (.invokevirtual 154, 3) := by decide +kernel
theorem dL_law_1205 : decode cL_law 1205 = .ok (.aload_n 2, 1) := by decide +kernel
theorem dL_law_1206 : decode cL_law 1206 = .ok (.aload_n 0, 1) := by decide +kernel
theorem dL_law_1207 : decode cL_law 1207 = .ok (.iload_n 3, 1) := by decide +kernel
theorem dL_law_1208 : decode cL_law 1208 = .ok (.iconst 1, 1) := by decide +kernel
theorem dL_law_1209 : decode cL_law 1209 = .ok (.iadd, 1) := by decide +kernel
theorem dL_law_1210 : decode cL_law 1210 = .ok (.iaload, 1) := by decide +kernel
theorem dL_law_1211 : decode cL_law 1211 = .ok (.invokevirtual 157, 3) := by decide +kernel
theorem dL_law_1214 : decode cL_law 1214 = .ok (.if_icmp .eq 421, 3) := by decide +kernel
theorem dL_law_1219 : decode cL_law 1219 = .ok (.aload_n 1, 1) := by decide +kernel
theorem dL_law_1220 : decode cL_law 1220 = .ok (.aload_n 0, 1) := by decide +kernel
theorem dL_law_1221 : decode cL_law 1221 = .ok (.iload_n 3, 1) := by decide +kernel
theorem dL_law_1222 : decode cL_law 1222 = .ok (.iconst 1, 1) := by decide +kernel
theorem dL_law_1223 : decode cL_law 1223 = .ok (.iadd, 1) := by decide +kernel
theorem dL_law_1224 : decode cL_law 1224 = .ok (.iaload, 1) := by decide +kernel
theorem dL_law_1225 : decode cL_law 1225 = .ok (.invokevirtual 158, 3) := by decide +kernel
theorem dL_law_1228 : decode cL_law 1228 = .ok (.aload_n 2, 1) := by decide +kernel
theorem dL_law_1229 : decode cL_law 1229 = .ok (.aload_n 0, 1) := by decide +kernel
theorem dL_law_1230 : decode cL_law 1230 = .ok (.iload_n 3, 1) := by decide +kernel
theorem dL_law_1231 : decode cL_law 1231 = .ok (.iconst 1, 1) := by decide +kernel
theorem dL_law_1232 : decode cL_law 1232 = .ok (.iadd, 1) := by decide +kernel
theorem dL_law_1233 : decode cL_law 1233 = .ok (.iaload, 1) := by decide +kernel
theorem dL_law_1234 : decode cL_law 1234 = .ok (.invokevirtual 161, 3) := by decide +kernel
theorem dL_law_1237 : decode cL_law 1237 = .ok (.if_icmp .eq 398, 3) := by decide +kernel
theorem dL_law_1242 : decode cL_law 1242 = .ok (.aload_n 1, 1) := by decide +kernel
theorem dL_law_1243 : decode cL_law 1243 = .ok (.aload_n 0, 1) := by decide +kernel
theorem dL_law_1244 : decode cL_law 1244 = .ok (.iload_n 3, 1) := by decide +kernel
theorem dL_law_1245 : decode cL_law 1245 = .ok (.iconst 1, 1) := by decide +kernel
theorem dL_law_1246 : decode cL_law 1246 = .ok (.iadd, 1) := by decide +kernel
theorem dL_law_1247 : decode cL_law 1247 = .ok (.iaload, 1) := by decide +kernel
theorem dL_law_1248 : decode cL_law 1248 = .ok (.aload_n 0, 1) := by decide +kernel
theorem dL_law_1249 : decode cL_law 1249 = .ok (.iload_n 3, 1) := by decide +kernel
theorem dL_law_1250 : decode cL_law 1250 = .ok (.iconst 2, 1) := by decide +kernel
theorem dL_law_1251 : decode cL_law 1251 = .ok (.iadd, 1) := by decide +kernel
theorem dL_law_1252 : decode cL_law 1252 = .ok (.iaload, 1) := by decide +kernel
theorem dL_law_1253 : decode cL_law 1253 = .ok (.invokevirtual 162, 3) := by decide +kernel
theorem dL_law_1256 : decode cL_law 1256 = .ok (.aload_n 2, 1) := by decide +kernel
theorem dL_law_1257 : decode cL_law 1257 = .ok (.aload_n 0, 1) := by decide +kernel
theorem dL_law_1258 : decode cL_law 1258 = .ok (.iload_n 3, 1) := by decide +kernel
theorem dL_law_1259 : decode cL_law 1259 = .ok (.iconst 1, 1) := by decide +kernel
theorem dL_law_1260 : decode cL_law 1260 = .ok (.iadd, 1) := by decide +kernel
theorem dL_law_1261 : decode cL_law 1261 = .ok (.iaload, 1) := by decide +kernel
theorem dL_law_1262 : decode cL_law 1262 = .ok (.aload_n 0, 1) := by decide +kernel
theorem dL_law_1263 : decode cL_law 1263 = .ok (.iload_n 3, 1) := by decide +kernel
theorem dL_law_1264 : decode cL_law 1264 = .ok (.iconst 2, 1) := by decide +kernel
theorem dL_law_1265 : decode cL_law 1265 = .ok (.iadd, 1) := by decide +kernel
theorem dL_law_1266 : decode cL_law 1266 = .ok (.iaload, 1) := by decide +kernel
theorem dL_law_1267 : decode cL_law 1267 = .ok (.invokevirtual 165, 3) := by decide +kernel
theorem dL_law_1270 : decode cL_law 1270 = .ok (.if_icmp .eq 365, 3) := by decide +kernel
theorem dL_law_1275 : decode cL_law 1275 = .ok (.aload_n 1, 1) := by decide +kernel
theorem dL_law_1276 : decode cL_law 1276 = .ok (.aload_n 0, 1) := by decide +kernel
theorem dL_law_1277 : decode cL_law 1277 = .ok (.iload_n 3, 1) := by decide +kernel
theorem dL_law_1278 : decode cL_law 1278 = .ok (.iconst 1, 1) := by decide +kernel
theorem dL_law_1279 : decode cL_law 1279 = .ok (.iadd, 1) := by decide +kernel
theorem dL_law_1280 : decode cL_law 1280 = .ok (.iaload, 1) := by decide +kernel
theorem dL_law_1281 : decode cL_law 1281 = .ok (.aload_n 0, 1) := by decide +kernel
theorem dL_law_1282 : decode cL_law 1282 = .ok (.iload_n 3, 1) := by decide +kernel
theorem dL_law_1283 : decode cL_law 1283 = .ok (.iconst 2, 1) := by decide +kernel
theorem dL_law_1284 : decode cL_law 1284 = .ok (.iadd, 1) := by decide +kernel
theorem dL_law_1285 : decode cL_law 1285 = .ok (.iaload, 1) := by decide +kernel
theorem dL_law_1286 : decode cL_law 1286 = .ok (.invokevirtual 166, 3) := by decide +kernel
theorem dL_law_1289 : decode cL_law 1289 = .ok (.aload_n 2, 1) := by decide +kernel
theorem dL_law_1290 : decode cL_law 1290 = .ok (.aload_n 0, 1) := by decide +kernel
theorem dL_law_1291 : decode cL_law 1291 = .ok (.iload_n 3, 1) := by decide +kernel
theorem dL_law_1292 : decode cL_law 1292 = .ok (.iconst 1, 1) := by decide +kernel
theorem dL_law_1293 : decode cL_law 1293 = .ok (.iadd, 1) := by decide +kernel
theorem dL_law_1294 : decode cL_law 1294 = .ok (.iaload, 1) := by decide +kernel
theorem dL_law_1295 : decode cL_law 1295 = .ok (.aload_n 0, 1) := by decide +kernel
theorem dL_law_1296 : decode cL_law 1296 = .ok (.iload_n 3, 1) := by decide +kernel
theorem dL_law_1297 : decode cL_law 1297 = .ok (.iconst 2, 1) := by decide +kernel
theorem dL_law_1298 : decode cL_law 1298 = .ok (.iadd, 1) := by decide +kernel
theorem dL_law_1299 : decode cL_law 1299 = .ok (.iaload, 1) := by decide +kernel
theorem dL_law_1300 : decode cL_law 1300 = .ok (.invokevirtual 169, 3) := by decide +kernel
theorem dL_law_1303 : decode cL_law 1303 = .ok (.if_icmp .eq 332, 3) := by decide +kernel
theorem dL_law_1308 : decode cL_law 1308 = .ok (.aload_n 1, 1) := by decide +kernel
theorem dL_law_1309 : decode cL_law 1309 = .ok (.aload_n 0, 1) := by decide +kernel
theorem dL_law_1310 : decode cL_law 1310 = .ok (.iload_n 3, 1) := by decide +kernel
theorem dL_law_1311 : decode cL_law 1311 = .ok (.iconst 1, 1) := by decide +kernel
theorem dL_law_1312 : decode cL_law 1312 = .ok (.iadd, 1) := by decide +kernel
theorem dL_law_1313 : decode cL_law 1313 = .ok (.iaload, 1) := by decide +kernel
theorem dL_law_1314 : decode cL_law 1314 = .ok (.aload_n 0, 1) := by decide +kernel
theorem dL_law_1315 : decode cL_law 1315 = .ok (.iload_n 3, 1) := by decide +kernel
theorem dL_law_1316 : decode cL_law 1316 = .ok (.iconst 2, 1) := by decide +kernel
theorem dL_law_1317 : decode cL_law 1317 = .ok (.iadd, 1) := by decide +kernel
theorem dL_law_1318 : decode cL_law 1318 = .ok (.iaload, 1) := by decide +kernel
theorem dL_law_1319 : decode cL_law 1319 = .ok (.aload_n 0, 1) := by decide +kernel
theorem dL_law_1320 : decode cL_law 1320 = .ok (.iload_n 3, 1) := by decide +kernel
theorem dL_law_1321 : decode cL_law 1321 = .ok (.iconst 3, 1) := by decide +kernel
theorem dL_law_1322 : decode cL_law 1322 = .ok (.iadd, 1) := by decide +kernel
theorem dL_law_1323 : decode cL_law 1323 = .ok (.iaload, 1) := by decide +kernel
theorem dL_law_1324 : decode cL_law 1324 = .ok (.invokevirtual 170, 3) := by decide +kernel
theorem dL_law_1327 : decode cL_law 1327 = .ok (.aload_n 2, 1) := by decide +kernel
theorem dL_law_1328 : decode cL_law 1328 = .ok (.aload_n 0, 1) := by decide +kernel
theorem dL_law_1329 : decode cL_law 1329 = .ok (.iload_n 3, 1) := by decide +kernel
theorem dL_law_1330 : decode cL_law 1330 = .ok (.iconst 1, 1) := by decide +kernel
theorem dL_law_1331 : decode cL_law 1331 = .ok (.iadd, 1) := by decide +kernel
theorem dL_law_1332 : decode cL_law 1332 = .ok (.iaload, 1) := by decide +kernel
theorem dL_law_1333 : decode cL_law 1333 = .ok (.aload_n 0, 1) := by decide +kernel
theorem dL_law_1334 : decode cL_law 1334 = .ok (.iload_n 3, 1) := by decide +kernel
theorem dL_law_1335 : decode cL_law 1335 = .ok (.iconst 2, 1) := by decide +kernel
theorem dL_law_1336 : decode cL_law 1336 = .ok (.iadd, 1) := by decide +kernel
theorem dL_law_1337 : decode cL_law 1337 = .ok (.iaload, 1) := by decide +kernel
theorem dL_law_1338 : decode cL_law 1338 = .ok (.aload_n 0, 1) := by decide +kernel
theorem dL_law_1339 : decode cL_law 1339 = .ok (.iload_n 3, 1) := by decide +kernel
theorem dL_law_1340 : decode cL_law 1340 = .ok (.iconst 3, 1) := by decide +kernel
theorem dL_law_1341 : decode cL_law 1341 = .ok (.iadd, 1) := by decide +kernel
theorem dL_law_1342 : decode cL_law 1342 = .ok (.iaload, 1) := by decide +kernel
theorem dL_law_1343 : decode cL_law 1343 = .ok (.invokevirtual 173, 3) := by decide +kernel
theorem dL_law_1346 : decode cL_law 1346 = .ok (.if_icmp .eq 289, 3) := by decide +kernel
theorem dL_law_1351 : decode cL_law 1351 = .ok (.aload_n 1, 1) := by decide +kernel
theorem dL_law_1352 : decode cL_law 1352 = .ok (.aload_n 0, 1) := by decide +kernel
theorem dL_law_1353 : decode cL_law 1353 = .ok (.iload_n 3, 1) := by decide +kernel
theorem dL_law_1354 : decode cL_law 1354 = .ok (.iconst 1, 1) := by decide +kernel
theorem dL_law_1355 : decode cL_law 1355 = .ok (.iadd, 1) := by decide +kernel
theorem dL_law_1356 : decode cL_law 1356 = .ok (.iaload, 1) := by decide +kernel
theorem dL_law_1357 : decode cL_law 1357 = .ok (.aload_n 0, 1) := by decide +kernel
theorem dL_law_1358 : decode cL_law 1358 = .ok (.iload_n 3, 1) := by decide +kernel
theorem dL_law_1359 : decode cL_law 1359 = .ok (.iconst 2, 1) := by decide +kernel
theorem dL_law_1360 : decode cL_law 1360 = .ok (.iadd, 1) := by decide +kernel
theorem dL_law_1361 : decode cL_law 1361 = .ok (.iaload, 1) := by decide +kernel
theorem dL_law_1362 : decode cL_law 1362 = .ok (.invokevirtual 174, 3) := by decide +kernel
theorem dL_law_1365 : decode cL_law 1365 = .ok (.aload_n 2, 1) := by decide +kernel
theorem dL_law_1366 : decode cL_law 1366 = .ok (.aload_n 0, 1) := by decide +kernel
theorem dL_law_1367 : decode cL_law 1367 = .ok (.iload_n 3, 1) := by decide +kernel
theorem dL_law_1368 : decode cL_law 1368 = .ok (.iconst 1, 1) := by decide +kernel
theorem dL_law_1369 : decode cL_law 1369 = .ok (.iadd, 1) := by decide +kernel
theorem dL_law_1370 : decode cL_law 1370 = .ok (.iaload, 1) := by decide +kernel
theorem dL_law_1371 : decode cL_law 1371 = .ok (.aload_n 0, 1) := by decide +kernel
theorem dL_law_1372 : decode cL_law 1372 = .ok (.iload_n 3, 1) := by decide +kernel
theorem dL_law_1373 : decode cL_law 1373 = .ok (.iconst 2, 1) := by decide +kernel
theorem dL_law_1374 : decode cL_law 1374 = .ok (.iadd, 1) := by decide +kernel
theorem dL_law_1375 : decode cL_law 1375 = .ok (.iaload, 1) := by decide +kernel
theorem dL_law_1376 : decode cL_law 1376 = .ok (.invokevirtual 178, 3) := by decide +kernel
theorem dL_law_1379 : decode cL_law 1379 = .ok (.lcmp, 1) := by decide +kernel
theorem dL_law_1380 : decode cL_law 1380 = .ok (.ifCond .eq 255, 3) := by decide +kernel
theorem dL_law_1385 : decode cL_law 1385 = .ok (.aload_n 1, 1) := by decide +kernel
theorem dL_law_1386 : decode cL_law 1386 = .ok (.aload_n 0, 1) := by decide +kernel
theorem dL_law_1387 : decode cL_law 1387 = .ok (.iload_n 3, 1) := by decide +kernel
theorem dL_law_1388 : decode cL_law 1388 = .ok (.iconst 1, 1) := by decide +kernel
theorem dL_law_1389 : decode cL_law 1389 = .ok (.iadd, 1) := by decide +kernel
theorem dL_law_1390 : decode cL_law 1390 = .ok (.iaload, 1) := by decide +kernel
theorem dL_law_1391 : decode cL_law 1391 = .ok (.aload_n 0, 1) := by decide +kernel
theorem dL_law_1392 : decode cL_law 1392 = .ok (.iload_n 3, 1) := by decide +kernel
theorem dL_law_1393 : decode cL_law 1393 = .ok (.iconst 2, 1) := by decide +kernel
theorem dL_law_1394 : decode cL_law 1394 = .ok (.iadd, 1) := by decide +kernel
theorem dL_law_1395 : decode cL_law 1395 = .ok (.iaload, 1) := by decide +kernel
theorem dL_law_1396 : decode cL_law 1396 = .ok (.invokevirtual 179, 3) := by decide +kernel
theorem dL_law_1399 : decode cL_law 1399 = .ok (.aload_n 2, 1) := by decide +kernel
theorem dL_law_1400 : decode cL_law 1400 = .ok (.aload_n 0, 1) := by decide +kernel
theorem dL_law_1401 : decode cL_law 1401 = .ok (.iload_n 3, 1) := by decide +kernel
theorem dL_law_1402 : decode cL_law 1402 = .ok (.iconst 1, 1) := by decide +kernel
theorem dL_law_1403 : decode cL_law 1403 = .ok (.iadd, 1) := by decide +kernel
theorem dL_law_1404 : decode cL_law 1404 = .ok (.iaload, 1) := by decide +kernel
theorem dL_law_1405 : decode cL_law 1405 = .ok (.aload_n 0, 1) := by decide +kernel
theorem dL_law_1406 : decode cL_law 1406 = .ok (.iload_n 3, 1) := by decide +kernel
theorem dL_law_1407 : decode cL_law 1407 = .ok (.iconst 2, 1) := by decide +kernel
theorem dL_law_1408 : decode cL_law 1408 = .ok (.iadd, 1) := by decide +kernel
theorem dL_law_1409 : decode cL_law 1409 = .ok (.iaload, 1) := by decide +kernel
theorem dL_law_1410 : decode cL_law 1410 = .ok (.invokevirtual 182, 3) := by decide +kernel
theorem dL_law_1413 : decode cL_law 1413 = .ok (.if_icmp .eq 222, 3) := by decide +kernel
theorem dL_law_1418 : decode cL_law 1418 = .ok (.aload_n 1, 1) := by decide +kernel
theorem dL_law_1419 : decode cL_law 1419 = .ok (.aload_n 0, 1) := by decide +kernel
theorem dL_law_1420 : decode cL_law 1420 = .ok (.iload_n 3, 1) := by decide +kernel
theorem dL_law_1421 : decode cL_law 1421 = .ok (.iconst 1, 1) := by decide +kernel
theorem dL_law_1422 : decode cL_law 1422 = .ok (.iadd, 1) := by decide +kernel
theorem dL_law_1423 : decode cL_law 1423 = .ok (.iaload, 1) := by decide +kernel
theorem dL_law_1424 : decode cL_law 1424 = .ok (.aload_n 0, 1) := by decide +kernel
theorem dL_law_1425 : decode cL_law 1425 = .ok (.iload_n 3, 1) := by decide +kernel
theorem dL_law_1426 : decode cL_law 1426 = .ok (.iconst 2, 1) := by decide +kernel
theorem dL_law_1427 : decode cL_law 1427 = .ok (.iadd, 1) := by decide +kernel
theorem dL_law_1428 : decode cL_law 1428 = .ok (.iaload, 1) := by decide +kernel
theorem dL_law_1429 : decode cL_law 1429 = .ok (.invokevirtual 183, 3) := by decide +kernel
theorem dL_law_1432 : decode cL_law 1432 = .ok (.aload_n 2, 1) := by decide +kernel
theorem dL_law_1433 : decode cL_law 1433 = .ok (.aload_n 0, 1) := by decide +kernel
theorem dL_law_1434 : decode cL_law 1434 = .ok (.iload_n 3, 1) := by decide +kernel
theorem dL_law_1435 : decode cL_law 1435 = .ok (.iconst 1, 1) := by decide +kernel
theorem dL_law_1436 : decode cL_law 1436 = .ok (.iadd, 1) := by decide +kernel
theorem dL_law_1437 : decode cL_law 1437 = .ok (.iaload, 1) := by decide +kernel
theorem dL_law_1438 : decode cL_law 1438 = .ok (.aload_n 0, 1) := by decide +kernel
theorem dL_law_1439 : decode cL_law 1439 = .ok (.iload_n 3, 1) := by decide +kernel
theorem dL_law_1440 : decode cL_law 1440 = .ok (.iconst 2, 1) := by decide +kernel
theorem dL_law_1441 : decode cL_law 1441 = .ok (.iadd, 1) := by decide +kernel
theorem dL_law_1442 : decode cL_law 1442 = .ok (.iaload, 1) := by decide +kernel
theorem dL_law_1443 : decode cL_law 1443 = .ok (.invokevirtual 186, 3) := by decide +kernel
theorem dL_law_1446 : decode cL_law 1446 = .ok (.lcmp, 1) := by decide +kernel
theorem dL_law_1447 : decode cL_law 1447 = .ok (.ifCond .eq 188, 3) := by decide +kernel
theorem dL_law_1452 : decode cL_law 1452 = .ok (.aload_n 1, 1) := by decide +kernel
theorem dL_law_1453 : decode cL_law 1453 = .ok (.aload_n 0, 1) := by decide +kernel
theorem dL_law_1454 : decode cL_law 1454 = .ok (.iload_n 3, 1) := by decide +kernel
theorem dL_law_1455 : decode cL_law 1455 = .ok (.iconst 1, 1) := by decide +kernel
theorem dL_law_1456 : decode cL_law 1456 = .ok (.iadd, 1) := by decide +kernel
theorem dL_law_1457 : decode cL_law 1457 = .ok (.iaload, 1) := by decide +kernel
theorem dL_law_1458 : decode cL_law 1458 = .ok (.aload_n 0, 1) := by decide +kernel
theorem dL_law_1459 : decode cL_law 1459 = .ok (.iload_n 3, 1) := by decide +kernel
theorem dL_law_1460 : decode cL_law 1460 = .ok (.iconst 2, 1) := by decide +kernel
theorem dL_law_1461 : decode cL_law 1461 = .ok (.iadd, 1) := by decide +kernel
theorem dL_law_1462 : decode cL_law 1462 = .ok (.iaload, 1) := by decide +kernel
theorem dL_law_1463 : decode cL_law 1463 = .ok (.invokevirtual 187, 3) := by decide +kernel
theorem dL_law_1466 : decode cL_law 1466 = .ok (.aload_n 2, 1) := by decide +kernel
theorem dL_law_1467 : decode cL_law 1467 = .ok (.aload_n 0, 1) := by decide +kernel
theorem dL_law_1468 : decode cL_law 1468 = .ok (.iload_n 3, 1) := by decide +kernel
theorem dL_law_1469 : decode cL_law 1469 = .ok (.iconst 1, 1) := by decide +kernel
theorem dL_law_1470 : decode cL_law 1470 = .ok (.iadd, 1) := by decide +kernel
theorem dL_law_1471 : decode cL_law 1471 = .ok (.iaload, 1) := by decide +kernel
theorem dL_law_1472 : decode cL_law 1472 = .ok (.aload_n 0, 1) := by decide +kernel
theorem dL_law_1473 : decode cL_law 1473 = .ok (.iload_n 3, 1) := by decide +kernel
theorem dL_law_1474 : decode cL_law 1474 = .ok (.iconst 2, 1) := by decide +kernel
theorem dL_law_1475 : decode cL_law 1475 = .ok (.iadd, 1) := by decide +kernel
theorem dL_law_1476 : decode cL_law 1476 = .ok (.iaload, 1) := by decide +kernel
theorem dL_law_1477 : decode cL_law 1477 = .ok (.invokevirtual 190, 3) := by decide +kernel
theorem dL_law_1480 : decode cL_law 1480 = .ok (.lcmp, 1) := by decide +kernel
theorem dL_law_1481 : decode cL_law 1481 = .ok (.ifCond .eq 154, 3) := by decide +kernel
theorem dL_law_1486 : decode cL_law 1486 = .ok (.aload_n 1, 1) := by decide +kernel
theorem dL_law_1487 : decode cL_law 1487 = .ok (.aload_n 0, 1) := by decide +kernel
theorem dL_law_1488 : decode cL_law 1488 = .ok (.iload_n 3, 1) := by decide +kernel
theorem dL_law_1489 : decode cL_law 1489 = .ok (.iconst 1, 1) := by decide +kernel
theorem dL_law_1490 : decode cL_law 1490 = .ok (.iadd, 1) := by decide +kernel
theorem dL_law_1491 : decode cL_law 1491 = .ok (.iaload, 1) := by decide +kernel
theorem dL_law_1492 : decode cL_law 1492 = .ok (.invokevirtual 191, 3) := by decide +kernel
theorem dL_law_1495 : decode cL_law 1495 = .ok (.aload_n 2, 1) := by decide +kernel
theorem dL_law_1496 : decode cL_law 1496 = .ok (.aload_n 0, 1) := by decide +kernel
theorem dL_law_1497 : decode cL_law 1497 = .ok (.iload_n 3, 1) := by decide +kernel
theorem dL_law_1498 : decode cL_law 1498 = .ok (.iconst 1, 1) := by decide +kernel
theorem dL_law_1499 : decode cL_law 1499 = .ok (.iadd, 1) := by decide +kernel
theorem dL_law_1500 : decode cL_law 1500 = .ok (.iaload, 1) := by decide +kernel
theorem dL_law_1501 : decode cL_law 1501 = .ok (.invokevirtual 195, 3) := by decide +kernel
theorem dL_law_1504 : decode cL_law 1504 = .ok (.lcmp, 1) := by decide +kernel
theorem dL_law_1505 : decode cL_law 1505 = .ok (.ifCond .eq 130, 3) := by decide +kernel
theorem dL_law_1510 : decode cL_law 1510 = .ok (.aload_n 1, 1) := by decide +kernel
theorem dL_law_1511 : decode cL_law 1511 = .ok (.aload_n 0, 1) := by decide +kernel
theorem dL_law_1512 : decode cL_law 1512 = .ok (.iload_n 3, 1) := by decide +kernel
theorem dL_law_1513 : decode cL_law 1513 = .ok (.iconst 1, 1) := by decide +kernel
theorem dL_law_1514 : decode cL_law 1514 = .ok (.iadd, 1) := by decide +kernel
theorem dL_law_1515 : decode cL_law 1515 = .ok (.iaload, 1) := by decide +kernel
theorem dL_law_1516 : decode cL_law 1516 = .ok (.aload_n 0, 1) := by decide +kernel
theorem dL_law_1517 : decode cL_law 1517 = .ok (.iload_n 3, 1) := by decide +kernel
theorem dL_law_1518 : decode cL_law 1518 = .ok (.iconst 2, 1) := by decide +kernel
theorem dL_law_1519 : decode cL_law 1519 = .ok (.iadd, 1) := by decide +kernel
theorem dL_law_1520 : decode cL_law 1520 = .ok (.iaload, 1) := by decide +kernel
theorem dL_law_1521 : decode cL_law 1521 = .ok (.invokevirtual 196, 3) := by decide +kernel
theorem dL_law_1524 : decode cL_law 1524 = .ok (.aload_n 2, 1) := by decide +kernel
theorem dL_law_1525 : decode cL_law 1525 = .ok (.aload_n 0, 1) := by decide +kernel
theorem dL_law_1526 : decode cL_law 1526 = .ok (.iload_n 3, 1) := by decide +kernel
theorem dL_law_1527 : decode cL_law 1527 = .ok (.iconst 1, 1) := by decide +kernel
theorem dL_law_1528 : decode cL_law 1528 = .ok (.iadd, 1) := by decide +kernel
theorem dL_law_1529 : decode cL_law 1529 = .ok (.iaload, 1) := by decide +kernel
theorem dL_law_1530 : decode cL_law 1530 = .ok (.aload_n 0, 1) := by decide +kernel
theorem dL_law_1531 : decode cL_law 1531 = .ok (.iload_n 3, 1) := by decide +kernel
theorem dL_law_1532 : decode cL_law 1532 = .ok (.iconst 2, 1) := by decide +kernel
theorem dL_law_1533 : decode cL_law 1533 = .ok (.iadd, 1) := by decide +kernel
theorem dL_law_1534 : decode cL_law 1534 = .ok (.iaload, 1) := by decide +kernel
theorem dL_law_1535 : decode cL_law 1535 = .ok (.invokevirtual 199, 3) := by decide +kernel
theorem dL_law_1538 : decode cL_law 1538 = .ok (.if_icmp .eq 97, 3) := by decide +kernel
theorem dL_law_1543 : decode cL_law 1543 = .ok (.aload_n 1, 1) := by decide +kernel
theorem dL_law_1544 : decode cL_law 1544 = .ok (.aload_n 0, 1) := by decide +kernel
theorem dL_law_1545 : decode cL_law 1545 = .ok (.iload_n 3, 1) := by decide +kernel
theorem dL_law_1546 : decode cL_law 1546 = .ok (.iconst 1, 1) := by decide +kernel
theorem dL_law_1547 : decode cL_law 1547 = .ok (.iadd, 1) := by decide +kernel
theorem dL_law_1548 : decode cL_law 1548 = .ok (.iaload, 1) := by decide +kernel
theorem dL_law_1549 : decode cL_law 1549 = .ok (.invokevirtual 200, 3) := by decide +kernel
theorem dL_law_1552 : decode cL_law 1552 = .ok (.aload_n 2, 1) := by decide +kernel
theorem dL_law_1553 : decode cL_law 1553 = .ok (.aload_n 0, 1) := by decide +kernel
theorem dL_law_1554 : decode cL_law 1554 = .ok (.iload_n 3, 1) := by decide +kernel
theorem dL_law_1555 : decode cL_law 1555 = .ok (.iconst 1, 1) := by decide +kernel
theorem dL_law_1556 : decode cL_law 1556 = .ok (.iadd, 1) := by decide +kernel
theorem dL_law_1557 : decode cL_law 1557 = .ok (.iaload, 1) := by decide +kernel
theorem dL_law_1558 : decode cL_law 1558 = .ok (.invokevirtual 203, 3) := by decide +kernel
theorem dL_law_1561 : decode cL_law 1561 = .ok (.if_icmp .eq 74, 3) := by decide +kernel
theorem dL_law_1566 : decode cL_law 1566 = .ok (.aload_n 1, 1) := by decide +kernel
theorem dL_law_1567 : decode cL_law 1567 = .ok (.aload_n 0, 1) := by decide +kernel
theorem dL_law_1568 : decode cL_law 1568 = .ok (.iload_n 3, 1) := by decide +kernel
theorem dL_law_1569 : decode cL_law 1569 = .ok (.iconst 1, 1) := by decide +kernel
theorem dL_law_1570 : decode cL_law 1570 = .ok (.iadd, 1) := by decide +kernel
theorem dL_law_1571 : decode cL_law 1571 = .ok (.iaload, 1) := by decide +kernel
theorem dL_law_1572 : decode cL_law 1572 = .ok (.invokevirtual 204, 3) := by decide +kernel
theorem dL_law_1575 : decode cL_law 1575 = .ok (.aload_n 2, 1) := by decide +kernel
theorem dL_law_1576 : decode cL_law 1576 = .ok (.aload_n 0, 1) := by decide +kernel
theorem dL_law_1577 : decode cL_law 1577 = .ok (.iload_n 3, 1) := by decide +kernel
theorem dL_law_1578 : decode cL_law 1578 = .ok (.iconst 1, 1) := by decide +kernel
theorem dL_law_1579 : decode cL_law 1579 = .ok (.iadd, 1) := by decide +kernel
theorem dL_law_1580 : decode cL_law 1580 = .ok (.iaload, 1) := by decide +kernel
theorem dL_law_1581 : decode cL_law 1581 = .ok (.invokevirtual 207, 3) := by decide +kernel
theorem dL_law_1584 : decode cL_law 1584 = .ok (.if_icmp .eq 51, 3) := by decide +kernel
theorem dL_law_1589 : decode cL_law 1589 = .ok (.aload_n 1, 1) := by decide +kernel
theorem dL_law_1590 : decode cL_law 1590 = .ok (.aload_n 0, 1) := by decide +kernel
theorem dL_law_1591 : decode cL_law 1591 = .ok (.iload_n 3, 1) := by decide +kernel
theorem dL_law_1592 : decode cL_law 1592 = .ok (.iconst 1, 1) := by decide +kernel
theorem dL_law_1593 : decode cL_law 1593 = .ok (.iadd, 1) := by decide +kernel
theorem dL_law_1594 : decode cL_law 1594 = .ok (.iaload, 1) := by decide +kernel
theorem dL_law_1595 : decode cL_law 1595 = .ok (.invokevirtual 208, 3) := by decide +kernel
theorem dL_law_1598 : decode cL_law 1598 = .ok (.aload_n 2, 1) := by decide +kernel
theorem dL_law_1599 : decode cL_law 1599 = .ok (.aload_n 0, 1) := by decide +kernel
theorem dL_law_1600 : decode cL_law 1600 = .ok (.iload_n 3, 1) := by decide +kernel
theorem dL_law_1601 : decode cL_law 1601 = .ok (.iconst 1, 1) := by decide +kernel
theorem dL_law_1602 : decode cL_law 1602 = .ok (.iadd, 1) := by decide +kernel
theorem dL_law_1603 : decode cL_law 1603 = .ok (.iaload, 1) := by decide +kernel
theorem dL_law_1604 : decode cL_law 1604 = .ok (.invokevirtual 211, 3) := by decide +kernel
theorem dL_law_1607 : decode cL_law 1607 = .ok (.if_icmp .eq 28, 3) := by decide +kernel
theorem dL_law_1612 : decode cL_law 1612 = .ok (.aload_n 1, 1) := by decide +kernel
theorem dL_law_1613 : decode cL_law 1613 = .ok (.aload_n 0, 1) := by decide +kernel
theorem dL_law_1614 : decode cL_law 1614 = .ok (.iload_n 3, 1) := by decide +kernel
theorem dL_law_1615 : decode cL_law 1615 = .ok (.iconst 1, 1) := by decide +kernel
theorem dL_law_1616 : decode cL_law 1616 = .ok (.iadd, 1) := by decide +kernel
theorem dL_law_1617 : decode cL_law 1617 = .ok (.iaload, 1) := by decide +kernel
theorem dL_law_1618 : decode cL_law 1618 = .ok (.invokevirtual 212, 3) := by decide +kernel
theorem dL_law_1621 : decode cL_law 1621 = .ok (.aload_n 2, 1) := by decide +kernel
theorem dL_law_1622 : decode cL_law 1622 = .ok (.aload_n 0, 1) := by decide +kernel
theorem dL_law_1623 : decode cL_law 1623 = .ok (.iload_n 3, 1) := by decide +kernel
theorem dL_law_1624 : decode cL_law 1624 = .ok (.iconst 1, 1) := by decide +kernel
theorem dL_law_1625 : decode cL_law 1625 = .ok (.iadd, 1) := by decide +kernel
theorem dL_law_1626 : decode cL_law 1626 = .ok (.iaload, 1) := by decide +kernel
theorem dL_law_1627 : decode cL_law 1627 = .ok (.invokevirtual 215, 3) := by decide +kernel
theorem dL_law_1630 : decode cL_law 1630 = .ok (.if_icmp .eq 5, 3) := by decide +kernel
theorem dL_law_1635 : decode cL_law 1635 = .ok (.iinc 3 6, 3) := by decide +kernel
theorem dL_law_1638 : decode cL_law 1638 = .ok (.goto (-1620), 3) := by decide +kernel
theorem dL_law_1641 : decode cL_law 1641 = .ok (.iconst 1, 1) := by decide +kernel
theorem dL_law_1642 : decode cL_law 1642 = .ok (.ireturn, 1) := by decide +kernel
abbrev vwCl : List vw_C := [(RX0, TX0, 5), (RX1, TX1, 1), (RX3, TX3, 3), (RX4, TX4, 8), (RX5, TX5, 10), (RX6, TX6, 3), (RX7, TX7, 1), (RX8, TX8, 2), (RX9, TX9, 6), (RX10, TX10, 4), (RX11, TX11, 19), (RX12, TX12, 31)]
