def RX0 : String := "GluedWords$Carrier"
def TX0 : u_T := fun k => match k with
  | 0 => ("GluedWords$Carrier", "fromIndices", "[I", true)
  | 1 => ("GluedWords$Carrier", "toIndices", "[I", true)
  | 2 => ("GluedWords$Carrier", "orders", "[I", true)
  | 3 => ("GluedWords$Carrier", "trial", "LGluedWords$Walk;", true)
  | _ => ("GluedWords$Carrier", "target", "LGluedWords$Walk;", false)
def RX1 : String := "GluedWords$Counts"
def TX1 : u_T := fun k => match k with
  | _ => ("GluedWords$Counts", "ways", "[J", true)
def RX3 : String := "GluedWords$History"
def TX3 : u_T := fun k => match k with
  | 0 => ("GluedWords$History", "ring", "[LGluedWords$Store;", true)
  | 1 => ("GluedWords$History", "first", "I", false)
  | _ => ("GluedWords$History", "count", "I", false)
def RX4 : String := "GluedWords$Kinship"
def TX4 : u_T := fun k => match k with
  | 0 => ("GluedWords$Kinship", "first", "LGluedWords$Walk;", true)
  | 1 => ("GluedWords$Kinship", "second", "LGluedWords$Walk;", true)
  | 2 => ("GluedWords$Kinship", "begun", "LGluedWords$Walk;", true)
  | 3 => ("GluedWords$Kinship", "spare", "LGluedWords$Walk;", true)
  | 4 => ("GluedWords$Kinship", "carrier", "LGluedWords$Carrier;", true)
  | 5 => ("GluedWords$Kinship", "far", "[I", true)
  | 6 => ("GluedWords$Kinship", "behind", "I", false)
  | _ => ("GluedWords$Kinship", "taken", "I", false)
def RX5 : String := "GluedWords$Reader"
def TX5 : u_T := fun k => match k with
  | 0 => ("GluedWords$Reader", "tokens", "LGluedWords$Tokens;", true)
  | 1 => ("GluedWords$Reader", "draft", "LGluedWords$Store;", true)
  | 2 => ("GluedWords$Reader", "walk", "LGluedWords$Walk;", true)
  | 3 => ("GluedWords$Reader", "hasRead", "Z", false)
  | 4 => ("GluedWords$Reader", "at", "I", false)
  | 5 => ("GluedWords$Reader", "here", "I", false)
  | 6 => ("GluedWords$Reader", "lines", "I", false)
  | 7 => ("GluedWords$Reader", "faultKind", "I", false)
  | 8 => ("GluedWords$Reader", "faultPlace", "I", false)
  | _ => ("GluedWords$Reader", "faultLine", "I", false)
def RX6 : String := "GluedWords$Shape"
def TX6 : u_T := fun k => match k with
  | 0 => ("GluedWords$Shape", "leasts", "[I", true)
  | 1 => ("GluedWords$Shape", "over", "J", false)
  | _ => ("GluedWords$Shape", "under", "J", false)
def RX7 : String := "GluedWords$Store"
def TX7 : u_T := fun k => match k with
  | _ => ("GluedWords$Store", "cells", "[I", true)
abbrev wsX70 : List Cond := u_ws RX7 TX7 1
abbrev cX7_hasVertex : ByteArray := prog_9_method_10_code
def yX7_hasVertex : MethodName := ⟨RX7, "hasVertex", "(I)Z"⟩
abbrev cX7_hasEdge : ByteArray := prog_9_method_11_code
def yX7_hasEdge : MethodName := ⟨RX7, "hasEdge", "(I)Z"⟩
abbrev cX7_hasWord : ByteArray := prog_9_method_12_code
def yX7_hasWord : MethodName := ⟨RX7, "hasWord", "(I)Z"⟩
def RX8 : String := "GluedWords$Teller"
def TX8 : u_T := fun k => match k with
  | 0 => ("GluedWords$Teller", "bytes", "[B", true)
  | _ => ("GluedWords$Teller", "count", "I", false)
def RX9 : String := "GluedWords$Tokens"
def TX9 : u_T := fun k => match k with
  | 0 => ("GluedWords$Tokens", "kinds", "[I", true)
  | 1 => ("GluedWords$Tokens", "places", "[I", true)
  | 2 => ("GluedWords$Tokens", "values", "[I", true)
  | 3 => ("GluedWords$Tokens", "count", "I", false)
  | 4 => ("GluedWords$Tokens", "text", "[B", false)
  | _ => ("GluedWords$Tokens", "size", "I", false)
def RX10 : String := "GluedWords$Walk"
def TX10 : u_T := fun k => match k with
  | 0 => ("GluedWords$Walk", "numbers", "[I", true)
  | 1 => ("GluedWords$Walk", "marches", "[I", true)
  | 2 => ("GluedWords$Walk", "beginning", "I", false)
  | _ => ("GluedWords$Walk", "count", "I", false)
def RX11 : String := "GluedWords"
def TX11 : u_T := fun k => match k with
  | 0 => ("GluedWords", "now", "LGluedWords$Store;", true)
  | 1 => ("GluedWords", "history", "LGluedWords$History;", true)
  | 2 => ("GluedWords", "markedStores", "[LGluedWords$Store;", true)
  | 3 => ("GluedWords", "markedHistories", "[LGluedWords$History;", true)
  | 4 => ("GluedWords", "markCount", "I", false)
  | 5 => ("GluedWords", "latest", "I", false)
  | 6 => ("GluedWords", "tape", "[B", true)
  | 7 => ("GluedWords", "tapeSize", "I", false)
  | 8 => ("GluedWords", "reader", "LGluedWords$Reader;", true)
  | 9 => ("GluedWords", "teller", "LGluedWords$Teller;", true)
  | 10 => ("GluedWords", "one", "LGluedWords$Walk;", true)
  | 11 => ("GluedWords", "two", "LGluedWords$Walk;", true)
  | 12 => ("GluedWords", "row", "LGluedWords$Walk;", true)
  | 13 => ("GluedWords", "otherRow", "LGluedWords$Walk;", true)
  | 14 => ("GluedWords", "spare", "LGluedWords$Walk;", true)
  | 15 => ("GluedWords", "kinship", "LGluedWords$Kinship;", true)
  | 16 => ("GluedWords", "carrier", "LGluedWords$Carrier;", true)
  | 17 => ("GluedWords", "shape", "LGluedWords$Shape;", true)
  | _ => ("GluedWords", "counts", "LGluedWords$Counts;", true)
def tyX11 : Nat → FieldType := fun k => match k with
  | 0 => .object "GluedWords$Store"
  | 1 => .object "GluedWords$History"
  | 2 => .array (.object "GluedWords$Store")
  | 3 => .array (.object "GluedWords$History")
  | 4 => .int
  | 5 => .int
  | 6 => .array .byte
  | 7 => .int
  | 8 => .object "GluedWords$Reader"
  | 9 => .object "GluedWords$Teller"
  | 10 => .object "GluedWords$Walk"
  | 11 => .object "GluedWords$Walk"
  | 12 => .object "GluedWords$Walk"
  | 13 => .object "GluedWords$Walk"
  | 14 => .object "GluedWords$Walk"
  | 15 => .object "GluedWords$Kinship"
  | 16 => .object "GluedWords$Carrier"
  | 17 => .object "GluedWords$Shape"
  | _ => .object "GluedWords$Counts"
abbrev wsX110 : List Cond := u_ws RX11 TX11 19
theorem nmX11 : ∀ a, a < 19 → ∀ b, b < 19 → a ≠ b → (TX11 a).2.1 ≠ (TX11 b).2.1 := by decide +kernel
theorem tyX11_ok : ∀ k, k < 19 → parseFieldDescriptor (TX11 k).2.2.1 = some (tyX11 k) := by decide +kernel
abbrev cX11_order : ByteArray := prog_1_method_7_code
def yX11_order : MethodName := ⟨RX11, "order", "(I)I"⟩
abbrev cX11_fail : ByteArray := prog_1_method_51_code
def yX11_fail : MethodName := ⟨RX11, "fail", "(I)I"⟩
def RX12 : String := "GluedWordsModel"
def TX12 : u_T := fun k => match k with
  | 0 => ("GluedWordsModel", "all", "[I", true)
  | 1 => ("GluedWordsModel", "status", "I", false)
  | 2 => ("GluedWordsModel", "acts", "I", false)
  | 3 => ("GluedWordsModel", "marks", "I", false)
  | 4 => ("GluedWordsModel", "hand", "[[I", true)
  | 5 => ("GluedWordsModel", "pinches", "I", false)
  | 6 => ("GluedWordsModel", "long1", "[I", true)
  | 7 => ("GluedWordsModel", "long2", "[I", true)
  | 8 => ("GluedWordsModel", "tape", "[B", true)
  | 9 => ("GluedWordsModel", "text", "[B", true)
  | 10 => ("GluedWordsModel", "taped", "I", false)
  | 11 => ("GluedWordsModel", "size", "I", false)
  | 12 => ("GluedWordsModel", "token", "I", false)
  | 13 => ("GluedWordsModel", "begin", "I", false)
  | 14 => ("GluedWordsModel", "end0", "I", false)
  | 15 => ("GluedWordsModel", "value", "I", false)
  | 16 => ("GluedWordsModel", "faults", "I", false)
  | 17 => ("GluedWordsModel", "faultPlace", "I", false)
  | 18 => ("GluedWordsModel", "faultLine", "I", false)
  | 19 => ("GluedWordsModel", "faultKind", "I", false)
  | 20 => ("GluedWordsModel", "lines", "I", false)
  | 21 => ("GluedWordsModel", "kinFirst", "I", false)
  | 22 => ("GluedWordsModel", "kinNumber", "I", false)
  | 23 => ("GluedWordsModel", "queue", "[I", true)
  | 24 => ("GluedWordsModel", "depth", "[I", true)
  | 25 => ("GluedWordsModel", "came", "[Z", true)
  | 26 => ("GluedWordsModel", "central", "[I", true)
  | 27 => ("GluedWordsModel", "home", "[[[J", true)
  | 28 => ("GluedWordsModel", "lies", "[J", true)
  | 29 => ("GluedWordsModel", "out", "[B", true)
  | _ => ("GluedWordsModel", "outMany", "I", false)
theorem dX7_hasVertex_0 : decode cX7_hasVertex 0 = .ok (.iload_n 1, 1) := by decide +kernel
theorem dX7_hasVertex_1 : decode cX7_hasVertex 1 = .ok (.ifCond .lt 17, 3) := by decide +kernel
theorem dX7_hasVertex_4 : decode cX7_hasVertex 4 = .ok (.iload_n 1, 1) := by decide +kernel
theorem dX7_hasVertex_5 : decode cX7_hasVertex 5 = .ok (.aload_n 0, 1) := by decide +kernel
theorem dX7_hasVertex_6 : decode cX7_hasVertex 6 = .ok (.getfield 11, 3) := by decide +kernel
theorem dX7_hasVertex_9 : decode cX7_hasVertex 9 = .ok (.iconst 0, 1) := by decide +kernel
theorem dX7_hasVertex_10 : decode cX7_hasVertex 10 = .ok (.iaload, 1) := by decide +kernel
theorem dX7_hasVertex_11 : decode cX7_hasVertex 11 = .ok (.if_icmp .ge 7, 3) := by decide +kernel
theorem dX7_hasVertex_18 : decode cX7_hasVertex 18 = .ok (.iconst 0, 1) := by decide +kernel
theorem dX7_hasVertex_19 : decode cX7_hasVertex 19 = .ok (.ireturn, 1) := by decide +kernel
theorem dX7_hasEdge_0 : decode cX7_hasEdge 0 = .ok (.iload_n 1, 1) := by decide +kernel
theorem dX7_hasEdge_1 : decode cX7_hasEdge 1 = .ok (.ifCond .lt 17, 3) := by decide +kernel
theorem dX7_hasEdge_4 : decode cX7_hasEdge 4 = .ok (.iload_n 1, 1) := by decide +kernel
theorem dX7_hasEdge_5 : decode cX7_hasEdge 5 = .ok (.aload_n 0, 1) := by decide +kernel
theorem dX7_hasEdge_6 : decode cX7_hasEdge 6 = .ok (.getfield 11, 3) := by decide +kernel
theorem dX7_hasEdge_9 : decode cX7_hasEdge 9 = .ok (.iconst 1, 1) := by decide +kernel
theorem dX7_hasEdge_10 : decode cX7_hasEdge 10 = .ok (.iaload, 1) := by decide +kernel
theorem dX7_hasEdge_11 : decode cX7_hasEdge 11 = .ok (.if_icmp .ge 7, 3) := by decide +kernel
theorem dX7_hasEdge_18 : decode cX7_hasEdge 18 = .ok (.iconst 0, 1) := by decide +kernel
theorem dX7_hasEdge_19 : decode cX7_hasEdge 19 = .ok (.ireturn, 1) := by decide +kernel
theorem dX7_hasWord_0 : decode cX7_hasWord 0 = .ok (.iload_n 1, 1) := by decide +kernel
theorem dX7_hasWord_1 : decode cX7_hasWord 1 = .ok (.ifCond .lt 17, 3) := by decide +kernel
theorem dX7_hasWord_4 : decode cX7_hasWord 4 = .ok (.iload_n 1, 1) := by decide +kernel
theorem dX7_hasWord_5 : decode cX7_hasWord 5 = .ok (.aload_n 0, 1) := by decide +kernel
theorem dX7_hasWord_6 : decode cX7_hasWord 6 = .ok (.getfield 11, 3) := by decide +kernel
theorem dX7_hasWord_9 : decode cX7_hasWord 9 = .ok (.iconst 2, 1) := by decide +kernel
theorem dX7_hasWord_10 : decode cX7_hasWord 10 = .ok (.iaload, 1) := by decide +kernel
theorem dX7_hasWord_11 : decode cX7_hasWord 11 = .ok (.if_icmp .ge 7, 3) := by decide +kernel
theorem dX7_hasWord_18 : decode cX7_hasWord 18 = .ok (.iconst 0, 1) := by decide +kernel
theorem dX7_hasWord_19 : decode cX7_hasWord 19 = .ok (.ireturn, 1) := by decide +kernel
theorem dX11_order_0 : decode cX11_order 0 = .ok (.aload_n 0, 1) := by decide +kernel
theorem dX11_order_1 : decode cX11_order 1 = .ok (.getfield 12, 3) := by decide +kernel
theorem dX11_order_4 : decode cX11_order 4 = .ok (.iload_n 1, 1) := by decide +kernel
theorem dX11_order_5 : decode cX11_order 5 = .ok (.invokevirtual 152, 3) := by decide +kernel
theorem dX11_order_8 : decode cX11_order 8 = .ok (.ifCond .eq 18, 3) := by decide +kernel
theorem dX11_order_26 : decode cX11_order 26 = .ok (.aload_n 0, 1) := by decide +kernel
theorem dX11_order_27 : decode cX11_order 27 = .ok (.iconst 2, 1) := by decide +kernel
theorem dX11_order_28 : decode cX11_order 28 = .ok (.invokevirtual 110, 3) := by decide +kernel
theorem dX11_order_31 : decode cX11_order 31 = .ok (.ireturn, 1) := by decide +kernel
theorem dX11_fail_0 : decode cX11_fail 0 = .ok (.aload_n 0, 1) := by decide +kernel
theorem dX11_fail_1 : decode cX11_fail 1 = .ok (.iload_n 1, 1) := by decide +kernel
theorem dX11_fail_2 : decode cX11_fail 2 = .ok (.putfield 35, 3) := by decide +kernel
theorem dX11_fail_5 : decode cX11_fail 5 = .ok (.iconst (-1), 1) := by decide +kernel
theorem dX11_fail_6 : decode cX11_fail 6 = .ok (.ireturn, 1) := by decide +kernel
abbrev vwCl : List vw_C := [(RX0, TX0, 5), (RX1, TX1, 1), (RX3, TX3, 3), (RX4, TX4, 8), (RX5, TX5, 10), (RX6, TX6, 3), (RX7, TX7, 1), (RX8, TX8, 2), (RX9, TX9, 6), (RX10, TX10, 4), (RX11, TX11, 19), (RX12, TX12, 31)]
