def tyX12 : Nat → FieldType := fun k => match k with
  | 0 => .array .int
  | 1 => .int
  | 2 => .int
  | 3 => .int
  | 4 => .array (.array .int)
  | 5 => .int
  | 6 => .array .int
  | 7 => .array .int
  | 8 => .array .byte
  | 9 => .array .byte
  | 10 => .int
  | 11 => .int
  | 12 => .int
  | 13 => .int
  | 14 => .int
  | 15 => .int
  | 16 => .int
  | 17 => .int
  | 18 => .int
  | 19 => .int
  | 20 => .int
  | 21 => .int
  | 22 => .int
  | 23 => .array .int
  | 24 => .array .int
  | 25 => .array .boolean
  | 26 => .array .int
  | 27 => .array (.array (.array .long))
  | 28 => .array .long
  | 29 => .array .byte
  | _ => .int
abbrev wsX120 : List Cond := u_ws RX12 TX12 31
theorem nmX12 : ∀ a, a < 31 → ∀ b, b < 31 → a ≠ b → (TX12 a).2.1 ≠ (TX12 b).2.1 := by decide +kernel
theorem tyX12_ok : ∀ k, k < 31 → parseFieldDescriptor (TX12 k).2.2.1 = some (tyX12 k) := by decide +kernel
abbrev cX12_status : ByteArray := prog_14_method_2_code
def yX12_status : MethodName := ⟨RX12, "status", "()I"⟩
abbrev cX12_refuse : ByteArray := prog_14_method_3_code
def yX12_refuse : MethodName := ⟨RX12, "refuse", "(I)I"⟩
abbrev cX12_gives : ByteArray := prog_14_method_4_code
def yX12_gives : MethodName := ⟨RX12, "gives", "(I)I"⟩
abbrev cX12_gives_ : ByteArray := prog_14_method_5_code
def yX12_gives_ : MethodName := ⟨RX12, "gives", "(J)J"⟩
abbrev cX12_isFrom : ByteArray := prog_14_method_6_code
def yX12_isFrom : MethodName := ⟨RX12, "isFrom", "(III)Z"⟩
abbrev cX12_of : ByteArray := prog_14_method_7_code
def yX12_of : MethodName := ⟨RX12, "of", "(I)I"⟩
abbrev cX12_isVertex : ByteArray := prog_14_method_9_code
def yX12_isVertex : MethodName := ⟨RX12, "isVertex", "(I)Z"⟩
abbrev cX12_isEdge : ByteArray := prog_14_method_10_code
def yX12_isEdge : MethodName := ⟨RX12, "isEdge", "(I)Z"⟩
abbrev cX12_isWord : ByteArray := prog_14_method_11_code
def yX12_isWord : MethodName := ⟨RX12, "isWord", "(I)Z"⟩
abbrev cX12_orderAt : ByteArray := prog_14_method_12_code
def yX12_orderAt : MethodName := ⟨RX12, "orderAt", "(I)I"⟩
abbrev cX12_ofEdge : ByteArray := prog_14_method_13_code
def yX12_ofEdge : MethodName := ⟨RX12, "ofEdge", "(II)I"⟩
abbrev cX12_from : ByteArray := prog_14_method_14_code
def yX12_from : MethodName := ⟨RX12, "from", "(I)I"⟩
abbrev cX12_by : ByteArray := prog_14_method_15_code
def yX12_by : MethodName := ⟨RX12, "by", "(I)I"⟩
abbrev cX12_to : ByteArray := prog_14_method_16_code
def yX12_to : MethodName := ⟨RX12, "to", "(I)I"⟩
abbrev cX12_into : ByteArray := prog_14_method_17_code
def yX12_into : MethodName := ⟨RX12, "into", "(I)I"⟩
abbrev cX12_round : ByteArray := prog_14_method_18_code
def yX12_round : MethodName := ⟨RX12, "round", "(II)I"⟩
abbrev cX12_number : ByteArray := prog_14_method_19_code
def yX12_number : MethodName := ⟨RX12, "number", "([II)I"⟩
abbrev cX12_step : ByteArray := prog_14_method_20_code
def yX12_step : MethodName := ⟨RX12, "step", "([II)I"⟩
abbrev cX12_last : ByteArray := prog_14_method_21_code
def yX12_last : MethodName := ⟨RX12, "last", "([I)I"⟩
abbrev cX12_end : ByteArray := prog_14_method_22_code
def yX12_end : MethodName := ⟨RX12, "end", "([I)I"⟩
abbrev cX12_single : ByteArray := prog_14_method_25_code
def yX12_single : MethodName := ⟨RX12, "single", "([III)V"⟩
theorem dX12_status_0 : decode cX12_status 0 = .ok (.aload_n 0, 1) := by decide +kernel
theorem dX12_status_1 : decode cX12_status 1 = .ok (.getfield 67, 3) := by decide +kernel
theorem dX12_status_4 : decode cX12_status 4 = .ok (.ireturn, 1) := by decide +kernel
theorem dX12_refuse_0 : decode cX12_refuse 0 = .ok (.aload_n 0, 1) := by decide +kernel
theorem dX12_refuse_1 : decode cX12_refuse 1 = .ok (.iload_n 1, 1) := by decide +kernel
theorem dX12_refuse_2 : decode cX12_refuse 2 = .ok (.putfield 67, 3) := by decide +kernel
theorem dX12_refuse_5 : decode cX12_refuse 5 = .ok (.iconst (-1), 1) := by decide +kernel
theorem dX12_refuse_6 : decode cX12_refuse 6 = .ok (.ireturn, 1) := by decide +kernel
theorem dX12_gives_0 : decode cX12_gives 0 = .ok (.aload_n 0, 1) := by decide +kernel
theorem dX12_gives_1 : decode cX12_gives 1 = .ok (.iconst 0, 1) := by decide +kernel
theorem dX12_gives_2 : decode cX12_gives 2 = .ok (.putfield 67, 3) := by decide +kernel
theorem dX12_gives_5 : decode cX12_gives 5 = .ok (.iload_n 1, 1) := by decide +kernel
theorem dX12_gives_6 : decode cX12_gives 6 = .ok (.ireturn, 1) := by decide +kernel
theorem dX12_gives__0 : decode cX12_gives_ 0 = .ok (.aload_n 0, 1) := by decide +kernel
theorem dX12_gives__1 : decode cX12_gives_ 1 = .ok (.iconst 0, 1) := by decide +kernel
theorem dX12_gives__2 : decode cX12_gives_ 2 = .ok (.putfield 67, 3) := by decide +kernel
theorem dX12_gives__5 : decode cX12_gives_ 5 = .ok (.lload_n 1, 1) := by decide +kernel
theorem dX12_gives__6 : decode cX12_gives_ 6 = .ok (.lreturn, 1) := by decide +kernel
theorem dX12_isFrom_0 : decode cX12_isFrom 0 = .ok (.iload_n 0, 1) := by decide +kernel
theorem dX12_isFrom_1 : decode cX12_isFrom 1 = .ok (.iload_n 1, 1) := by decide +kernel
theorem dX12_isFrom_2 : decode cX12_isFrom 2 = .ok (.if_icmp .lt 12, 3) := by decide +kernel
theorem dX12_isFrom_5 : decode cX12_isFrom 5 = .ok (.iload_n 0, 1) := by decide +kernel
theorem dX12_isFrom_6 : decode cX12_isFrom 6 = .ok (.iload_n 2, 1) := by decide +kernel
theorem dX12_isFrom_7 : decode cX12_isFrom 7 = .ok (.if_icmp .gt 7, 3) := by decide +kernel
theorem dX12_isFrom_10 : decode cX12_isFrom 10 = .ok (.iconst 1, 1) := by decide +kernel
theorem dX12_isFrom_11 : decode cX12_isFrom 11 = .ok (.goto 4, 3) := by decide +kernel
theorem dX12_isFrom_14 : decode cX12_isFrom 14 = .ok (.iconst 0, 1) := by decide +kernel
theorem dX12_isFrom_15 : decode cX12_isFrom 15 = .ok (.ireturn, 1) := by decide +kernel
theorem dX12_of_0 : decode cX12_of 0 = .ok (.aload_n 0, 1) := by decide +kernel
theorem dX12_of_1 : decode cX12_of 1 = .ok (.getfield 7, 3) := by decide +kernel
theorem dX12_of_4 : decode cX12_of 4 = .ok (.iload_n 1, 1) := by decide +kernel
theorem dX12_of_5 : decode cX12_of 5 = .ok (.iaload, 1) := by decide +kernel
theorem dX12_of_6 : decode cX12_of 6 = .ok (.ireturn, 1) := by decide +kernel
theorem dX12_isVertex_0 : decode cX12_isVertex 0 = .ok (.iload_n 1, 1) := by decide +kernel
theorem dX12_isVertex_1 : decode cX12_isVertex 1 = .ok (.ifCond .lt 16, 3) := by decide +kernel
theorem dX12_isVertex_4 : decode cX12_isVertex 4 = .ok (.iload_n 1, 1) := by decide +kernel
theorem dX12_isVertex_5 : decode cX12_isVertex 5 = .ok (.aload_n 0, 1) := by decide +kernel
theorem dX12_isVertex_6 : decode cX12_isVertex 6 = .ok (.iconst 0, 1) := by decide +kernel
theorem dX12_isVertex_7 : decode cX12_isVertex 7 = .ok (.invokevirtual 70, 3) := by decide +kernel
theorem dX12_isVertex_10 : decode cX12_isVertex 10 = .ok (.if_icmp .ge 7, 3) := by decide +kernel
theorem dX12_isVertex_13 : decode cX12_isVertex 13 = .ok (.iconst 1, 1) := by decide +kernel
theorem dX12_isVertex_14 : decode cX12_isVertex 14 = .ok (.goto 4, 3) := by decide +kernel
theorem dX12_isVertex_17 : decode cX12_isVertex 17 = .ok (.iconst 0, 1) := by decide +kernel
theorem dX12_isVertex_18 : decode cX12_isVertex 18 = .ok (.ireturn, 1) := by decide +kernel
theorem dX12_isEdge_0 : decode cX12_isEdge 0 = .ok (.iload_n 1, 1) := by decide +kernel
theorem dX12_isEdge_1 : decode cX12_isEdge 1 = .ok (.ifCond .lt 16, 3) := by decide +kernel
theorem dX12_isEdge_4 : decode cX12_isEdge 4 = .ok (.iload_n 1, 1) := by decide +kernel
theorem dX12_isEdge_5 : decode cX12_isEdge 5 = .ok (.aload_n 0, 1) := by decide +kernel
theorem dX12_isEdge_6 : decode cX12_isEdge 6 = .ok (.iconst 1, 1) := by decide +kernel
theorem dX12_isEdge_7 : decode cX12_isEdge 7 = .ok (.invokevirtual 70, 3) := by decide +kernel
theorem dX12_isEdge_10 : decode cX12_isEdge 10 = .ok (.if_icmp .ge 7, 3) := by decide +kernel
theorem dX12_isEdge_13 : decode cX12_isEdge 13 = .ok (.iconst 1, 1) := by decide +kernel
theorem dX12_isEdge_14 : decode cX12_isEdge 14 = .ok (.goto 4, 3) := by decide +kernel
theorem dX12_isEdge_17 : decode cX12_isEdge 17 = .ok (.iconst 0, 1) := by decide +kernel
theorem dX12_isEdge_18 : decode cX12_isEdge 18 = .ok (.ireturn, 1) := by decide +kernel
theorem dX12_isWord_0 : decode cX12_isWord 0 = .ok (.iload_n 1, 1) := by decide +kernel
theorem dX12_isWord_1 : decode cX12_isWord 1 = .ok (.ifCond .lt 16, 3) := by decide +kernel
theorem dX12_isWord_4 : decode cX12_isWord 4 = .ok (.iload_n 1, 1) := by decide +kernel
theorem dX12_isWord_5 : decode cX12_isWord 5 = .ok (.aload_n 0, 1) := by decide +kernel
theorem dX12_isWord_6 : decode cX12_isWord 6 = .ok (.iconst 2, 1) := by decide +kernel
theorem dX12_isWord_7 : decode cX12_isWord 7 = .ok (.invokevirtual 70, 3) := by decide +kernel
theorem dX12_isWord_10 : decode cX12_isWord 10 = .ok (.if_icmp .ge 7, 3) := by decide +kernel
theorem dX12_isWord_13 : decode cX12_isWord 13 = .ok (.iconst 1, 1) := by decide +kernel
theorem dX12_isWord_14 : decode cX12_isWord 14 = .ok (.goto 4, 3) := by decide +kernel
theorem dX12_isWord_17 : decode cX12_isWord 17 = .ok (.iconst 0, 1) := by decide +kernel
theorem dX12_isWord_18 : decode cX12_isWord 18 = .ok (.ireturn, 1) := by decide +kernel
theorem dX12_orderAt_0 : decode cX12_orderAt 0 = .ok (.aload_n 0, 1) := by decide +kernel
theorem dX12_orderAt_1 : decode cX12_orderAt 1 = .ok (.iconst 4, 1) := by decide +kernel
theorem dX12_orderAt_2 : decode cX12_orderAt 2 = .ok (.iload_n 1, 1) := by decide +kernel
theorem dX12_orderAt_3 : decode cX12_orderAt 3 = .ok (.iadd, 1) := by decide +kernel
theorem dX12_orderAt_4 : decode cX12_orderAt 4 = .ok (.invokevirtual 70, 3) := by decide +kernel
theorem dX12_orderAt_7 : decode cX12_orderAt 7 = .ok (.ireturn, 1) := by decide +kernel
theorem dX12_ofEdge_0 : decode cX12_ofEdge 0 = .ok (.aload_n 0, 1) := by decide +kernel
theorem dX12_ofEdge_1 : decode cX12_ofEdge 1 = .ok (.bipush 10, 2) := by decide +kernel
theorem dX12_ofEdge_3 : decode cX12_ofEdge 3 = .ok (.iconst 4, 1) := by decide +kernel
theorem dX12_ofEdge_4 : decode cX12_ofEdge 4 = .ok (.iload_n 1, 1) := by decide +kernel
theorem dX12_ofEdge_5 : decode cX12_ofEdge 5 = .ok (.imul, 1) := by decide +kernel
theorem dX12_ofEdge_6 : decode cX12_ofEdge 6 = .ok (.iadd, 1) := by decide +kernel
theorem dX12_ofEdge_7 : decode cX12_ofEdge 7 = .ok (.iload_n 2, 1) := by decide +kernel
theorem dX12_ofEdge_8 : decode cX12_ofEdge 8 = .ok (.iadd, 1) := by decide +kernel
theorem dX12_ofEdge_9 : decode cX12_ofEdge 9 = .ok (.invokevirtual 70, 3) := by decide +kernel
theorem dX12_ofEdge_12 : decode cX12_ofEdge 12 = .ok (.ireturn, 1) := by decide +kernel
theorem dX12_from_0 : decode cX12_from 0 = .ok (.aload_n 0, 1) := by decide +kernel
theorem dX12_from_1 : decode cX12_from 1 = .ok (.iload_n 1, 1) := by decide +kernel
theorem dX12_from_2 : decode cX12_from 2 = .ok (.iconst 2, 1) := by decide +kernel
theorem dX12_from_3 : decode cX12_from 3 = .ok (.idiv, 1) := by decide +kernel
theorem dX12_from_4 : decode cX12_from 4 = .ok (.iload_n 1, 1) := by decide +kernel
theorem dX12_from_5 : decode cX12_from 5 = .ok (.iconst 2, 1) := by decide +kernel
theorem dX12_from_6 : decode cX12_from 6 = .ok (.irem, 1) := by decide +kernel
theorem dX12_from_7 : decode cX12_from 7 = .ok (.ifCond .ne 7, 3) := by decide +kernel
theorem dX12_from_10 : decode cX12_from 10 = .ok (.iconst 0, 1) := by decide +kernel
theorem dX12_from_11 : decode cX12_from 11 = .ok (.goto 4, 3) := by decide +kernel
theorem dX12_from_14 : decode cX12_from 14 = .ok (.iconst 2, 1) := by decide +kernel
theorem dX12_from_15 : decode cX12_from 15 = .ok (.invokevirtual 74, 3) := by decide +kernel
theorem dX12_from_18 : decode cX12_from 18 = .ok (.ireturn, 1) := by decide +kernel
theorem dX12_by_0 : decode cX12_by 0 = .ok (.aload_n 0, 1) := by decide +kernel
theorem dX12_by_1 : decode cX12_by 1 = .ok (.iload_n 1, 1) := by decide +kernel
theorem dX12_by_2 : decode cX12_by 2 = .ok (.iconst 2, 1) := by decide +kernel
theorem dX12_by_3 : decode cX12_by 3 = .ok (.idiv, 1) := by decide +kernel
theorem dX12_by_4 : decode cX12_by 4 = .ok (.iload_n 1, 1) := by decide +kernel
theorem dX12_by_5 : decode cX12_by 5 = .ok (.iconst 2, 1) := by decide +kernel
theorem dX12_by_6 : decode cX12_by 6 = .ok (.irem, 1) := by decide +kernel
theorem dX12_by_7 : decode cX12_by 7 = .ok (.ifCond .ne 7, 3) := by decide +kernel
theorem dX12_by_10 : decode cX12_by 10 = .ok (.iconst 1, 1) := by decide +kernel
theorem dX12_by_11 : decode cX12_by 11 = .ok (.goto 4, 3) := by decide +kernel
theorem dX12_by_14 : decode cX12_by 14 = .ok (.iconst 3, 1) := by decide +kernel
theorem dX12_by_15 : decode cX12_by 15 = .ok (.invokevirtual 74, 3) := by decide +kernel
theorem dX12_by_18 : decode cX12_by 18 = .ok (.ireturn, 1) := by decide +kernel
theorem dX12_to_0 : decode cX12_to 0 = .ok (.aload_n 0, 1) := by decide +kernel
theorem dX12_to_1 : decode cX12_to 1 = .ok (.iload_n 1, 1) := by decide +kernel
theorem dX12_to_2 : decode cX12_to 2 = .ok (.iconst 1, 1) := by decide +kernel
theorem dX12_to_3 : decode cX12_to 3 = .ok (.ixor, 1) := by decide +kernel
theorem dX12_to_4 : decode cX12_to 4 = .ok (.invokevirtual 78, 3) := by decide +kernel
theorem dX12_to_7 : decode cX12_to 7 = .ok (.ireturn, 1) := by decide +kernel
theorem dX12_into_0 : decode cX12_into 0 = .ok (.aload_n 0, 1) := by decide +kernel
theorem dX12_into_1 : decode cX12_into 1 = .ok (.iload_n 1, 1) := by decide +kernel
theorem dX12_into_2 : decode cX12_into 2 = .ok (.iconst 1, 1) := by decide +kernel
theorem dX12_into_3 : decode cX12_into 3 = .ok (.ixor, 1) := by decide +kernel
theorem dX12_into_4 : decode cX12_into 4 = .ok (.invokevirtual 81, 3) := by decide +kernel
theorem dX12_into_7 : decode cX12_into 7 = .ok (.ireturn, 1) := by decide +kernel
theorem dX12_round_0 : decode cX12_round 0 = .ok (.iload_n 2, 1) := by decide +kernel
theorem dX12_round_1 : decode cX12_round 1 = .ok (.aload_n 0, 1) := by decide +kernel
theorem dX12_round_2 : decode cX12_round 2 = .ok (.iload_n 1, 1) := by decide +kernel
theorem dX12_round_3 : decode cX12_round 3 = .ok (.invokevirtual 84, 3) := by decide +kernel
theorem dX12_round_6 : decode cX12_round 6 = .ok (.irem, 1) := by decide +kernel
theorem dX12_round_7 : decode cX12_round 7 = .ok (.istore_n 3, 1) := by decide +kernel
theorem dX12_round_8 : decode cX12_round 8 = .ok (.iload_n 3, 1) := by decide +kernel
theorem dX12_round_9 : decode cX12_round 9 = .ok (.ifCond .ge 13, 3) := by decide +kernel
theorem dX12_round_12 : decode cX12_round 12 = .ok (.iload_n 3, 1) := by decide +kernel
theorem dX12_round_13 : decode cX12_round 13 = .ok (.aload_n 0, 1) := by decide +kernel
theorem dX12_round_14 : decode cX12_round 14 = .ok (.iload_n 1, 1) := by decide +kernel
theorem dX12_round_15 : decode cX12_round 15 = .ok (.invokevirtual 84, 3) := by decide +kernel
theorem dX12_round_18 : decode cX12_round 18 = .ok (.iadd, 1) := by decide +kernel
theorem dX12_round_19 : decode cX12_round 19 = .ok (.goto 4, 3) := by decide +kernel
theorem dX12_round_22 : decode cX12_round 22 = .ok (.iload_n 3, 1) := by decide +kernel
theorem dX12_round_23 : decode cX12_round 23 = .ok (.ireturn, 1) := by decide +kernel
theorem dX12_number_0 : decode cX12_number 0 = .ok (.aload_n 0, 1) := by decide +kernel
theorem dX12_number_1 : decode cX12_number 1 = .ok (.iconst 2, 1) := by decide +kernel
theorem dX12_number_2 : decode cX12_number 2 = .ok (.iconst 2, 1) := by decide +kernel
theorem dX12_number_3 : decode cX12_number 3 = .ok (.iload_n 1, 1) := by decide +kernel
theorem dX12_number_4 : decode cX12_number 4 = .ok (.imul, 1) := by decide +kernel
theorem dX12_number_5 : decode cX12_number 5 = .ok (.iadd, 1) := by decide +kernel
theorem dX12_number_6 : decode cX12_number 6 = .ok (.iaload, 1) := by decide +kernel
theorem dX12_number_7 : decode cX12_number 7 = .ok (.ireturn, 1) := by decide +kernel
theorem dX12_step_0 : decode cX12_step 0 = .ok (.aload_n 0, 1) := by decide +kernel
theorem dX12_step_1 : decode cX12_step 1 = .ok (.iconst 3, 1) := by decide +kernel
theorem dX12_step_2 : decode cX12_step 2 = .ok (.iconst 2, 1) := by decide +kernel
theorem dX12_step_3 : decode cX12_step 3 = .ok (.iload_n 1, 1) := by decide +kernel
theorem dX12_step_4 : decode cX12_step 4 = .ok (.imul, 1) := by decide +kernel
theorem dX12_step_5 : decode cX12_step 5 = .ok (.iadd, 1) := by decide +kernel
theorem dX12_step_6 : decode cX12_step 6 = .ok (.iaload, 1) := by decide +kernel
theorem dX12_step_7 : decode cX12_step 7 = .ok (.ireturn, 1) := by decide +kernel
theorem dX12_last_0 : decode cX12_last 0 = .ok (.aload_n 0, 1) := by decide +kernel
theorem dX12_last_1 : decode cX12_last 1 = .ok (.iconst 2, 1) := by decide +kernel
theorem dX12_last_2 : decode cX12_last 2 = .ok (.iconst 2, 1) := by decide +kernel
theorem dX12_last_3 : decode cX12_last 3 = .ok (.aload_n 0, 1) := by decide +kernel
theorem dX12_last_4 : decode cX12_last 4 = .ok (.iconst 1, 1) := by decide +kernel
theorem dX12_last_5 : decode cX12_last 5 = .ok (.iaload, 1) := by decide +kernel
theorem dX12_last_6 : decode cX12_last 6 = .ok (.imul, 1) := by decide +kernel
theorem dX12_last_7 : decode cX12_last 7 = .ok (.iadd, 1) := by decide +kernel
theorem dX12_last_8 : decode cX12_last 8 = .ok (.iaload, 1) := by decide +kernel
theorem dX12_last_9 : decode cX12_last 9 = .ok (.ireturn, 1) := by decide +kernel
theorem dX12_end_0 : decode cX12_end 0 = .ok (.aload_n 1, 1) := by decide +kernel
theorem dX12_end_1 : decode cX12_end 1 = .ok (.iconst 1, 1) := by decide +kernel
theorem dX12_end_2 : decode cX12_end 2 = .ok (.iaload, 1) := by decide +kernel
theorem dX12_end_3 : decode cX12_end 3 = .ok (.ifCond .ne 9, 3) := by decide +kernel
theorem dX12_end_6 : decode cX12_end 6 = .ok (.aload_n 1, 1) := by decide +kernel
theorem dX12_end_7 : decode cX12_end 7 = .ok (.iconst 0, 1) := by decide +kernel
theorem dX12_end_8 : decode cX12_end 8 = .ok (.iaload, 1) := by decide +kernel
theorem dX12_end_9 : decode cX12_end 9 = .ok (.goto 16, 3) := by decide +kernel
theorem dX12_end_12 : decode cX12_end 12 = .ok (.aload_n 0, 1) := by decide +kernel
theorem dX12_end_13 : decode cX12_end 13 = .ok (.aload_n 1, 1) := by decide +kernel
theorem dX12_end_14 : decode cX12_end 14 = .ok (.aload_n 1, 1) := by decide +kernel
theorem dX12_end_15 : decode cX12_end 15 = .ok (.iconst 1, 1) := by decide +kernel
theorem dX12_end_16 : decode cX12_end 16 = .ok (.iaload, 1) := by decide +kernel
theorem dX12_end_17 : decode cX12_end 17 = .ok (.iconst 1, 1) := by decide +kernel
theorem dX12_end_18 : decode cX12_end 18 = .ok (.isub, 1) := by decide +kernel
theorem dX12_end_19 : decode cX12_end 19 = .ok (.invokestatic 87, 3) := by decide +kernel
theorem dX12_end_22 : decode cX12_end 22 = .ok (.invokevirtual 91, 3) := by decide +kernel
theorem dX12_end_25 : decode cX12_end 25 = .ok (.ireturn, 1) := by decide +kernel
theorem dX12_single_0 : decode cX12_single 0 = .ok (.aload_n 0, 1) := by decide +kernel
theorem dX12_single_1 : decode cX12_single 1 = .ok (.iconst 0, 1) := by decide +kernel
theorem dX12_single_2 : decode cX12_single 2 = .ok (.iload_n 1, 1) := by decide +kernel
theorem dX12_single_3 : decode cX12_single 3 = .ok (.iastore, 1) := by decide +kernel
theorem dX12_single_4 : decode cX12_single 4 = .ok (.aload_n 0, 1) := by decide +kernel
theorem dX12_single_5 : decode cX12_single 5 = .ok (.iconst 1, 1) := by decide +kernel
theorem dX12_single_6 : decode cX12_single 6 = .ok (.iconst 0, 1) := by decide +kernel
theorem dX12_single_7 : decode cX12_single 7 = .ok (.iastore, 1) := by decide +kernel
theorem dX12_single_8 : decode cX12_single 8 = .ok (.aload_n 0, 1) := by decide +kernel
theorem dX12_single_9 : decode cX12_single 9 = .ok (.iconst 2, 1) := by decide +kernel
theorem dX12_single_10 : decode cX12_single 10 = .ok (.iload_n 2, 1) := by decide +kernel
theorem dX12_single_11 : decode cX12_single 11 = .ok (.iastore, 1) := by decide +kernel
theorem dX12_single_12 : decode cX12_single 12 = .ok (.return_, 1) := by decide +kernel
