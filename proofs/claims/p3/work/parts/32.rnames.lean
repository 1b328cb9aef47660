def tyX12 : Nat → FieldType := fun k => match k with
  | 0 => .array .int
  | 1 => .int
  | 2 => .int
  | 3 => .int
  | 4 => .array (.array .int)
  | 5 => .int
  | 6 => .array .int
  | 7 => .array .int
  | 8 => .array .byte
  | 9 => .array .byte
  | 10 => .int
  | 11 => .int
  | 12 => .int
  | 13 => .int
  | 14 => .int
  | 15 => .int
  | 16 => .int
  | 17 => .int
  | 18 => .int
  | 19 => .int
  | 20 => .int
  | 21 => .int
  | 22 => .int
  | 23 => .array .int
  | 24 => .array .int
  | 25 => .array .boolean
  | 26 => .array .int
  | 27 => .array (.array (.array .long))
  | 28 => .array .long
  | 29 => .array .byte
  | _ => .int
abbrev wsX120 : List Cond := u_ws RX12 TX12 31
theorem nmX12 : ∀ a, a < 31 → ∀ b, b < 31 → a ≠ b → (TX12 a).2.1 ≠ (TX12 b).2.1 := by decide +kernel
theorem tyX12_ok : ∀ k, k < 31 → parseFieldDescriptor (TX12 k).2.2.1 = some (tyX12 k) := by decide +kernel
abbrev cX12_status : ByteArray := prog_14_method_2_code
def yX12_status : MethodName := ⟨RX12, "status", "()I"⟩
abbrev cX12_refuse : ByteArray := prog_14_method_3_code
def yX12_refuse : MethodName := ⟨RX12, "refuse", "(I)I"⟩
abbrev cX12_gives : ByteArray := prog_14_method_4_code
def yX12_gives : MethodName := ⟨RX12, "gives", "(I)I"⟩
abbrev cX12_gives_ : ByteArray := prog_14_method_5_code
def yX12_gives_ : MethodName := ⟨RX12, "gives", "(J)J"⟩
abbrev cX12_isFrom : ByteArray := prog_14_method_6_code
def yX12_isFrom : MethodName := ⟨RX12, "isFrom", "(III)Z"⟩
abbrev cX12_of : ByteArray := prog_14_method_7_code
def yX12_of : MethodName := ⟨RX12, "of", "(I)I"⟩
abbrev cX12_copies : ByteArray := prog_14_method_8_code
def yX12_copies : MethodName := ⟨RX12, "copies", "(II)V"⟩
abbrev cX12_isVertex : ByteArray := prog_14_method_9_code
def yX12_isVertex : MethodName := ⟨RX12, "isVertex", "(I)Z"⟩
abbrev cX12_isEdge : ByteArray := prog_14_method_10_code
def yX12_isEdge : MethodName := ⟨RX12, "isEdge", "(I)Z"⟩
abbrev cX12_isWord : ByteArray := prog_14_method_11_code
def yX12_isWord : MethodName := ⟨RX12, "isWord", "(I)Z"⟩
abbrev cX12_orderAt : ByteArray := prog_14_method_12_code
def yX12_orderAt : MethodName := ⟨RX12, "orderAt", "(I)I"⟩
abbrev cX12_ofEdge : ByteArray := prog_14_method_13_code
def yX12_ofEdge : MethodName := ⟨RX12, "ofEdge", "(II)I"⟩
abbrev cX12_from : ByteArray := prog_14_method_14_code
def yX12_from : MethodName := ⟨RX12, "from", "(I)I"⟩
abbrev cX12_by : ByteArray := prog_14_method_15_code
def yX12_by : MethodName := ⟨RX12, "by", "(I)I"⟩
abbrev cX12_to : ByteArray := prog_14_method_16_code
def yX12_to : MethodName := ⟨RX12, "to", "(I)I"⟩
abbrev cX12_into : ByteArray := prog_14_method_17_code
def yX12_into : MethodName := ⟨RX12, "into", "(I)I"⟩
abbrev cX12_round : ByteArray := prog_14_method_18_code
def yX12_round : MethodName := ⟨RX12, "round", "(II)I"⟩
abbrev cX12_number : ByteArray := prog_14_method_19_code
def yX12_number : MethodName := ⟨RX12, "number", "([II)I"⟩
abbrev cX12_step : ByteArray := prog_14_method_20_code
def yX12_step : MethodName := ⟨RX12, "step", "([II)I"⟩
abbrev cX12_last : ByteArray := prog_14_method_21_code
def yX12_last : MethodName := ⟨RX12, "last", "([I)I"⟩
abbrev cX12_end : ByteArray := prog_14_method_22_code
def yX12_end : MethodName := ⟨RX12, "end", "([I)I"⟩
abbrev cX12_takes : ByteArray := prog_14_method_23_code
def yX12_takes : MethodName := ⟨RX12, "takes", "(I[I)V"⟩
abbrev cX12_lays : ByteArray := prog_14_method_24_code
def yX12_lays : MethodName := ⟨RX12, "lays", "([I[I)V"⟩
abbrev cX12_single : ByteArray := prog_14_method_25_code
def yX12_single : MethodName := ⟨RX12, "single", "([III)V"⟩
abbrev cX12_goes : ByteArray := prog_14_method_26_code
def yX12_goes : MethodName := ⟨RX12, "goes", "([III)V"⟩
abbrev cX12_forms : ByteArray := prog_14_method_27_code
def yX12_forms : MethodName := ⟨RX12, "forms", "([I[I)V"⟩
abbrev cX12_isLike : ByteArray := prog_14_method_28_code
def yX12_isLike : MethodName := ⟨RX12, "isLike", "([I[I)Z"⟩
abbrev cX12_joins : ByteArray := prog_14_method_29_code
def yX12_joins : MethodName := ⟨RX12, "joins", "([I[I[I)V"⟩
abbrev cX12_turns : ByteArray := prog_14_method_30_code
def yX12_turns : MethodName := ⟨RX12, "turns", "([I[I)V"⟩
abbrev cX12_isLoop : ByteArray := prog_14_method_31_code
def yX12_isLoop : MethodName := ⟨RX12, "isLoop", "(I)Z"⟩
abbrev cX12_cores : ByteArray := prog_14_method_32_code
def yX12_cores : MethodName := ⟨RX12, "cores", "([I)V"⟩
abbrev cX12_coreOf : ByteArray := prog_14_method_33_code
def yX12_coreOf : MethodName := ⟨RX12, "coreOf", "(I[I)V"⟩
abbrev cX12_keeps : ByteArray := prog_14_method_49_code
def yX12_keeps : MethodName := ⟨RX12, "keeps", "([I)V"⟩
abbrev cX12_acted : ByteArray := prog_14_method_62_code
def yX12_acted : MethodName := ⟨RX12, "acted", "(I)V"⟩
abbrev cX12_more : ByteArray := prog_14_method_63_code
def yX12_more : MethodName := ⟨RX12, "more", "([I)I"⟩
theorem dX12_status_0 : decode cX12_status 0 = .ok (.aload_n 0, 1) := by decide +kernel
theorem dX12_status_1 : decode cX12_status 1 = .ok (.getfield 67, 3) := by decide +kernel
theorem dX12_status_4 : decode cX12_status 4 = .ok (.ireturn, 1) := by decide +kernel
theorem dX12_refuse_0 : decode cX12_refuse 0 = .ok (.aload_n 0, 1) := by decide +kernel
theorem dX12_refuse_1 : decode cX12_refuse 1 = .ok (.iload_n 1, 1) := by decide +kernel
theorem dX12_refuse_2 : decode cX12_refuse 2 = .ok (.putfield 67, 3) := by decide +kernel
theorem dX12_refuse_5 : decode cX12_refuse 5 = .ok (.iconst (-1), 1) := by decide +kernel
theorem dX12_refuse_6 : decode cX12_refuse 6 = .ok (.ireturn, 1) := by decide +kernel
theorem dX12_gives_0 : decode cX12_gives 0 = .ok (.aload_n 0, 1) := by decide +kernel
theorem dX12_gives_1 : decode cX12_gives 1 = .ok (.iconst 0, 1) := by decide +kernel
theorem dX12_gives_2 : decode cX12_gives 2 = .ok (.putfield 67, 3) := by decide +kernel
theorem dX12_gives_5 : decode cX12_gives 5 = .ok (.iload_n 1, 1) := by decide +kernel
theorem dX12_gives_6 : decode cX12_gives 6 = .ok (.ireturn, 1) := by decide +kernel
theorem dX12_gives__0 : decode cX12_gives_ 0 = .ok (.aload_n 0, 1) := by decide +kernel
theorem dX12_gives__1 : decode cX12_gives_ 1 = .ok (.iconst 0, 1) := by decide +kernel
theorem dX12_gives__2 : decode cX12_gives_ 2 = .ok (.putfield 67, 3) := by decide +kernel
theorem dX12_gives__5 : decode cX12_gives_ 5 = .ok (.lload_n 1, 1) := by decide +kernel
theorem dX12_gives__6 : decode cX12_gives_ 6 = .ok (.lreturn, 1) := by decide +kernel
theorem dX12_isFrom_0 : decode cX12_isFrom 0 = .ok (.iload_n 0, 1) := by decide +kernel
theorem dX12_isFrom_1 : decode cX12_isFrom 1 = .ok (.iload_n 1, 1) := by decide +kernel
theorem dX12_isFrom_2 : decode cX12_isFrom 2 = .ok (.if_icmp .lt 12, 3) := by decide +kernel
theorem dX12_isFrom_5 : decode cX12_isFrom 5 = .ok (.iload_n 0, 1) := by decide +kernel
theorem dX12_isFrom_6 : decode cX12_isFrom 6 = .ok (.iload_n 2, 1) := by decide +kernel
theorem dX12_isFrom_7 : decode cX12_isFrom 7 = .ok (.if_icmp .gt 7, 3) := by decide +kernel
theorem dX12_isFrom_10 : decode cX12_isFrom 10 = .ok (.iconst 1, 1) := by decide +kernel
theorem dX12_isFrom_11 : decode cX12_isFrom 11 = .ok (.goto 4, 3) := by decide +kernel
theorem dX12_isFrom_14 : decode cX12_isFrom 14 = .ok (.iconst 0, 1) := by decide +kernel
theorem dX12_isFrom_15 : decode cX12_isFrom 15 = .ok (.ireturn, 1) := by decide +kernel
theorem dX12_of_0 : decode cX12_of 0 = .ok (.aload_n 0, 1) := by decide +kernel
theorem dX12_of_1 : decode cX12_of 1 = .ok (.getfield 7, 3) := by decide +kernel
theorem dX12_of_4 : decode cX12_of 4 = .ok (.iload_n 1, 1) := by decide +kernel
theorem dX12_of_5 : decode cX12_of 5 = .ok (.iaload, 1) := by decide +kernel
theorem dX12_of_6 : decode cX12_of 6 = .ok (.ireturn, 1) := by decide +kernel
theorem dX12_copies_0 : decode cX12_copies 0 = .ok (.iconst 0, 1) := by decide +kernel
theorem dX12_copies_1 : decode cX12_copies 1 = .ok (.istore_n 3, 1) := by decide +kernel
theorem dX12_copies_2 : decode cX12_copies 2 = .ok (.iload_n 3, 1) := by decide +kernel
theorem dX12_copies_3 : decode cX12_copies 3 = .ok (.sipush 554, 3) := by decide +kernel
theorem dX12_copies_6 : decode cX12_copies 6 = .ok (.if_icmp .ge 25, 3) := by decide +kernel
theorem dX12_copies_9 : decode cX12_copies 9 = .ok (.aload_n 0, 1) := by decide +kernel
theorem dX12_copies_10 : decode cX12_copies 10 = .ok (.getfield 7, 3) := by decide +kernel
theorem dX12_copies_13 : decode cX12_copies 13 = .ok (.iload_n 2, 1) := by decide +kernel
theorem dX12_copies_14 : decode cX12_copies 14 = .ok (.iload_n 3, 1) := by decide +kernel
theorem dX12_copies_15 : decode cX12_copies 15 = .ok (.iadd, 1) := by decide +kernel
theorem dX12_copies_16 : decode cX12_copies 16 = .ok (.aload_n 0, 1) := by decide +kernel
theorem dX12_copies_17 : decode cX12_copies 17 = .ok (.getfield 7, 3) := by decide +kernel
theorem dX12_copies_20 : decode cX12_copies 20 = .ok (.iload_n 1, 1) := by decide +kernel
theorem dX12_copies_21 : decode cX12_copies 21 = .ok (.iload_n 3, 1) := by decide +kernel
theorem dX12_copies_22 : decode cX12_copies 22 = .ok (.iadd, 1) := by decide +kernel
theorem dX12_copies_23 : decode cX12_copies 23 = .ok (.iaload, 1) := by decide +kernel
theorem dX12_copies_24 : decode cX12_copies 24 = .ok (.iastore, 1) := by decide +kernel
theorem dX12_copies_25 : decode cX12_copies 25 = .ok (.iinc 3 1, 3) := by decide +kernel
theorem dX12_copies_28 : decode cX12_copies 28 = .ok (.goto (-26), 3) := by decide +kernel
theorem dX12_copies_31 : decode cX12_copies 31 = .ok (.return_, 1) := by decide +kernel
theorem dX12_isVertex_0 : decode cX12_isVertex 0 = .ok (.iload_n 1, 1) := by decide +kernel
theorem dX12_isVertex_1 : decode cX12_isVertex 1 = .ok (.ifCond .lt 16, 3) := by decide +kernel
theorem dX12_isVertex_4 : decode cX12_isVertex 4 = .ok (.iload_n 1, 1) := by decide +kernel
theorem dX12_isVertex_5 : decode cX12_isVertex 5 = .ok (.aload_n 0, 1) := by decide +kernel
theorem dX12_isVertex_6 : decode cX12_isVertex 6 = .ok (.iconst 0, 1) := by decide +kernel
theorem dX12_isVertex_7 : decode cX12_isVertex 7 = .ok (.invokevirtual 70, 3) := by decide +kernel
theorem dX12_isVertex_10 : decode cX12_isVertex 10 = .ok (.if_icmp .ge 7, 3) := by decide +kernel
theorem dX12_isVertex_13 : decode cX12_isVertex 13 = .ok (.iconst 1, 1) := by decide +kernel
theorem dX12_isVertex_14 : decode cX12_isVertex 14 = .ok (.goto 4, 3) := by decide +kernel
theorem dX12_isVertex_17 : decode cX12_isVertex 17 = .ok (.iconst 0, 1) := by decide +kernel
theorem dX12_isVertex_18 : decode cX12_isVertex 18 = .ok (.ireturn, 1) := by decide +kernel
theorem dX12_isEdge_0 : decode cX12_isEdge 0 = .ok (.iload_n 1, 1) := by decide +kernel
theorem dX12_isEdge_1 : decode cX12_isEdge 1 = .ok (.ifCond .lt 16, 3) := by decide +kernel
theorem dX12_isEdge_4 : decode cX12_isEdge 4 = .ok (.iload_n 1, 1) := by decide +kernel
theorem dX12_isEdge_5 : decode cX12_isEdge 5 = .ok (.aload_n 0, 1) := by decide +kernel
theorem dX12_isEdge_6 : decode cX12_isEdge 6 = .ok (.iconst 1, 1) := by decide +kernel
theorem dX12_isEdge_7 : decode cX12_isEdge 7 = .ok (.invokevirtual 70, 3) := by decide +kernel
theorem dX12_isEdge_10 : decode cX12_isEdge 10 = .ok (.if_icmp .ge 7, 3) := by decide +kernel
theorem dX12_isEdge_13 : decode cX12_isEdge 13 = .ok (.iconst 1, 1) := by decide +kernel
theorem dX12_isEdge_14 : decode cX12_isEdge 14 = .ok (.goto 4, 3) := by decide +kernel
theorem dX12_isEdge_17 : decode cX12_isEdge 17 = .ok (.iconst 0, 1) := by decide +kernel
theorem dX12_isEdge_18 : decode cX12_isEdge 18 = .ok (.ireturn, 1) := by decide +kernel
theorem dX12_isWord_0 : decode cX12_isWord 0 = .ok (.iload_n 1, 1) := by decide +kernel
theorem dX12_isWord_1 : decode cX12_isWord 1 = .ok (.ifCond .lt 16, 3) := by decide +kernel
theorem dX12_isWord_4 : decode cX12_isWord 4 = .ok (.iload_n 1, 1) := by decide +kernel
theorem dX12_isWord_5 : decode cX12_isWord 5 = .ok (.aload_n 0, 1) := by decide +kernel
theorem dX12_isWord_6 : decode cX12_isWord 6 = .ok (.iconst 2, 1) := by decide +kernel
theorem dX12_isWord_7 : decode cX12_isWord 7 = .ok (.invokevirtual 70, 3) := by decide +kernel
theorem dX12_isWord_10 : decode cX12_isWord 10 = .ok (.if_icmp .ge 7, 3) := by decide +kernel
theorem dX12_isWord_13 : decode cX12_isWord 13 = .ok (.iconst 1, 1) := by decide +kernel
theorem dX12_isWord_14 : decode cX12_isWord 14 = .ok (.goto 4, 3) := by decide +kernel
theorem dX12_isWord_17 : decode cX12_isWord 17 = .ok (.iconst 0, 1) := by decide +kernel
theorem dX12_isWord_18 : decode cX12_isWord 18 = .ok (.ireturn, 1) := by decide +kernel
theorem dX12_orderAt_0 : decode cX12_orderAt 0 = .ok (.aload_n 0, 1) := by decide +kernel
theorem dX12_orderAt_1 : decode cX12_orderAt 1 = .ok (.iconst 4, 1) := by decide +kernel
theorem dX12_orderAt_2 : decode cX12_orderAt 2 = .ok (.iload_n 1, 1) := by decide +kernel
theorem dX12_orderAt_3 : decode cX12_orderAt 3 = .ok (.iadd, 1) := by decide +kernel
theorem dX12_orderAt_4 : decode cX12_orderAt 4 = .ok (.invokevirtual 70, 3) := by decide +kernel
theorem dX12_orderAt_7 : decode cX12_orderAt 7 = .ok (.ireturn, 1) := by decide +kernel
theorem dX12_ofEdge_0 : decode cX12_ofEdge 0 = .ok (.aload_n 0, 1) := by decide +kernel
theorem dX12_ofEdge_1 : decode cX12_ofEdge 1 = .ok (.bipush 10, 2) := by decide +kernel
theorem dX12_ofEdge_3 : decode cX12_ofEdge 3 = .ok (.iconst 4, 1) := by decide +kernel
theorem dX12_ofEdge_4 : decode cX12_ofEdge 4 = .ok (.iload_n 1, 1) := by decide +kernel
theorem dX12_ofEdge_5 : decode cX12_ofEdge 5 = .ok (.imul, 1) := by decide +kernel
theorem dX12_ofEdge_6 : decode cX12_ofEdge 6 = .ok (.iadd, 1) := by decide +kernel
theorem dX12_ofEdge_7 : decode cX12_ofEdge 7 = .ok (.iload_n 2, 1) := by decide +kernel
theorem dX12_ofEdge_8 : decode cX12_ofEdge 8 = .ok (.iadd, 1) := by decide +kernel
theorem dX12_ofEdge_9 : decode cX12_ofEdge 9 = .ok (.invokevirtual 70, 3) := by decide +kernel
theorem dX12_ofEdge_12 : decode cX12_ofEdge 12 = .ok (.ireturn, 1) := by decide +kernel
theorem dX12_from_0 : decode cX12_from 0 = .ok (.aload_n 0, 1) := by decide +kernel
theorem dX12_from_1 : decode cX12_from 1 = .ok (.iload_n 1, 1) := by decide +kernel
theorem dX12_from_2 : decode cX12_from 2 = .ok (.iconst 2, 1) := by decide +kernel
theorem dX12_from_3 : decode cX12_from 3 = .ok (.idiv, 1) := by decide +kernel
theorem dX12_from_4 : decode cX12_from 4 = .ok (.iload_n 1, 1) := by decide +kernel
theorem dX12_from_5 : decode cX12_from 5 = .ok (.iconst 2, 1) := by decide +kernel
theorem dX12_from_6 : decode cX12_from 6 = .ok (.irem, 1) := by decide +kernel
theorem dX12_from_7 : decode cX12_from 7 = .ok (.ifCond .ne 7, 3) := by decide +kernel
theorem dX12_from_10 : decode cX12_from 10 = .ok (.iconst 0, 1) := by decide +kernel
theorem dX12_from_11 : decode cX12_from 11 = .ok (.goto 4, 3) := by decide +kernel
theorem dX12_from_14 : decode cX12_from 14 = .ok (.iconst 2, 1) := by decide +kernel
theorem dX12_from_15 : decode cX12_from 15 = .ok (.invokevirtual 74, 3) := by decide +kernel
theorem dX12_from_18 : decode cX12_from 18 = .ok (.ireturn, 1) := by decide +kernel
theorem dX12_by_0 : decode cX12_by 0 = .ok (.aload_n 0, 1) := by decide +kernel
theorem dX12_by_1 : decode cX12_by 1 = .ok (.iload_n 1, 1) := by decide +kernel
theorem dX12_by_2 : decode cX12_by 2 = .ok (.iconst 2, 1) := by decide +kernel
theorem dX12_by_3 : decode cX12_by 3 = .ok (.idiv, 1) := by decide +kernel
theorem dX12_by_4 : decode cX12_by 4 = .ok (.iload_n 1, 1) := by decide +kernel
theorem dX12_by_5 : decode cX12_by 5 = .ok (.iconst 2, 1) := by decide +kernel
theorem dX12_by_6 : decode cX12_by 6 = .ok (.irem, 1) := by decide +kernel
theorem dX12_by_7 : decode cX12_by 7 = .ok (.ifCond .ne 7, 3) := by decide +kernel
theorem dX12_by_10 : decode cX12_by 10 = .ok (.iconst 1, 1) := by decide +kernel
theorem dX12_by_11 : decode cX12_by 11 = .ok (.goto 4, 3) := by decide +kernel
theorem dX12_by_14 : decode cX12_by 14 = .ok (.iconst 3, 1) := by decide +kernel
theorem dX12_by_15 : decode cX12_by 15 = .ok (.invokevirtual 74, 3) := by decide +kernel
theorem dX12_by_18 : decode cX12_by 18 = .ok (.ireturn, 1) := by decide +kernel
theorem dX12_to_0 : decode cX12_to 0 = .ok (.aload_n 0, 1) := by decide +kernel
theorem dX12_to_1 : decode cX12_to 1 = .ok (.iload_n 1, 1) := by decide +kernel
theorem dX12_to_2 : decode cX12_to 2 = .ok (.iconst 1, 1) := by decide +kernel
theorem dX12_to_3 : decode cX12_to 3 = .ok (.ixor, 1) := by decide +kernel
theorem dX12_to_4 : decode cX12_to 4 = .ok (.invokevirtual 78, 3) := by decide +kernel
theorem dX12_to_7 : decode cX12_to 7 = .ok (.ireturn, 1) := by decide +kernel
theorem dX12_into_0 : decode cX12_into 0 = .ok (.aload_n 0, 1) := by decide +kernel
theorem dX12_into_1 : decode cX12_into 1 = .ok (.iload_n 1, 1) := by decide +kernel
theorem dX12_into_2 : decode cX12_into 2 = .ok (.iconst 1, 1) := by decide +kernel
theorem dX12_into_3 : decode cX12_into 3 = .ok (.ixor, 1) := by decide +kernel
theorem dX12_into_4 : decode cX12_into 4 = .ok (.invokevirtual 81, 3) := by decide +kernel
theorem dX12_into_7 : decode cX12_into 7 = .ok (.ireturn, 1) := by decide +kernel
theorem dX12_round_0 : decode cX12_round 0 = .ok (.iload_n 2, 1) := by decide +kernel
theorem dX12_round_1 : decode cX12_round 1 = .ok (.aload_n 0, 1) := by decide +kernel
theorem dX12_round_2 : decode cX12_round 2 = .ok (.iload_n 1, 1) := by decide +kernel
theorem dX12_round_3 : decode cX12_round 3 = .ok (.invokevirtual 84, 3) := by decide +kernel
theorem dX12_round_6 : decode cX12_round 6 = .ok (.irem, 1) := by decide +kernel
theorem dX12_round_7 : decode cX12_round 7 = .ok (.istore_n 3, 1) := by decide +kernel
theorem dX12_round_8 : decode cX12_round 8 = .ok (.iload_n 3, 1) := by decide +kernel
theorem dX12_round_9 : decode cX12_round 9 = .ok (.ifCond .ge 13, 3) := by decide +kernel
theorem dX12_round_12 : decode cX12_round 12 = .ok (.iload_n 3, 1) := by decide +kernel
theorem dX12_round_13 : decode cX12_round 13 = .ok (.aload_n 0, 1) := by decide +kernel
theorem dX12_round_14 : decode cX12_round 14 = .ok (.iload_n 1, 1) := by decide +kernel
theorem dX12_round_15 : decode cX12_round 15 = .ok (.invokevirtual 84, 3) := by decide +kernel
theorem dX12_round_18 : decode cX12_round 18 = .ok (.iadd, 1) := by decide +kernel
theorem dX12_round_19 : decode cX12_round 19 = .ok (.goto 4, 3) := by decide +kernel
theorem dX12_round_22 : decode cX12_round 22 = .ok (.iload_n 3, 1) := by decide +kernel
theorem dX12_round_23 : decode cX12_round 23 = .ok (.ireturn, 1) := by decide +kernel
theorem dX12_number_0 : decode cX12_number 0 = .ok (.aload_n 0, 1) := by decide +kernel
theorem dX12_number_1 : decode cX12_number 1 = .ok (.iconst 2, 1) := by decide +kernel
theorem dX12_number_2 : decode cX12_number 2 = .ok (.iconst 2, 1) := by decide +kernel
theorem dX12_number_3 : decode cX12_number 3 = .ok (.iload_n 1, 1) := by decide +kernel
theorem dX12_number_4 : decode cX12_number 4 = .ok (.imul, 1) := by decide +kernel
theorem dX12_number_5 : decode cX12_number 5 = .ok (.iadd, 1) := by decide +kernel
theorem dX12_number_6 : decode cX12_number 6 = .ok (.iaload, 1) := by decide +kernel
theorem dX12_number_7 : decode cX12_number 7 = .ok (.ireturn, 1) := by decide +kernel
theorem dX12_step_0 : decode cX12_step 0 = .ok (.aload_n 0, 1) := by decide +kernel
theorem dX12_step_1 : decode cX12_step 1 = .ok (.iconst 3, 1) := by decide +kernel
theorem dX12_step_2 : decode cX12_step 2 = .ok (.iconst 2, 1) := by decide +kernel
theorem dX12_step_3 : decode cX12_step 3 = .ok (.iload_n 1, 1) := by decide +kernel
theorem dX12_step_4 : decode cX12_step 4 = .ok (.imul, 1) := by decide +kernel
theorem dX12_step_5 : decode cX12_step 5 = .ok (.iadd, 1) := by decide +kernel
theorem dX12_step_6 : decode cX12_step 6 = .ok (.iaload, 1) := by decide +kernel
theorem dX12_step_7 : decode cX12_step 7 = .ok (.ireturn, 1) := by decide +kernel
theorem dX12_last_0 : decode cX12_last 0 = .ok (.aload_n 0, 1) := by decide +kernel
theorem dX12_last_1 : decode cX12_last 1 = .ok (.iconst 2, 1) := by decide +kernel
theorem dX12_last_2 : decode cX12_last 2 = .ok (.iconst 2, 1) := by decide +kernel
theorem dX12_last_3 : decode cX12_last 3 = .ok (.aload_n 0, 1) := by decide +kernel
theorem dX12_last_4 : decode cX12_last 4 = .ok (.iconst 1, 1) := by decide +kernel
theorem dX12_last_5 : decode cX12_last 5 = .ok (.iaload, 1) := by decide +kernel
theorem dX12_last_6 : decode cX12_last 6 = .ok (.imul, 1) := by decide +kernel
theorem dX12_last_7 : decode cX12_last 7 = .ok (.iadd, 1) := by decide +kernel
theorem dX12_last_8 : decode cX12_last 8 = .ok (.iaload, 1) := by decide +kernel
theorem dX12_last_9 : decode cX12_last 9 = .ok (.ireturn, 1) := by decide +kernel
theorem dX12_end_0 : decode cX12_end 0 = .ok (.aload_n 1, 1) := by decide +kernel
theorem dX12_end_1 : decode cX12_end 1 = .ok (.iconst 1, 1) := by decide +kernel
theorem dX12_end_2 : decode cX12_end 2 = .ok (.iaload, 1) := by decide +kernel
theorem dX12_end_3 : decode cX12_end 3 = .ok (.ifCond .ne 9, 3) := by decide +kernel
theorem dX12_end_6 : decode cX12_end 6 = .ok (.aload_n 1, 1) := by decide +kernel
theorem dX12_end_7 : decode cX12_end 7 = .ok (.iconst 0, 1) := by decide +kernel
theorem dX12_end_8 : decode cX12_end 8 = .ok (.iaload, 1) := by decide +kernel
theorem dX12_end_9 : decode cX12_end 9 = .ok (.goto 16, 3) := by decide +kernel
theorem dX12_end_12 : decode cX12_end 12 = .ok (.aload_n 0, 1) := by decide +kernel
theorem dX12_end_13 : decode cX12_end 13 = .ok (.aload_n 1, 1) := by decide +kernel
theorem dX12_end_14 : decode cX12_end 14 = .ok (.aload_n 1, 1) := by decide +kernel
theorem dX12_end_15 : decode cX12_end 15 = .ok (.iconst 1, 1) := by decide +kernel
theorem dX12_end_16 : decode cX12_end 16 = .ok (.iaload, 1) := by decide +kernel
theorem dX12_end_17 : decode cX12_end 17 = .ok (.iconst 1, 1) := by decide +kernel
theorem dX12_end_18 : decode cX12_end 18 = .ok (.isub, 1) := by decide +kernel
theorem dX12_end_19 : decode cX12_end 19 = .ok (.invokestatic 87, 3) := by decide +kernel
theorem dX12_end_22 : decode cX12_end 22 = .ok (.invokevirtual 91, 3) := by decide +kernel
theorem dX12_end_25 : decode cX12_end 25 = .ok (.ireturn, 1) := by decide +kernel
theorem dX12_takes_0 : decode cX12_takes 0 = .ok (.iconst 0, 1) := by decide +kernel
theorem dX12_takes_1 : decode cX12_takes 1 = .ok (.istore_n 3, 1) := by decide +kernel
theorem dX12_takes_2 : decode cX12_takes 2 = .ok (.iload_n 3, 1) := by decide +kernel
theorem dX12_takes_3 : decode cX12_takes 3 = .ok (.bipush 52, 2) := by decide +kernel
theorem dX12_takes_5 : decode cX12_takes 5 = .ok (.if_icmp .ge 25, 3) := by decide +kernel
theorem dX12_takes_8 : decode cX12_takes 8 = .ok (.aload_n 2, 1) := by decide +kernel
theorem dX12_takes_9 : decode cX12_takes 9 = .ok (.iload_n 3, 1) := by decide +kernel
theorem dX12_takes_10 : decode cX12_takes 10 = .ok (.aload_n 0, 1) := by decide +kernel
theorem dX12_takes_11 : decode cX12_takes 11 = .ok (.bipush 34, 2) := by decide +kernel
theorem dX12_takes_13 : decode cX12_takes 13 = .ok (.bipush 52, 2) := by decide +kernel
theorem dX12_takes_15 : decode cX12_takes 15 = .ok (.iload_n 1, 1) := by decide +kernel
theorem dX12_takes_16 : decode cX12_takes 16 = .ok (.imul, 1) := by decide +kernel
theorem dX12_takes_17 : decode cX12_takes 17 = .ok (.iadd, 1) := by decide +kernel
theorem dX12_takes_18 : decode cX12_takes 18 = .ok (.iload_n 3, 1) := by decide +kernel
theorem dX12_takes_19 : decode cX12_takes 19 = .ok (.iadd, 1) := by decide +kernel
theorem dX12_takes_20 : decode cX12_takes 20 = .ok (.invokevirtual 70, 3) := by decide +kernel
theorem dX12_takes_23 : decode cX12_takes 23 = .ok (.iastore, 1) := by decide +kernel
theorem dX12_takes_24 : decode cX12_takes 24 = .ok (.iinc 3 1, 3) := by decide +kernel
theorem dX12_takes_27 : decode cX12_takes 27 = .ok (.goto (-25), 3) := by decide +kernel
theorem dX12_takes_30 : decode cX12_takes 30 = .ok (.return_, 1) := by decide +kernel
theorem dX12_lays_0 : decode cX12_lays 0 = .ok (.iconst 0, 1) := by decide +kernel
theorem dX12_lays_1 : decode cX12_lays 1 = .ok (.istore_n 2, 1) := by decide +kernel
theorem dX12_lays_2 : decode cX12_lays 2 = .ok (.iload_n 2, 1) := by decide +kernel
theorem dX12_lays_3 : decode cX12_lays 3 = .ok (.aload_n 0, 1) := by decide +kernel
theorem dX12_lays_4 : decode cX12_lays 4 = .ok (.arraylength, 1) := by decide +kernel
theorem dX12_lays_5 : decode cX12_lays 5 = .ok (.if_icmp .ge 15, 3) := by decide +kernel
theorem dX12_lays_8 : decode cX12_lays 8 = .ok (.aload_n 1, 1) := by decide +kernel
theorem dX12_lays_9 : decode cX12_lays 9 = .ok (.iload_n 2, 1) := by decide +kernel
theorem dX12_lays_10 : decode cX12_lays 10 = .ok (.aload_n 0, 1) := by decide +kernel
theorem dX12_lays_11 : decode cX12_lays 11 = .ok (.iload_n 2, 1) := by decide +kernel
theorem dX12_lays_12 : decode cX12_lays 12 = .ok (.iaload, 1) := by decide +kernel
theorem dX12_lays_13 : decode cX12_lays 13 = .ok (.iastore, 1) := by decide +kernel
theorem dX12_lays_14 : decode cX12_lays 14 = .ok (.iinc 2 1, 3) := by decide +kernel
theorem dX12_lays_17 : decode cX12_lays 17 = .ok (.goto (-15), 3) := by decide +kernel
theorem dX12_lays_20 : decode cX12_lays 20 = .ok (.return_, 1) := by decide +kernel
theorem dX12_single_0 : decode cX12_single 0 = .ok (.aload_n 0, 1) := by decide +kernel
theorem dX12_single_1 : decode cX12_single 1 = .ok (.iconst 0, 1) := by decide +kernel
theorem dX12_single_2 : decode cX12_single 2 = .ok (.iload_n 1, 1) := by decide +kernel
theorem dX12_single_3 : decode cX12_single 3 = .ok (.iastore, 1) := by decide +kernel
theorem dX12_single_4 : decode cX12_single 4 = .ok (.aload_n 0, 1) := by decide +kernel
theorem dX12_single_5 : decode cX12_single 5 = .ok (.iconst 1, 1) := by decide +kernel
theorem dX12_single_6 : decode cX12_single 6 = .ok (.iconst 0, 1) := by decide +kernel
theorem dX12_single_7 : decode cX12_single 7 = .ok (.iastore, 1) := by decide +kernel
theorem dX12_single_8 : decode cX12_single 8 = .ok (.aload_n 0, 1) := by decide +kernel
theorem dX12_single_9 : decode cX12_single 9 = .ok (.iconst 2, 1) := by decide +kernel
theorem dX12_single_10 : decode cX12_single 10 = .ok (.iload_n 2, 1) := by decide +kernel
theorem dX12_single_11 : decode cX12_single 11 = .ok (.iastore, 1) := by decide +kernel
theorem dX12_single_12 : decode cX12_single 12 = .ok (.return_, 1) := by decide +kernel
theorem dX12_goes_0 : decode cX12_goes 0 = .ok (.aload_n 0, 1) := by decide +kernel
theorem dX12_goes_1 : decode cX12_goes 1 = .ok (.iconst 3, 1) := by decide +kernel
theorem dX12_goes_2 : decode cX12_goes 2 = .ok (.iconst 2, 1) := by decide +kernel
theorem dX12_goes_3 : decode cX12_goes 3 = .ok (.aload_n 0, 1) := by decide +kernel
theorem dX12_goes_4 : decode cX12_goes 4 = .ok (.iconst 1, 1) := by decide +kernel
theorem dX12_goes_5 : decode cX12_goes 5 = .ok (.iaload, 1) := by decide +kernel
theorem dX12_goes_6 : decode cX12_goes 6 = .ok (.imul, 1) := by decide +kernel
theorem dX12_goes_7 : decode cX12_goes 7 = .ok (.iadd, 1) := by decide +kernel
theorem dX12_goes_8 : decode cX12_goes 8 = .ok (.iload_n 1, 1) := by decide +kernel
theorem dX12_goes_9 : decode cX12_goes 9 = .ok (.iastore, 1) := by decide +kernel
theorem dX12_goes_10 : decode cX12_goes 10 = .ok (.aload_n 0, 1) := by decide +kernel
theorem dX12_goes_11 : decode cX12_goes 11 = .ok (.iconst 1, 1) := by decide +kernel
theorem dX12_goes_12 : decode cX12_goes 12 = .ok (.dup2, 1) := by decide +kernel
theorem dX12_goes_13 : decode cX12_goes 13 = .ok (.iaload, 1) := by decide +kernel
theorem dX12_goes_14 : decode cX12_goes 14 = .ok (.iconst 1, 1) := by decide +kernel
theorem dX12_goes_15 : decode cX12_goes 15 = .ok (.iadd, 1) := by decide +kernel
theorem dX12_goes_16 : decode cX12_goes 16 = .ok (.iastore, 1) := by decide +kernel
theorem dX12_goes_17 : decode cX12_goes 17 = .ok (.aload_n 0, 1) := by decide +kernel
theorem dX12_goes_18 : decode cX12_goes 18 = .ok (.iconst 2, 1) := by decide +kernel
theorem dX12_goes_19 : decode cX12_goes 19 = .ok (.iconst 2, 1) := by decide +kernel
theorem dX12_goes_20 : decode cX12_goes 20 = .ok (.aload_n 0, 1) := by decide +kernel
theorem dX12_goes_21 : decode cX12_goes 21 = .ok (.iconst 1, 1) := by decide +kernel
theorem dX12_goes_22 : decode cX12_goes 22 = .ok (.iaload, 1) := by decide +kernel
theorem dX12_goes_23 : decode cX12_goes 23 = .ok (.imul, 1) := by decide +kernel
theorem dX12_goes_24 : decode cX12_goes 24 = .ok (.iadd, 1) := by decide +kernel
theorem dX12_goes_25 : decode cX12_goes 25 = .ok (.iload_n 2, 1) := by decide +kernel
theorem dX12_goes_26 : decode cX12_goes 26 = .ok (.iastore, 1) := by decide +kernel
theorem dX12_goes_27 : decode cX12_goes 27 = .ok (.return_, 1) := by decide +kernel
theorem dX12_forms_0 : decode cX12_forms 0 = .ok (.aload_n 1, 1) := by decide +kernel
theorem dX12_forms_1 : decode cX12_forms 1 = .ok (.iconst 0, 1) := by decide +kernel
theorem dX12_forms_2 : decode cX12_forms 2 = .ok (.invokestatic 94, 3) := by decide +kernel
theorem dX12_forms_5 : decode cX12_forms 5 = .ok (.istore_n 3, 1) := by decide +kernel
theorem dX12_forms_6 : decode cX12_forms 6 = .ok (.aload_n 1, 1) := by decide +kernel
theorem dX12_forms_7 : decode cX12_forms 7 = .ok (.iconst 0, 1) := by decide +kernel
theorem dX12_forms_8 : decode cX12_forms 8 = .ok (.iaload, 1) := by decide +kernel
theorem dX12_forms_9 : decode cX12_forms 9 = .ok (.istore 4, 2) := by decide +kernel
theorem dX12_forms_11 : decode cX12_forms 11 = .ok (.aload_n 0, 1) := by decide +kernel
theorem dX12_forms_12 : decode cX12_forms 12 = .ok (.iconst 0, 1) := by decide +kernel
theorem dX12_forms_13 : decode cX12_forms 13 = .ok (.putfield 97, 3) := by decide +kernel
theorem dX12_forms_16 : decode cX12_forms 16 = .ok (.aload_n 2, 1) := by decide +kernel
theorem dX12_forms_17 : decode cX12_forms 17 = .ok (.iload 4, 2) := by decide +kernel
theorem dX12_forms_19 : decode cX12_forms 19 = .ok (.iconst 0, 1) := by decide +kernel
theorem dX12_forms_20 : decode cX12_forms 20 = .ok (.invokestatic 100, 3) := by decide +kernel
theorem dX12_forms_23 : decode cX12_forms 23 = .ok (.iconst 0, 1) := by decide +kernel
theorem dX12_forms_24 : decode cX12_forms 24 = .ok (.istore 5, 2) := by decide +kernel
theorem dX12_forms_26 : decode cX12_forms 26 = .ok (.iload 5, 2) := by decide +kernel
theorem dX12_forms_28 : decode cX12_forms 28 = .ok (.aload_n 1, 1) := by decide +kernel
theorem dX12_forms_29 : decode cX12_forms 29 = .ok (.iconst 1, 1) := by decide +kernel
theorem dX12_forms_30 : decode cX12_forms 30 = .ok (.iaload, 1) := by decide +kernel
theorem dX12_forms_31 : decode cX12_forms 31 = .ok (.if_icmp .ge 172, 3) := by decide +kernel
theorem dX12_forms_34 : decode cX12_forms 34 = .ok (.aload_n 1, 1) := by decide +kernel
theorem dX12_forms_35 : decode cX12_forms 35 = .ok (.iload 5, 2) := by decide +kernel
theorem dX12_forms_37 : decode cX12_forms 37 = .ok (.invokestatic 87, 3) := by decide +kernel
theorem dX12_forms_40 : decode cX12_forms 40 = .ok (.istore 6, 2) := by decide +kernel
theorem dX12_forms_42 : decode cX12_forms 42 = .ok (.aload_n 2, 1) := by decide +kernel
theorem dX12_forms_43 : decode cX12_forms 43 = .ok (.iconst 1, 1) := by decide +kernel
theorem dX12_forms_44 : decode cX12_forms 44 = .ok (.iaload, 1) := by decide +kernel
theorem dX12_forms_45 : decode cX12_forms 45 = .ok (.istore 7, 2) := by decide +kernel
theorem dX12_forms_47 : decode cX12_forms 47 = .ok (.iload 7, 2) := by decide +kernel
theorem dX12_forms_49 : decode cX12_forms 49 = .ok (.ifCond .le 84, 3) := by decide +kernel
theorem dX12_forms_52 : decode cX12_forms 52 = .ok (.aload_n 2, 1) := by decide +kernel
theorem dX12_forms_53 : decode cX12_forms 53 = .ok (.iload 7, 2) := by decide +kernel
theorem dX12_forms_55 : decode cX12_forms 55 = .ok (.iconst 1, 1) := by decide +kernel
theorem dX12_forms_56 : decode cX12_forms 56 = .ok (.isub, 1) := by decide +kernel
theorem dX12_forms_57 : decode cX12_forms 57 = .ok (.invokestatic 87, 3) := by decide +kernel
theorem dX12_forms_60 : decode cX12_forms 60 = .ok (.iload 6, 2) := by decide +kernel
theorem dX12_forms_62 : decode cX12_forms 62 = .ok (.iconst 1, 1) := by decide +kernel
theorem dX12_forms_63 : decode cX12_forms 63 = .ok (.ixor, 1) := by decide +kernel
theorem dX12_forms_64 : decode cX12_forms 64 = .ok (.if_icmp .ne 69, 3) := by decide +kernel
theorem dX12_forms_67 : decode cX12_forms 67 = .ok (.iload_n 3, 1) := by decide +kernel
theorem dX12_forms_68 : decode cX12_forms 68 = .ok (.aload_n 0, 1) := by decide +kernel
theorem dX12_forms_69 : decode cX12_forms 69 = .ok (.iload 6, 2) := by decide +kernel
theorem dX12_forms_71 : decode cX12_forms 71 = .ok (.invokevirtual 81, 3) := by decide +kernel
theorem dX12_forms_74 : decode cX12_forms 74 = .ok (.irem, 1) := by decide +kernel
theorem dX12_forms_75 : decode cX12_forms 75 = .ok (.ifCond .ne 58, 3) := by decide +kernel
theorem dX12_forms_78 : decode cX12_forms 78 = .ok (.aload_n 2, 1) := by decide +kernel
theorem dX12_forms_79 : decode cX12_forms 79 = .ok (.iload 7, 2) := by decide +kernel
theorem dX12_forms_81 : decode cX12_forms 81 = .ok (.iconst 1, 1) := by decide +kernel
theorem dX12_forms_82 : decode cX12_forms 82 = .ok (.isub, 1) := by decide +kernel
theorem dX12_forms_83 : decode cX12_forms 83 = .ok (.invokestatic 87, 3) := by decide +kernel
theorem dX12_forms_86 : decode cX12_forms 86 = .ok (.istore 8, 2) := by decide +kernel
theorem dX12_forms_88 : decode cX12_forms 88 = .ok (.aload_n 2, 1) := by decide +kernel
theorem dX12_forms_89 : decode cX12_forms 89 = .ok (.iconst 1, 1) := by decide +kernel
theorem dX12_forms_90 : decode cX12_forms 90 = .ok (.dup2, 1) := by decide +kernel
theorem dX12_forms_91 : decode cX12_forms 91 = .ok (.iaload, 1) := by decide +kernel
theorem dX12_forms_92 : decode cX12_forms 92 = .ok (.iconst 1, 1) := by decide +kernel
theorem dX12_forms_93 : decode cX12_forms 93 = .ok (.isub, 1) := by decide +kernel
theorem dX12_forms_94 : decode cX12_forms 94 = .ok (.iastore, 1) := by decide +kernel
theorem dX12_forms_95 : decode cX12_forms 95 = .ok (.aload_n 2, 1) := by decide +kernel
theorem dX12_forms_96 : decode cX12_forms 96 = .ok (.iload 7, 2) := by decide +kernel
theorem dX12_forms_98 : decode cX12_forms 98 = .ok (.iconst 1, 1) := by decide +kernel
theorem dX12_forms_99 : decode cX12_forms 99 = .ok (.isub, 1) := by decide +kernel
theorem dX12_forms_100 : decode cX12_forms 100 = .ok (.invokestatic 94, 3) := by decide +kernel
theorem dX12_forms_103 : decode cX12_forms 103 = .ok (.iload_n 3, 1) := by decide +kernel
theorem dX12_forms_104 : decode cX12_forms 104 = .ok (.aload_n 0, 1) := by decide +kernel
theorem dX12_forms_105 : decode cX12_forms 105 = .ok (.iload 6, 2) := by decide +kernel
theorem dX12_forms_107 : decode cX12_forms 107 = .ok (.invokevirtual 81, 3) := by decide +kernel
theorem dX12_forms_110 : decode cX12_forms 110 = .ok (.idiv, 1) := by decide +kernel
theorem dX12_forms_111 : decode cX12_forms 111 = .ok (.aload_n 0, 1) := by decide +kernel
theorem dX12_forms_112 : decode cX12_forms 112 = .ok (.iload 8, 2) := by decide +kernel
theorem dX12_forms_114 : decode cX12_forms 114 = .ok (.invokevirtual 81, 3) := by decide +kernel
theorem dX12_forms_117 : decode cX12_forms 117 = .ok (.imul, 1) := by decide +kernel
theorem dX12_forms_118 : decode cX12_forms 118 = .ok (.iadd, 1) := by decide +kernel
theorem dX12_forms_119 : decode cX12_forms 119 = .ok (.istore_n 3, 1) := by decide +kernel
theorem dX12_forms_120 : decode cX12_forms 120 = .ok (.aload_n 0, 1) := by decide +kernel
theorem dX12_forms_121 : decode cX12_forms 121 = .ok (.dup, 1) := by decide +kernel
theorem dX12_forms_122 : decode cX12_forms 122 = .ok (.getfield 97, 3) := by decide +kernel
theorem dX12_forms_125 : decode cX12_forms 125 = .ok (.iconst 1, 1) := by decide +kernel
theorem dX12_forms_126 : decode cX12_forms 126 = .ok (.iadd, 1) := by decide +kernel
theorem dX12_forms_127 : decode cX12_forms 127 = .ok (.putfield 97, 3) := by decide +kernel
theorem dX12_forms_130 : decode cX12_forms 130 = .ok (.goto 42, 3) := by decide +kernel
theorem dX12_forms_133 : decode cX12_forms 133 = .ok (.aload_n 2, 1) := by decide +kernel
theorem dX12_forms_134 : decode cX12_forms 134 = .ok (.iconst 2, 1) := by decide +kernel
theorem dX12_forms_135 : decode cX12_forms 135 = .ok (.iconst 2, 1) := by decide +kernel
theorem dX12_forms_136 : decode cX12_forms 136 = .ok (.iload 7, 2) := by decide +kernel
theorem dX12_forms_138 : decode cX12_forms 138 = .ok (.imul, 1) := by decide +kernel
theorem dX12_forms_139 : decode cX12_forms 139 = .ok (.iadd, 1) := by decide +kernel
theorem dX12_forms_140 : decode cX12_forms 140 = .ok (.iload_n 3, 1) := by decide +kernel
theorem dX12_forms_141 : decode cX12_forms 141 = .ok (.aload_n 0, 1) := by decide +kernel
theorem dX12_forms_142 : decode cX12_forms 142 = .ok (.iload 6, 2) := by decide +kernel
theorem dX12_forms_144 : decode cX12_forms 144 = .ok (.invokevirtual 81, 3) := by decide +kernel
theorem dX12_forms_147 : decode cX12_forms 147 = .ok (.irem, 1) := by decide +kernel
theorem dX12_forms_148 : decode cX12_forms 148 = .ok (.iastore, 1) := by decide +kernel
theorem dX12_forms_149 : decode cX12_forms 149 = .ok (.aload_n 2, 1) := by decide +kernel
theorem dX12_forms_150 : decode cX12_forms 150 = .ok (.iload 6, 2) := by decide +kernel
theorem dX12_forms_152 : decode cX12_forms 152 = .ok (.iconst 0, 1) := by decide +kernel
theorem dX12_forms_153 : decode cX12_forms 153 = .ok (.invokestatic 104, 3) := by decide +kernel
theorem dX12_forms_156 : decode cX12_forms 156 = .ok (.aload_n 0, 1) := by decide +kernel
theorem dX12_forms_157 : decode cX12_forms 157 = .ok (.iload 6, 2) := by decide +kernel
theorem dX12_forms_159 : decode cX12_forms 159 = .ok (.invokevirtual 107, 3) := by decide +kernel
theorem dX12_forms_162 : decode cX12_forms 162 = .ok (.iload_n 3, 1) := by decide +kernel
theorem dX12_forms_163 : decode cX12_forms 163 = .ok (.aload_n 0, 1) := by decide +kernel
theorem dX12_forms_164 : decode cX12_forms 164 = .ok (.iload 6, 2) := by decide +kernel
theorem dX12_forms_166 : decode cX12_forms 166 = .ok (.invokevirtual 81, 3) := by decide +kernel
theorem dX12_forms_169 : decode cX12_forms 169 = .ok (.idiv, 1) := by decide +kernel
theorem dX12_forms_170 : decode cX12_forms 170 = .ok (.imul, 1) := by decide +kernel
theorem dX12_forms_171 : decode cX12_forms 171 = .ok (.istore_n 3, 1) := by decide +kernel
theorem dX12_forms_172 : decode cX12_forms 172 = .ok (.aload_n 0, 1) := by decide +kernel
theorem dX12_forms_173 : decode cX12_forms 173 = .ok (.iload 6, 2) := by decide +kernel
theorem dX12_forms_175 : decode cX12_forms 175 = .ok (.invokevirtual 91, 3) := by decide +kernel
theorem dX12_forms_178 : decode cX12_forms 178 = .ok (.istore 4, 2) := by decide +kernel
theorem dX12_forms_180 : decode cX12_forms 180 = .ok (.aload_n 0, 1) := by decide +kernel
theorem dX12_forms_181 : decode cX12_forms 181 = .ok (.iload 4, 2) := by decide +kernel
theorem dX12_forms_183 : decode cX12_forms 183 = .ok (.iload_n 3, 1) := by decide +kernel
theorem dX12_forms_184 : decode cX12_forms 184 = .ok (.aload_n 1, 1) := by decide +kernel
theorem dX12_forms_185 : decode cX12_forms 185 = .ok (.iload 5, 2) := by decide +kernel
theorem dX12_forms_187 : decode cX12_forms 187 = .ok (.iconst 1, 1) := by decide +kernel
theorem dX12_forms_188 : decode cX12_forms 188 = .ok (.iadd, 1) := by decide +kernel
theorem dX12_forms_189 : decode cX12_forms 189 = .ok (.invokestatic 94, 3) := by decide +kernel
theorem dX12_forms_192 : decode cX12_forms 192 = .ok (.iadd, 1) := by decide +kernel
theorem dX12_forms_193 : decode cX12_forms 193 = .ok (.invokevirtual 110, 3) := by decide +kernel
theorem dX12_forms_196 : decode cX12_forms 196 = .ok (.istore_n 3, 1) := by decide +kernel
theorem dX12_forms_197 : decode cX12_forms 197 = .ok (.iinc 5 1, 3) := by decide +kernel
theorem dX12_forms_200 : decode cX12_forms 200 = .ok (.goto (-174), 3) := by decide +kernel
theorem dX12_forms_203 : decode cX12_forms 203 = .ok (.aload_n 2, 1) := by decide +kernel
theorem dX12_forms_204 : decode cX12_forms 204 = .ok (.iconst 2, 1) := by decide +kernel
theorem dX12_forms_205 : decode cX12_forms 205 = .ok (.iconst 2, 1) := by decide +kernel
theorem dX12_forms_206 : decode cX12_forms 206 = .ok (.aload_n 2, 1) := by decide +kernel
theorem dX12_forms_207 : decode cX12_forms 207 = .ok (.iconst 1, 1) := by decide +kernel
theorem dX12_forms_208 : decode cX12_forms 208 = .ok (.iaload, 1) := by decide +kernel
theorem dX12_forms_209 : decode cX12_forms 209 = .ok (.imul, 1) := by decide +kernel
theorem dX12_forms_210 : decode cX12_forms 210 = .ok (.iadd, 1) := by decide +kernel
theorem dX12_forms_211 : decode cX12_forms 211 = .ok (.iload_n 3, 1) := by decide +kernel
theorem dX12_forms_212 : decode cX12_forms 212 = .ok (.iastore, 1) := by decide +kernel
theorem dX12_forms_213 : decode cX12_forms 213 = .ok (.return_, 1) := by decide +kernel
theorem dX12_isLike_0 : decode cX12_isLike 0 = .ok (.aload_n 0, 1) := by decide +kernel
theorem dX12_isLike_1 : decode cX12_isLike 1 = .ok (.iconst 0, 1) := by decide +kernel
theorem dX12_isLike_2 : decode cX12_isLike 2 = .ok (.iaload, 1) := by decide +kernel
theorem dX12_isLike_3 : decode cX12_isLike 3 = .ok (.aload_n 1, 1) := by decide +kernel
theorem dX12_isLike_4 : decode cX12_isLike 4 = .ok (.iconst 0, 1) := by decide +kernel
theorem dX12_isLike_5 : decode cX12_isLike 5 = .ok (.iaload, 1) := by decide +kernel
theorem dX12_isLike_6 : decode cX12_isLike 6 = .ok (.if_icmp .ne 16, 3) := by decide +kernel
theorem dX12_isLike_9 : decode cX12_isLike 9 = .ok (.aload_n 0, 1) := by decide +kernel
theorem dX12_isLike_10 : decode cX12_isLike 10 = .ok (.iconst 1, 1) := by decide +kernel
theorem dX12_isLike_11 : decode cX12_isLike 11 = .ok (.iaload, 1) := by decide +kernel
theorem dX12_isLike_12 : decode cX12_isLike 12 = .ok (.aload_n 1, 1) := by decide +kernel
theorem dX12_isLike_13 : decode cX12_isLike 13 = .ok (.iconst 1, 1) := by decide +kernel
theorem dX12_isLike_14 : decode cX12_isLike 14 = .ok (.iaload, 1) := by decide +kernel
theorem dX12_isLike_15 : decode cX12_isLike 15 = .ok (.if_icmp .ne 7, 3) := by decide +kernel
theorem dX12_isLike_18 : decode cX12_isLike 18 = .ok (.iconst 1, 1) := by decide +kernel
theorem dX12_isLike_19 : decode cX12_isLike 19 = .ok (.goto 4, 3) := by decide +kernel
theorem dX12_isLike_22 : decode cX12_isLike 22 = .ok (.iconst 0, 1) := by decide +kernel
theorem dX12_isLike_23 : decode cX12_isLike 23 = .ok (.istore_n 2, 1) := by decide +kernel
theorem dX12_isLike_24 : decode cX12_isLike 24 = .ok (.iconst 0, 1) := by decide +kernel
theorem dX12_isLike_25 : decode cX12_isLike 25 = .ok (.istore_n 3, 1) := by decide +kernel
theorem dX12_isLike_26 : decode cX12_isLike 26 = .ok (.iload_n 3, 1) := by decide +kernel
theorem dX12_isLike_27 : decode cX12_isLike 27 = .ok (.iconst 2, 1) := by decide +kernel
theorem dX12_isLike_28 : decode cX12_isLike 28 = .ok (.aload_n 0, 1) := by decide +kernel
theorem dX12_isLike_29 : decode cX12_isLike 29 = .ok (.iconst 1, 1) := by decide +kernel
theorem dX12_isLike_30 : decode cX12_isLike 30 = .ok (.iaload, 1) := by decide +kernel
theorem dX12_isLike_31 : decode cX12_isLike 31 = .ok (.imul, 1) := by decide +kernel
theorem dX12_isLike_32 : decode cX12_isLike 32 = .ok (.if_icmp .gt 32, 3) := by decide +kernel
theorem dX12_isLike_35 : decode cX12_isLike 35 = .ok (.iload_n 2, 1) := by decide +kernel
theorem dX12_isLike_36 : decode cX12_isLike 36 = .ok (.ifCond .eq 28, 3) := by decide +kernel
theorem dX12_isLike_39 : decode cX12_isLike 39 = .ok (.aload_n 0, 1) := by decide +kernel
theorem dX12_isLike_40 : decode cX12_isLike 40 = .ok (.iconst 2, 1) := by decide +kernel
theorem dX12_isLike_41 : decode cX12_isLike 41 = .ok (.iload_n 3, 1) := by decide +kernel
theorem dX12_isLike_42 : decode cX12_isLike 42 = .ok (.iadd, 1) := by decide +kernel
theorem dX12_isLike_43 : decode cX12_isLike 43 = .ok (.iaload, 1) := by decide +kernel
theorem dX12_isLike_44 : decode cX12_isLike 44 = .ok (.aload_n 1, 1) := by decide +kernel
theorem dX12_isLike_45 : decode cX12_isLike 45 = .ok (.iconst 2, 1) := by decide +kernel
theorem dX12_isLike_46 : decode cX12_isLike 46 = .ok (.iload_n 3, 1) := by decide +kernel
theorem dX12_isLike_47 : decode cX12_isLike 47 = .ok (.iadd, 1) := by decide +kernel
theorem dX12_isLike_48 : decode cX12_isLike 48 = .ok (.iaload, 1) := by decide +kernel
theorem dX12_isLike_49 : decode cX12_isLike 49 = .ok (.if_icmp .ne 7, 3) := by decide +kernel
theorem dX12_isLike_52 : decode cX12_isLike 52 = .ok (.iconst 1, 1) := by decide +kernel
theorem dX12_isLike_53 : decode cX12_isLike 53 = .ok (.goto 4, 3) := by decide +kernel
theorem dX12_isLike_56 : decode cX12_isLike 56 = .ok (.iconst 0, 1) := by decide +kernel
theorem dX12_isLike_57 : decode cX12_isLike 57 = .ok (.istore_n 2, 1) := by decide +kernel
theorem dX12_isLike_58 : decode cX12_isLike 58 = .ok (.iinc 3 1, 3) := by decide +kernel
theorem dX12_isLike_61 : decode cX12_isLike 61 = .ok (.goto (-35), 3) := by decide +kernel
theorem dX12_isLike_64 : decode cX12_isLike 64 = .ok (.iload_n 2, 1) := by decide +kernel
theorem dX12_isLike_65 : decode cX12_isLike 65 = .ok (.ireturn, 1) := by decide +kernel
theorem dX12_joins_0 : decode cX12_joins 0 = .ok (.aload_n 1, 1) := by decide +kernel
theorem dX12_joins_1 : decode cX12_joins 1 = .ok (.aload_n 0, 1) := by decide +kernel
theorem dX12_joins_2 : decode cX12_joins 2 = .ok (.getfield 18, 3) := by decide +kernel
theorem dX12_joins_5 : decode cX12_joins 5 = .ok (.invokestatic 113, 3) := by decide +kernel
theorem dX12_joins_8 : decode cX12_joins 8 = .ok (.aload_n 0, 1) := by decide +kernel
theorem dX12_joins_9 : decode cX12_joins 9 = .ok (.getfield 18, 3) := by decide +kernel
theorem dX12_joins_12 : decode cX12_joins 12 = .ok (.iconst 2, 1) := by decide +kernel
theorem dX12_joins_13 : decode cX12_joins 13 = .ok (.iconst 2, 1) := by decide +kernel
theorem dX12_joins_14 : decode cX12_joins 14 = .ok (.aload_n 1, 1) := by decide +kernel
theorem dX12_joins_15 : decode cX12_joins 15 = .ok (.iconst 1, 1) := by decide +kernel
theorem dX12_joins_16 : decode cX12_joins 16 = .ok (.iaload, 1) := by decide +kernel
theorem dX12_joins_17 : decode cX12_joins 17 = .ok (.imul, 1) := by decide +kernel
theorem dX12_joins_18 : decode cX12_joins 18 = .ok (.iadd, 1) := by decide +kernel
theorem dX12_joins_19 : decode cX12_joins 19 = .ok (.aload_n 0, 1) := by decide +kernel
theorem dX12_joins_20 : decode cX12_joins 20 = .ok (.aload_n 0, 1) := by decide +kernel
theorem dX12_joins_21 : decode cX12_joins 21 = .ok (.aload_n 1, 1) := by decide +kernel
theorem dX12_joins_22 : decode cX12_joins 22 = .ok (.invokevirtual 117, 3) := by decide +kernel
theorem dX12_joins_25 : decode cX12_joins 25 = .ok (.aload_n 1, 1) := by decide +kernel
theorem dX12_joins_26 : decode cX12_joins 26 = .ok (.invokestatic 121, 3) := by decide +kernel
theorem dX12_joins_29 : decode cX12_joins 29 = .ok (.aload_n 2, 1) := by decide +kernel
theorem dX12_joins_30 : decode cX12_joins 30 = .ok (.iconst 0, 1) := by decide +kernel
theorem dX12_joins_31 : decode cX12_joins 31 = .ok (.invokestatic 94, 3) := by decide +kernel
theorem dX12_joins_34 : decode cX12_joins 34 = .ok (.iadd, 1) := by decide +kernel
theorem dX12_joins_35 : decode cX12_joins 35 = .ok (.invokevirtual 110, 3) := by decide +kernel
theorem dX12_joins_38 : decode cX12_joins 38 = .ok (.iastore, 1) := by decide +kernel
theorem dX12_joins_39 : decode cX12_joins 39 = .ok (.iconst 0, 1) := by decide +kernel
theorem dX12_joins_40 : decode cX12_joins 40 = .ok (.istore 4, 2) := by decide +kernel
theorem dX12_joins_42 : decode cX12_joins 42 = .ok (.iload 4, 2) := by decide +kernel
theorem dX12_joins_44 : decode cX12_joins 44 = .ok (.aload_n 2, 1) := by decide +kernel
theorem dX12_joins_45 : decode cX12_joins 45 = .ok (.iconst 1, 1) := by decide +kernel
theorem dX12_joins_46 : decode cX12_joins 46 = .ok (.iaload, 1) := by decide +kernel
theorem dX12_joins_47 : decode cX12_joins 47 = .ok (.if_icmp .ge 30, 3) := by decide +kernel
theorem dX12_joins_50 : decode cX12_joins 50 = .ok (.aload_n 0, 1) := by decide +kernel
theorem dX12_joins_51 : decode cX12_joins 51 = .ok (.getfield 18, 3) := by decide +kernel
theorem dX12_joins_54 : decode cX12_joins 54 = .ok (.aload_n 2, 1) := by decide +kernel
theorem dX12_joins_55 : decode cX12_joins 55 = .ok (.iload 4, 2) := by decide +kernel
theorem dX12_joins_57 : decode cX12_joins 57 = .ok (.invokestatic 87, 3) := by decide +kernel
theorem dX12_joins_60 : decode cX12_joins 60 = .ok (.aload_n 2, 1) := by decide +kernel
theorem dX12_joins_61 : decode cX12_joins 61 = .ok (.iload 4, 2) := by decide +kernel
theorem dX12_joins_63 : decode cX12_joins 63 = .ok (.iconst 1, 1) := by decide +kernel
theorem dX12_joins_64 : decode cX12_joins 64 = .ok (.iadd, 1) := by decide +kernel
theorem dX12_joins_65 : decode cX12_joins 65 = .ok (.invokestatic 94, 3) := by decide +kernel
theorem dX12_joins_68 : decode cX12_joins 68 = .ok (.invokestatic 104, 3) := by decide +kernel
theorem dX12_joins_71 : decode cX12_joins 71 = .ok (.iinc 4 1, 3) := by decide +kernel
theorem dX12_joins_74 : decode cX12_joins 74 = .ok (.goto (-32), 3) := by decide +kernel
theorem dX12_joins_77 : decode cX12_joins 77 = .ok (.aload_n 0, 1) := by decide +kernel
theorem dX12_joins_78 : decode cX12_joins 78 = .ok (.aload_n 0, 1) := by decide +kernel
theorem dX12_joins_79 : decode cX12_joins 79 = .ok (.getfield 18, 3) := by decide +kernel
theorem dX12_joins_82 : decode cX12_joins 82 = .ok (.aload_n 3, 1) := by decide +kernel
theorem dX12_joins_83 : decode cX12_joins 83 = .ok (.invokevirtual 124, 3) := by decide +kernel
theorem dX12_joins_86 : decode cX12_joins 86 = .ok (.return_, 1) := by decide +kernel
theorem dX12_turns_0 : decode cX12_turns 0 = .ok (.aload_n 0, 1) := by decide +kernel
theorem dX12_turns_1 : decode cX12_turns 1 = .ok (.aload_n 1, 1) := by decide +kernel
theorem dX12_turns_2 : decode cX12_turns 2 = .ok (.invokevirtual 117, 3) := by decide +kernel
theorem dX12_turns_5 : decode cX12_turns 5 = .ok (.istore_n 3, 1) := by decide +kernel
theorem dX12_turns_6 : decode cX12_turns 6 = .ok (.aload_n 0, 1) := by decide +kernel
theorem dX12_turns_7 : decode cX12_turns 7 = .ok (.getfield 18, 3) := by decide +kernel
theorem dX12_turns_10 : decode cX12_turns 10 = .ok (.iload_n 3, 1) := by decide +kernel
theorem dX12_turns_11 : decode cX12_turns 11 = .ok (.aload_n 0, 1) := by decide +kernel
theorem dX12_turns_12 : decode cX12_turns 12 = .ok (.iload_n 3, 1) := by decide +kernel
theorem dX12_turns_13 : decode cX12_turns 13 = .ok (.aload_n 1, 1) := by decide +kernel
theorem dX12_turns_14 : decode cX12_turns 14 = .ok (.invokestatic 121, 3) := by decide +kernel
theorem dX12_turns_17 : decode cX12_turns 17 = .ok (.ineg, 1) := by decide +kernel
theorem dX12_turns_18 : decode cX12_turns 18 = .ok (.invokevirtual 110, 3) := by decide +kernel
theorem dX12_turns_21 : decode cX12_turns 21 = .ok (.invokestatic 100, 3) := by decide +kernel
theorem dX12_turns_24 : decode cX12_turns 24 = .ok (.aload_n 1, 1) := by decide +kernel
theorem dX12_turns_25 : decode cX12_turns 25 = .ok (.iconst 1, 1) := by decide +kernel
theorem dX12_turns_26 : decode cX12_turns 26 = .ok (.iaload, 1) := by decide +kernel
theorem dX12_turns_27 : decode cX12_turns 27 = .ok (.iconst 1, 1) := by decide +kernel
theorem dX12_turns_28 : decode cX12_turns 28 = .ok (.isub, 1) := by decide +kernel
theorem dX12_turns_29 : decode cX12_turns 29 = .ok (.istore 4, 2) := by decide +kernel
theorem dX12_turns_31 : decode cX12_turns 31 = .ok (.iload 4, 2) := by decide +kernel
theorem dX12_turns_33 : decode cX12_turns 33 = .ok (.ifCond .lt 49, 3) := by decide +kernel
theorem dX12_turns_36 : decode cX12_turns 36 = .ok (.aload_n 0, 1) := by decide +kernel
theorem dX12_turns_37 : decode cX12_turns 37 = .ok (.aload_n 1, 1) := by decide +kernel
theorem dX12_turns_38 : decode cX12_turns 38 = .ok (.iload 4, 2) := by decide +kernel
theorem dX12_turns_40 : decode cX12_turns 40 = .ok (.invokestatic 87, 3) := by decide +kernel
theorem dX12_turns_43 : decode cX12_turns 43 = .ok (.invokevirtual 78, 3) := by decide +kernel
theorem dX12_turns_46 : decode cX12_turns 46 = .ok (.istore 5, 2) := by decide +kernel
theorem dX12_turns_48 : decode cX12_turns 48 = .ok (.aload_n 0, 1) := by decide +kernel
theorem dX12_turns_49 : decode cX12_turns 49 = .ok (.getfield 18, 3) := by decide +kernel
theorem dX12_turns_52 : decode cX12_turns 52 = .ok (.aload_n 1, 1) := by decide +kernel
theorem dX12_turns_53 : decode cX12_turns 53 = .ok (.iload 4, 2) := by decide +kernel
theorem dX12_turns_55 : decode cX12_turns 55 = .ok (.invokestatic 87, 3) := by decide +kernel
theorem dX12_turns_58 : decode cX12_turns 58 = .ok (.iconst 1, 1) := by decide +kernel
theorem dX12_turns_59 : decode cX12_turns 59 = .ok (.ixor, 1) := by decide +kernel
theorem dX12_turns_60 : decode cX12_turns 60 = .ok (.aload_n 0, 1) := by decide +kernel
theorem dX12_turns_61 : decode cX12_turns 61 = .ok (.iload 5, 2) := by decide +kernel
theorem dX12_turns_63 : decode cX12_turns 63 = .ok (.aload_n 1, 1) := by decide +kernel
theorem dX12_turns_64 : decode cX12_turns 64 = .ok (.iload 4, 2) := by decide +kernel
theorem dX12_turns_66 : decode cX12_turns 66 = .ok (.invokestatic 94, 3) := by decide +kernel
theorem dX12_turns_69 : decode cX12_turns 69 = .ok (.ineg, 1) := by decide +kernel
theorem dX12_turns_70 : decode cX12_turns 70 = .ok (.invokevirtual 110, 3) := by decide +kernel
theorem dX12_turns_73 : decode cX12_turns 73 = .ok (.invokestatic 104, 3) := by decide +kernel
theorem dX12_turns_76 : decode cX12_turns 76 = .ok (.iinc 4 (-1), 3) := by decide +kernel
theorem dX12_turns_79 : decode cX12_turns 79 = .ok (.goto (-48), 3) := by decide +kernel
theorem dX12_turns_82 : decode cX12_turns 82 = .ok (.aload_n 0, 1) := by decide +kernel
theorem dX12_turns_83 : decode cX12_turns 83 = .ok (.aload_n 0, 1) := by decide +kernel
theorem dX12_turns_84 : decode cX12_turns 84 = .ok (.getfield 18, 3) := by decide +kernel
theorem dX12_turns_87 : decode cX12_turns 87 = .ok (.aload_n 2, 1) := by decide +kernel
theorem dX12_turns_88 : decode cX12_turns 88 = .ok (.invokevirtual 124, 3) := by decide +kernel
theorem dX12_turns_91 : decode cX12_turns 91 = .ok (.return_, 1) := by decide +kernel
theorem dX12_isLoop_0 : decode cX12_isLoop 0 = .ok (.aload_n 0, 1) := by decide +kernel
theorem dX12_isLoop_1 : decode cX12_isLoop 1 = .ok (.iload_n 1, 1) := by decide +kernel
theorem dX12_isLoop_2 : decode cX12_isLoop 2 = .ok (.aload_n 0, 1) := by decide +kernel
theorem dX12_isLoop_3 : decode cX12_isLoop 3 = .ok (.getfield 15, 3) := by decide +kernel
theorem dX12_isLoop_6 : decode cX12_isLoop 6 = .ok (.bipush 9, 2) := by decide +kernel
theorem dX12_isLoop_8 : decode cX12_isLoop 8 = .ok (.aaload, 1) := by decide +kernel
theorem dX12_isLoop_9 : decode cX12_isLoop 9 = .ok (.invokevirtual 127, 3) := by decide +kernel
theorem dX12_isLoop_12 : decode cX12_isLoop 12 = .ok (.aload_n 0, 1) := by decide +kernel
theorem dX12_isLoop_13 : decode cX12_isLoop 13 = .ok (.aload_n 0, 1) := by decide +kernel
theorem dX12_isLoop_14 : decode cX12_isLoop 14 = .ok (.getfield 15, 3) := by decide +kernel
theorem dX12_isLoop_17 : decode cX12_isLoop 17 = .ok (.bipush 9, 2) := by decide +kernel
theorem dX12_isLoop_19 : decode cX12_isLoop 19 = .ok (.aaload, 1) := by decide +kernel
theorem dX12_isLoop_20 : decode cX12_isLoop 20 = .ok (.invokevirtual 117, 3) := by decide +kernel
theorem dX12_isLoop_23 : decode cX12_isLoop 23 = .ok (.aload_n 0, 1) := by decide +kernel
theorem dX12_isLoop_24 : decode cX12_isLoop 24 = .ok (.getfield 15, 3) := by decide +kernel
theorem dX12_isLoop_27 : decode cX12_isLoop 27 = .ok (.bipush 9, 2) := by decide +kernel
theorem dX12_isLoop_29 : decode cX12_isLoop 29 = .ok (.aaload, 1) := by decide +kernel
theorem dX12_isLoop_30 : decode cX12_isLoop 30 = .ok (.iconst 0, 1) := by decide +kernel
theorem dX12_isLoop_31 : decode cX12_isLoop 31 = .ok (.iaload, 1) := by decide +kernel
theorem dX12_isLoop_32 : decode cX12_isLoop 32 = .ok (.if_icmp .ne 7, 3) := by decide +kernel
theorem dX12_isLoop_35 : decode cX12_isLoop 35 = .ok (.iconst 1, 1) := by decide +kernel
theorem dX12_isLoop_36 : decode cX12_isLoop 36 = .ok (.goto 4, 3) := by decide +kernel
theorem dX12_isLoop_39 : decode cX12_isLoop 39 = .ok (.iconst 0, 1) := by decide +kernel
theorem dX12_isLoop_40 : decode cX12_isLoop 40 = .ok (.ireturn, 1) := by decide +kernel
theorem dX12_cores_0 : decode cX12_cores 0 = .ok (.aload_n 0, 1) := by decide +kernel
theorem dX12_cores_1 : decode cX12_cores 1 = .ok (.aload_n 1, 1) := by decide +kernel
theorem dX12_cores_2 : decode cX12_cores 2 = .ok (.aload_n 0, 1) := by decide +kernel
theorem dX12_cores_3 : decode cX12_cores 3 = .ok (.getfield 21, 3) := by decide +kernel
theorem dX12_cores_6 : decode cX12_cores 6 = .ok (.invokevirtual 124, 3) := by decide +kernel
theorem dX12_cores_9 : decode cX12_cores 9 = .ok (.aload_n 0, 1) := by decide +kernel
theorem dX12_cores_10 : decode cX12_cores 10 = .ok (.getfield 21, 3) := by decide +kernel
theorem dX12_cores_13 : decode cX12_cores 13 = .ok (.aload_n 1, 1) := by decide +kernel
theorem dX12_cores_14 : decode cX12_cores 14 = .ok (.invokestatic 113, 3) := by decide +kernel
theorem dX12_cores_17 : decode cX12_cores 17 = .ok (.aload_n 1, 1) := by decide +kernel
theorem dX12_cores_18 : decode cX12_cores 18 = .ok (.iconst 1, 1) := by decide +kernel
theorem dX12_cores_19 : decode cX12_cores 19 = .ok (.iaload, 1) := by decide +kernel
theorem dX12_cores_20 : decode cX12_cores 20 = .ok (.iconst 1, 1) := by decide +kernel
theorem dX12_cores_21 : decode cX12_cores 21 = .ok (.if_icmp .le 174, 3) := by decide +kernel
theorem dX12_cores_24 : decode cX12_cores 24 = .ok (.aload_n 1, 1) := by decide +kernel
theorem dX12_cores_25 : decode cX12_cores 25 = .ok (.iconst 0, 1) := by decide +kernel
theorem dX12_cores_26 : decode cX12_cores 26 = .ok (.invokestatic 87, 3) := by decide +kernel
theorem dX12_cores_29 : decode cX12_cores 29 = .ok (.istore_n 2, 1) := by decide +kernel
theorem dX12_cores_30 : decode cX12_cores 30 = .ok (.aload_n 1, 1) := by decide +kernel
theorem dX12_cores_31 : decode cX12_cores 31 = .ok (.iconst 1, 1) := by decide +kernel
theorem dX12_cores_32 : decode cX12_cores 32 = .ok (.iaload, 1) := by decide +kernel
theorem dX12_cores_33 : decode cX12_cores 33 = .ok (.istore_n 3, 1) := by decide +kernel
theorem dX12_cores_34 : decode cX12_cores 34 = .ok (.aload_n 0, 1) := by decide +kernel
theorem dX12_cores_35 : decode cX12_cores 35 = .ok (.aload_n 1, 1) := by decide +kernel
theorem dX12_cores_36 : decode cX12_cores 36 = .ok (.iconst 0, 1) := by decide +kernel
theorem dX12_cores_37 : decode cX12_cores 37 = .ok (.iaload, 1) := by decide +kernel
theorem dX12_cores_38 : decode cX12_cores 38 = .ok (.aload_n 1, 1) := by decide +kernel
theorem dX12_cores_39 : decode cX12_cores 39 = .ok (.invokestatic 121, 3) := by decide +kernel
theorem dX12_cores_42 : decode cX12_cores 42 = .ok (.aload_n 1, 1) := by decide +kernel
theorem dX12_cores_43 : decode cX12_cores 43 = .ok (.iconst 0, 1) := by decide +kernel
theorem dX12_cores_44 : decode cX12_cores 44 = .ok (.invokestatic 94, 3) := by decide +kernel
theorem dX12_cores_47 : decode cX12_cores 47 = .ok (.iadd, 1) := by decide +kernel
theorem dX12_cores_48 : decode cX12_cores 48 = .ok (.invokevirtual 110, 3) := by decide +kernel
theorem dX12_cores_51 : decode cX12_cores 51 = .ok (.istore 4, 2) := by decide +kernel
theorem dX12_cores_53 : decode cX12_cores 53 = .ok (.aload_n 1, 1) := by decide +kernel
theorem dX12_cores_54 : decode cX12_cores 54 = .ok (.iload_n 3, 1) := by decide +kernel
theorem dX12_cores_55 : decode cX12_cores 55 = .ok (.iconst 1, 1) := by decide +kernel
theorem dX12_cores_56 : decode cX12_cores 56 = .ok (.isub, 1) := by decide +kernel
theorem dX12_cores_57 : decode cX12_cores 57 = .ok (.invokestatic 87, 3) := by decide +kernel
theorem dX12_cores_60 : decode cX12_cores 60 = .ok (.iload_n 2, 1) := by decide +kernel
theorem dX12_cores_61 : decode cX12_cores 61 = .ok (.iconst 1, 1) := by decide +kernel
theorem dX12_cores_62 : decode cX12_cores 62 = .ok (.ixor, 1) := by decide +kernel
theorem dX12_cores_63 : decode cX12_cores 63 = .ok (.if_icmp .ne 14, 3) := by decide +kernel
theorem dX12_cores_66 : decode cX12_cores 66 = .ok (.iload 4, 2) := by decide +kernel
theorem dX12_cores_68 : decode cX12_cores 68 = .ok (.aload_n 0, 1) := by decide +kernel
theorem dX12_cores_69 : decode cX12_cores 69 = .ok (.iload_n 2, 1) := by decide +kernel
theorem dX12_cores_70 : decode cX12_cores 70 = .ok (.invokevirtual 81, 3) := by decide +kernel
theorem dX12_cores_73 : decode cX12_cores 73 = .ok (.irem, 1) := by decide +kernel
theorem dX12_cores_74 : decode cX12_cores 74 = .ok (.ifCond .eq 4, 3) := by decide +kernel
theorem dX12_cores_77 : decode cX12_cores 77 = .ok (.return_, 1) := by decide +kernel
theorem dX12_cores_78 : decode cX12_cores 78 = .ok (.aload_n 0, 1) := by decide +kernel
theorem dX12_cores_79 : decode cX12_cores 79 = .ok (.getfield 18, 3) := by decide +kernel
theorem dX12_cores_82 : decode cX12_cores 82 = .ok (.aload_n 0, 1) := by decide +kernel
theorem dX12_cores_83 : decode cX12_cores 83 = .ok (.iload_n 2, 1) := by decide +kernel
theorem dX12_cores_84 : decode cX12_cores 84 = .ok (.invokevirtual 91, 3) := by decide +kernel
theorem dX12_cores_87 : decode cX12_cores 87 = .ok (.aload_n 1, 1) := by decide +kernel
theorem dX12_cores_88 : decode cX12_cores 88 = .ok (.iconst 1, 1) := by decide +kernel
theorem dX12_cores_89 : decode cX12_cores 89 = .ok (.invokestatic 94, 3) := by decide +kernel
theorem dX12_cores_92 : decode cX12_cores 92 = .ok (.invokestatic 100, 3) := by decide +kernel
theorem dX12_cores_95 : decode cX12_cores 95 = .ok (.iconst 1, 1) := by decide +kernel
theorem dX12_cores_96 : decode cX12_cores 96 = .ok (.istore 5, 2) := by decide +kernel
theorem dX12_cores_98 : decode cX12_cores 98 = .ok (.iload 5, 2) := by decide +kernel
theorem dX12_cores_100 : decode cX12_cores 100 = .ok (.iconst 1, 1) := by decide +kernel
theorem dX12_cores_101 : decode cX12_cores 101 = .ok (.iadd, 1) := by decide +kernel
theorem dX12_cores_102 : decode cX12_cores 102 = .ok (.iload_n 3, 1) := by decide +kernel
theorem dX12_cores_103 : decode cX12_cores 103 = .ok (.if_icmp .ge 30, 3) := by decide +kernel
theorem dX12_cores_106 : decode cX12_cores 106 = .ok (.aload_n 0, 1) := by decide +kernel
theorem dX12_cores_107 : decode cX12_cores 107 = .ok (.getfield 18, 3) := by decide +kernel
theorem dX12_cores_110 : decode cX12_cores 110 = .ok (.aload_n 1, 1) := by decide +kernel
theorem dX12_cores_111 : decode cX12_cores 111 = .ok (.iload 5, 2) := by decide +kernel
theorem dX12_cores_113 : decode cX12_cores 113 = .ok (.invokestatic 87, 3) := by decide +kernel
theorem dX12_cores_116 : decode cX12_cores 116 = .ok (.aload_n 1, 1) := by decide +kernel
theorem dX12_cores_117 : decode cX12_cores 117 = .ok (.iload 5, 2) := by decide +kernel
theorem dX12_cores_119 : decode cX12_cores 119 = .ok (.iconst 1, 1) := by decide +kernel
theorem dX12_cores_120 : decode cX12_cores 120 = .ok (.iadd, 1) := by decide +kernel
theorem dX12_cores_121 : decode cX12_cores 121 = .ok (.invokestatic 94, 3) := by decide +kernel
theorem dX12_cores_124 : decode cX12_cores 124 = .ok (.invokestatic 104, 3) := by decide +kernel
theorem dX12_cores_127 : decode cX12_cores 127 = .ok (.iinc 5 1, 3) := by decide +kernel
theorem dX12_cores_130 : decode cX12_cores 130 = .ok (.goto (-32), 3) := by decide +kernel
theorem dX12_cores_133 : decode cX12_cores 133 = .ok (.iconst 2, 1) := by decide +kernel
theorem dX12_cores_134 : decode cX12_cores 134 = .ok (.iconst 2, 1) := by decide +kernel
theorem dX12_cores_135 : decode cX12_cores 135 = .ok (.aload_n 0, 1) := by decide +kernel
theorem dX12_cores_136 : decode cX12_cores 136 = .ok (.getfield 18, 3) := by decide +kernel
theorem dX12_cores_139 : decode cX12_cores 139 = .ok (.iconst 1, 1) := by decide +kernel
theorem dX12_cores_140 : decode cX12_cores 140 = .ok (.iaload, 1) := by decide +kernel
theorem dX12_cores_141 : decode cX12_cores 141 = .ok (.imul, 1) := by decide +kernel
theorem dX12_cores_142 : decode cX12_cores 142 = .ok (.iadd, 1) := by decide +kernel
theorem dX12_cores_143 : decode cX12_cores 143 = .ok (.istore 5, 2) := by decide +kernel
theorem dX12_cores_145 : decode cX12_cores 145 = .ok (.aload_n 0, 1) := by decide +kernel
theorem dX12_cores_146 : decode cX12_cores 146 = .ok (.getfield 18, 3) := by decide +kernel
theorem dX12_cores_149 : decode cX12_cores 149 = .ok (.iload 5, 2) := by decide +kernel
theorem dX12_cores_151 : decode cX12_cores 151 = .ok (.aload_n 0, 1) := by decide +kernel
theorem dX12_cores_152 : decode cX12_cores 152 = .ok (.aload_n 0, 1) := by decide +kernel
theorem dX12_cores_153 : decode cX12_cores 153 = .ok (.iload_n 2, 1) := by decide +kernel
theorem dX12_cores_154 : decode cX12_cores 154 = .ok (.invokevirtual 91, 3) := by decide +kernel
theorem dX12_cores_157 : decode cX12_cores 157 = .ok (.aload_n 0, 1) := by decide +kernel
theorem dX12_cores_158 : decode cX12_cores 158 = .ok (.getfield 18, 3) := by decide +kernel
theorem dX12_cores_161 : decode cX12_cores 161 = .ok (.iload 5, 2) := by decide +kernel
theorem dX12_cores_163 : decode cX12_cores 163 = .ok (.iaload, 1) := by decide +kernel
theorem dX12_cores_164 : decode cX12_cores 164 = .ok (.iload 4, 2) := by decide +kernel
theorem dX12_cores_166 : decode cX12_cores 166 = .ok (.aload_n 0, 1) := by decide +kernel
theorem dX12_cores_167 : decode cX12_cores 167 = .ok (.iload_n 2, 1) := by decide +kernel
theorem dX12_cores_168 : decode cX12_cores 168 = .ok (.invokevirtual 81, 3) := by decide +kernel
theorem dX12_cores_171 : decode cX12_cores 171 = .ok (.idiv, 1) := by decide +kernel
theorem dX12_cores_172 : decode cX12_cores 172 = .ok (.aload_n 0, 1) := by decide +kernel
theorem dX12_cores_173 : decode cX12_cores 173 = .ok (.iload_n 2, 1) := by decide +kernel
theorem dX12_cores_174 : decode cX12_cores 174 = .ok (.invokevirtual 107, 3) := by decide +kernel
theorem dX12_cores_177 : decode cX12_cores 177 = .ok (.imul, 1) := by decide +kernel
theorem dX12_cores_178 : decode cX12_cores 178 = .ok (.iadd, 1) := by decide +kernel
theorem dX12_cores_179 : decode cX12_cores 179 = .ok (.invokevirtual 110, 3) := by decide +kernel
theorem dX12_cores_182 : decode cX12_cores 182 = .ok (.iastore, 1) := by decide +kernel
theorem dX12_cores_183 : decode cX12_cores 183 = .ok (.aload_n 0, 1) := by decide +kernel
theorem dX12_cores_184 : decode cX12_cores 184 = .ok (.aload_n 0, 1) := by decide +kernel
theorem dX12_cores_185 : decode cX12_cores 185 = .ok (.getfield 18, 3) := by decide +kernel
theorem dX12_cores_188 : decode cX12_cores 188 = .ok (.aload_n 1, 1) := by decide +kernel
theorem dX12_cores_189 : decode cX12_cores 189 = .ok (.invokevirtual 124, 3) := by decide +kernel
theorem dX12_cores_192 : decode cX12_cores 192 = .ok (.goto (-175), 3) := by decide +kernel
theorem dX12_cores_195 : decode cX12_cores 195 = .ok (.return_, 1) := by decide +kernel
theorem dX12_coreOf_0 : decode cX12_coreOf 0 = .ok (.aload_n 0, 1) := by decide +kernel
theorem dX12_coreOf_1 : decode cX12_coreOf 1 = .ok (.iload_n 1, 1) := by decide +kernel
theorem dX12_coreOf_2 : decode cX12_coreOf 2 = .ok (.aload_n 2, 1) := by decide +kernel
theorem dX12_coreOf_3 : decode cX12_coreOf 3 = .ok (.invokevirtual 127, 3) := by decide +kernel
theorem dX12_coreOf_6 : decode cX12_coreOf 6 = .ok (.aload_n 0, 1) := by decide +kernel
theorem dX12_coreOf_7 : decode cX12_coreOf 7 = .ok (.aload_n 2, 1) := by decide +kernel
theorem dX12_coreOf_8 : decode cX12_coreOf 8 = .ok (.invokevirtual 131, 3) := by decide +kernel
theorem dX12_coreOf_11 : decode cX12_coreOf 11 = .ok (.return_, 1) := by decide +kernel
theorem dX12_keeps_0 : decode cX12_keeps 0 = .ok (.iconst 0, 1) := by decide +kernel
theorem dX12_keeps_1 : decode cX12_keeps 1 = .ok (.istore_n 2, 1) := by decide +kernel
theorem dX12_keeps_2 : decode cX12_keeps 2 = .ok (.iload_n 2, 1) := by decide +kernel
theorem dX12_keeps_3 : decode cX12_keeps 3 = .ok (.bipush 52, 2) := by decide +kernel
theorem dX12_keeps_5 : decode cX12_keeps 5 = .ok (.if_icmp .ge 30, 3) := by decide +kernel
theorem dX12_keeps_8 : decode cX12_keeps 8 = .ok (.aload_n 0, 1) := by decide +kernel
theorem dX12_keeps_9 : decode cX12_keeps 9 = .ok (.getfield 7, 3) := by decide +kernel
theorem dX12_keeps_12 : decode cX12_keeps 12 = .ok (.bipush 34, 2) := by decide +kernel
theorem dX12_keeps_14 : decode cX12_keeps 14 = .ok (.bipush 52, 2) := by decide +kernel
theorem dX12_keeps_16 : decode cX12_keeps 16 = .ok (.aload_n 0, 1) := by decide +kernel
theorem dX12_keeps_17 : decode cX12_keeps 17 = .ok (.iconst 2, 1) := by decide +kernel
theorem dX12_keeps_18 : decode cX12_keeps 18 = .ok (.invokevirtual 70, 3) := by decide +kernel
theorem dX12_keeps_21 : decode cX12_keeps 21 = .ok (.imul, 1) := by decide +kernel
theorem dX12_keeps_22 : decode cX12_keeps 22 = .ok (.iadd, 1) := by decide +kernel
theorem dX12_keeps_23 : decode cX12_keeps 23 = .ok (.iload_n 2, 1) := by decide +kernel
theorem dX12_keeps_24 : decode cX12_keeps 24 = .ok (.iadd, 1) := by decide +kernel
theorem dX12_keeps_25 : decode cX12_keeps 25 = .ok (.aload_n 1, 1) := by decide +kernel
theorem dX12_keeps_26 : decode cX12_keeps 26 = .ok (.iload_n 2, 1) := by decide +kernel
theorem dX12_keeps_27 : decode cX12_keeps 27 = .ok (.iaload, 1) := by decide +kernel
theorem dX12_keeps_28 : decode cX12_keeps 28 = .ok (.iastore, 1) := by decide +kernel
theorem dX12_keeps_29 : decode cX12_keeps 29 = .ok (.iinc 2 1, 3) := by decide +kernel
theorem dX12_keeps_32 : decode cX12_keeps 32 = .ok (.goto (-30), 3) := by decide +kernel
theorem dX12_keeps_35 : decode cX12_keeps 35 = .ok (.aload_n 0, 1) := by decide +kernel
theorem dX12_keeps_36 : decode cX12_keeps 36 = .ok (.getfield 7, 3) := by decide +kernel
theorem dX12_keeps_39 : decode cX12_keeps 39 = .ok (.iconst 2, 1) := by decide +kernel
theorem dX12_keeps_40 : decode cX12_keeps 40 = .ok (.dup2, 1) := by decide +kernel
theorem dX12_keeps_41 : decode cX12_keeps 41 = .ok (.iaload, 1) := by decide +kernel
theorem dX12_keeps_42 : decode cX12_keeps 42 = .ok (.iconst 1, 1) := by decide +kernel
theorem dX12_keeps_43 : decode cX12_keeps 43 = .ok (.iadd, 1) := by decide +kernel
theorem dX12_keeps_44 : decode cX12_keeps 44 = .ok (.iastore, 1) := by decide +kernel
theorem dX12_keeps_45 : decode cX12_keeps 45 = .ok (.return_, 1) := by decide +kernel
theorem dX12_acted_0 : decode cX12_acted 0 = .ok (.aload_n 0, 1) := by decide +kernel
theorem dX12_acted_1 : decode cX12_acted 1 = .ok (.getfield 257, 3) := by decide +kernel
theorem dX12_acted_4 : decode cX12_acted 4 = .ok (.bipush 8, 2) := by decide +kernel
theorem dX12_acted_6 : decode cX12_acted 6 = .ok (.if_icmp .ne 51, 3) := by decide +kernel
theorem dX12_acted_9 : decode cX12_acted 9 = .ok (.iconst 1, 1) := by decide +kernel
theorem dX12_acted_10 : decode cX12_acted 10 = .ok (.istore_n 2, 1) := by decide +kernel
theorem dX12_acted_11 : decode cX12_acted 11 = .ok (.iload_n 2, 1) := by decide +kernel
theorem dX12_acted_12 : decode cX12_acted 12 = .ok (.bipush 8, 2) := by decide +kernel
theorem dX12_acted_14 : decode cX12_acted 14 = .ok (.if_icmp .ge 33, 3) := by decide +kernel
theorem dX12_acted_17 : decode cX12_acted 17 = .ok (.aload_n 0, 1) := by decide +kernel
theorem dX12_acted_18 : decode cX12_acted 18 = .ok (.sipush 1108, 3) := by decide +kernel
theorem dX12_acted_21 : decode cX12_acted 21 = .ok (.sipush 554, 3) := by decide +kernel
theorem dX12_acted_24 : decode cX12_acted 24 = .ok (.iload_n 2, 1) := by decide +kernel
theorem dX12_acted_25 : decode cX12_acted 25 = .ok (.imul, 1) := by decide +kernel
theorem dX12_acted_26 : decode cX12_acted 26 = .ok (.iadd, 1) := by decide +kernel
theorem dX12_acted_27 : decode cX12_acted 27 = .ok (.sipush 1108, 3) := by decide +kernel
theorem dX12_acted_30 : decode cX12_acted 30 = .ok (.sipush 554, 3) := by decide +kernel
theorem dX12_acted_33 : decode cX12_acted 33 = .ok (.iload_n 2, 1) := by decide +kernel
theorem dX12_acted_34 : decode cX12_acted 34 = .ok (.iconst 1, 1) := by decide +kernel
theorem dX12_acted_35 : decode cX12_acted 35 = .ok (.isub, 1) := by decide +kernel
theorem dX12_acted_36 : decode cX12_acted 36 = .ok (.imul, 1) := by decide +kernel
theorem dX12_acted_37 : decode cX12_acted 37 = .ok (.iadd, 1) := by decide +kernel
theorem dX12_acted_38 : decode cX12_acted 38 = .ok (.invokevirtual 241, 3) := by decide +kernel
theorem dX12_acted_41 : decode cX12_acted 41 = .ok (.iinc 2 1, 3) := by decide +kernel
theorem dX12_acted_44 : decode cX12_acted 44 = .ok (.goto (-33), 3) := by decide +kernel
theorem dX12_acted_47 : decode cX12_acted 47 = .ok (.aload_n 0, 1) := by decide +kernel
theorem dX12_acted_48 : decode cX12_acted 48 = .ok (.dup, 1) := by decide +kernel
theorem dX12_acted_49 : decode cX12_acted 49 = .ok (.getfield 257, 3) := by decide +kernel
theorem dX12_acted_52 : decode cX12_acted 52 = .ok (.iconst 1, 1) := by decide +kernel
theorem dX12_acted_53 : decode cX12_acted 53 = .ok (.isub, 1) := by decide +kernel
theorem dX12_acted_54 : decode cX12_acted 54 = .ok (.putfield 257, 3) := by decide +kernel
theorem dX12_acted_57 : decode cX12_acted 57 = .ok (.aload_n 0, 1) := by decide +kernel
theorem dX12_acted_58 : decode cX12_acted 58 = .ok (.iload_n 1, 1) := by decide +kernel
theorem dX12_acted_59 : decode cX12_acted 59 = .ok (.sipush 1108, 3) := by decide +kernel
theorem dX12_acted_62 : decode cX12_acted 62 = .ok (.sipush 554, 3) := by decide +kernel
theorem dX12_acted_65 : decode cX12_acted 65 = .ok (.aload_n 0, 1) := by decide +kernel
theorem dX12_acted_66 : decode cX12_acted 66 = .ok (.getfield 257, 3) := by decide +kernel
theorem dX12_acted_69 : decode cX12_acted 69 = .ok (.imul, 1) := by decide +kernel
theorem dX12_acted_70 : decode cX12_acted 70 = .ok (.iadd, 1) := by decide +kernel
theorem dX12_acted_71 : decode cX12_acted 71 = .ok (.invokevirtual 241, 3) := by decide +kernel
theorem dX12_acted_74 : decode cX12_acted 74 = .ok (.aload_n 0, 1) := by decide +kernel
theorem dX12_acted_75 : decode cX12_acted 75 = .ok (.dup, 1) := by decide +kernel
theorem dX12_acted_76 : decode cX12_acted 76 = .ok (.getfield 257, 3) := by decide +kernel
theorem dX12_acted_79 : decode cX12_acted 79 = .ok (.iconst 1, 1) := by decide +kernel
theorem dX12_acted_80 : decode cX12_acted 80 = .ok (.iadd, 1) := by decide +kernel
theorem dX12_acted_81 : decode cX12_acted 81 = .ok (.putfield 257, 3) := by decide +kernel
theorem dX12_acted_84 : decode cX12_acted 84 = .ok (.return_, 1) := by decide +kernel
theorem dX12_more_0 : decode cX12_more 0 = .ok (.aload_n 1, 1) := by decide +kernel
theorem dX12_more_1 : decode cX12_more 1 = .ok (.iconst 1, 1) := by decide +kernel
theorem dX12_more_2 : decode cX12_more 2 = .ok (.iaload, 1) := by decide +kernel
theorem dX12_more_3 : decode cX12_more 3 = .ok (.bipush 24, 2) := by decide +kernel
theorem dX12_more_5 : decode cX12_more 5 = .ok (.if_icmp .le 10, 3) := by decide +kernel
theorem dX12_more_8 : decode cX12_more 8 = .ok (.aload_n 0, 1) := by decide +kernel
theorem dX12_more_9 : decode cX12_more 9 = .ok (.bipush 6, 2) := by decide +kernel
theorem dX12_more_11 : decode cX12_more 11 = .ok (.invokevirtual 238, 3) := by decide +kernel
theorem dX12_more_14 : decode cX12_more 14 = .ok (.ireturn, 1) := by decide +kernel
theorem dX12_more_15 : decode cX12_more 15 = .ok (.aload_n 0, 1) := by decide +kernel
theorem dX12_more_16 : decode cX12_more 16 = .ok (.iconst 0, 1) := by decide +kernel
theorem dX12_more_17 : decode cX12_more 17 = .ok (.invokevirtual 248, 3) := by decide +kernel
theorem dX12_more_20 : decode cX12_more 20 = .ok (.aload_n 0, 1) := by decide +kernel
theorem dX12_more_21 : decode cX12_more 21 = .ok (.aload_n 1, 1) := by decide +kernel
theorem dX12_more_22 : decode cX12_more 22 = .ok (.invokevirtual 223, 3) := by decide +kernel
theorem dX12_more_25 : decode cX12_more 25 = .ok (.aload_n 0, 1) := by decide +kernel
theorem dX12_more_26 : decode cX12_more 26 = .ok (.aload_n 0, 1) := by decide +kernel
theorem dX12_more_27 : decode cX12_more 27 = .ok (.iconst 2, 1) := by decide +kernel
theorem dX12_more_28 : decode cX12_more 28 = .ok (.invokevirtual 70, 3) := by decide +kernel
theorem dX12_more_31 : decode cX12_more 31 = .ok (.iconst 1, 1) := by decide +kernel
theorem dX12_more_32 : decode cX12_more 32 = .ok (.isub, 1) := by decide +kernel
theorem dX12_more_33 : decode cX12_more 33 = .ok (.invokevirtual 251, 3) := by decide +kernel
theorem dX12_more_36 : decode cX12_more 36 = .ok (.ireturn, 1) := by decide +kernel
